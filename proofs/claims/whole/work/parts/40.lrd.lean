section CT
variable {l : Launch} {D : va_G} {cI cJ cS : ClassId}
set_option maxHeartbeats 4000000 in
set_option maxRecDepth 100000 in
theorem c_LoopRanker_remove_bad (lr sa po u1 u2 l1 l2 l3 l4 : Nat) (us vs lu lw : Nat → Int32) (lf : Nat → Int64) (lo : Nat → Int32) (lc ln : Nat) (fs : Int32) (bs : List bT) (sc : Nat) (x y : Int64) (fd : Int32) (t : Int32) (ds : List bDt) (hI : rI us vs ds sc lu lw lf lo lc ln fs bs) (hbad : m_th sc t = 0) : wk_ki l y_LoopRanker_remove (Cond.code y_LoopRanker_remove b_LoopRanker_remove 4 (some .boolean) :: BW) rm_LoopRanker_remove D cls (kT cI cJ cS) nz [.ref lr, .int t] (rW cI cJ cS lr sa po u1 u2 l1 l2 l3 l4 us vs lu lw lf lo lc ln fs bs sc x y fd) (fun wz => ∃ lu2 lw2 lf2 lo2 lc2 ln2 fs2 bs2, wz = rW cI cJ cS lr sa po u1 u2 l1 l2 l3 l4 us vs lu2 lw2 lf2 lo2 lc2 ln2 fs2 bs2 sc x y fd ∧ rI us vs ds sc lu2 lw2 lf2 lo2 lc2 ln2 fs2 bs2) 0 := by
  refine ws_z (plainFor_of_name (by decide)) (Nat.le_of_ble_eq_true rfl) ?_
  intro p e s m below meth c A ls Q X hret hl hP hD hS
  obtain ⟨H, hH⟩ : ∃ H, H = s.heap := ⟨_, rfl⟩
  obtain ⟨locs, hlo⟩ : ∃ locs : List Loc, locs = [] := ⟨_, rfl⟩
  have hP : va_P D cls (rW cI cJ cS lr sa po u1 u2 l1 l2 l3 l4 us vs lu lw lf lo lc ln fs bs sc x y fd) H := by rw [hH]; exact hP
  have hS : va_S A s.heap H locs := by rw [hH, hlo]; exact hS
  suffices hgo : W p l e rm_LoopRanker_remove s m ([.ref lr, .int t] : List Value).toArray below meth c H locs 0 0 Q (F0 m 0 ls ([])) by rw [hH, hlo] at hgo; exact hgo
  clear hH hlo
  have hl : lv_has ls 4 [(0, .ref lr), (1, .int t)] := hl
  have hok := hI.1
  have hmap := hI.2.2.1
  have hsc := hI.2.1
  refine lv_aload_n X.1.1 X.1.2.1 d_LoopRanker_remove_0 rfl (lv_at hl 0 rfl) ?_
  refine lv_iload_n X.1.1 X.1.2.1 d_LoopRanker_remove_1 rfl (lv_at hl 1 rfl) ?_
  refine wc_Vi [.int t] 3 0 X nz_nest (c_LoopRanker_isStep lr sa po u1 u2 l1 l2 l3 l4 us vs lu lw lf lo lc ln fs bs sc x y fd t) (cw_LoopRanker_44 X.1.2.2.2.2 X.2.2.1 (by decide)) ([]) ([]) ((List.append_nil _).symm) hP hD hS rfl rfl rfl rfl hl.1 (Nat.le_of_ble_eq_true rfl) (by decide) d_LoopRanker_remove_2 (fun H locs wn hwn hP hD hS => ?_)
  subst hwn
  rw [List.nil_append, List.append_nil] at hP hD
  have hP : va_P D cls (rW cI cJ cS lr sa po u1 u2 l1 l2 l3 l4 us vs lu lw lf lo lc ln fs bs sc x y fd) H := hP
  have hD : va_D A (rW cI cJ cS lr sa po u1 u2 l1 l2 l3 l4 us vs lu lw lf lo lc ln fs bs sc x y fd) := hD
  refine wi0_ne (tgt := 10) X.1.1 X.1.2.1 d_LoopRanker_remove_5 (by decide) (fun h5 => absurd hbad h5) (fun h5 => ?_)
  refine lv_iconst (v := (0 : Int32)) X.1.1 X.1.2.1 d_LoopRanker_remove_8 (by decide) ?_
  exact hret 9 H locs ls _ _ hP hD hS d_LoopRanker_remove_9 (Or.inl rfl) (rfl) (⟨lu, lw, lf, lo, _, _, _, bs, rfl, hok, hI.2.1, hmap, hI.2.2.2⟩)
set_option maxHeartbeats 4000000 in
set_option maxRecDepth 100000 in
theorem c_LoopRanker_remove (lr sa po u1 u2 l1 l2 l3 l4 : Nat) (us vs lu lw : Nat → Int32) (lf : Nat → Int64) (lo : Nat → Int32) (lc ln : Nat) (fs : Int32) (bs : List bT) (sc : Nat) (x y : Int64) (fd : Int32) (t : Nat) (ds : List bDt) (hI : rI us vs ds sc lu lw lf lo lc ln fs bs) (ht : t < sc) : wk_ki l y_LoopRanker_remove (Cond.code y_LoopRanker_remove b_LoopRanker_remove 4 (some .boolean) :: BW) rm_LoopRanker_remove D cls (kT cI cJ cS) nz [.ref lr, .int (nI t)] (rW cI cJ cS lr sa po u1 u2 l1 l2 l3 l4 us vs lu lw lf lo lc ln fs bs sc x y fd) (fun wz => ∃ lu2 lw2 lf2 lo2 lc2 ln2 fs2 bs2, wz = rW cI cJ cS lr sa po u1 u2 l1 l2 l3 l4 us vs lu2 lw2 lf2 lo2 lc2 ln2 fs2 bs2 (sc - 1) x y fd ∧ rI us vs (dRot ds t (sc - 1)) (sc - 1) lu2 lw2 lf2 lo2 lc2 ln2 fs2 bs2) 1 := by
  refine ws_z (plainFor_of_name (by decide)) (Nat.le_of_ble_eq_true rfl) ?_
  intro p e s m below meth c A ls Q X hret hl hP hD hS
  obtain ⟨H, hH⟩ : ∃ H, H = s.heap := ⟨_, rfl⟩
  obtain ⟨locs, hlo⟩ : ∃ locs : List Loc, locs = [] := ⟨_, rfl⟩
  have hP : va_P D cls (rW cI cJ cS lr sa po u1 u2 l1 l2 l3 l4 us vs lu lw lf lo lc ln fs bs sc x y fd) H := by rw [hH]; exact hP
  have hS : va_S A s.heap H locs := by rw [hH, hlo]; exact hS
  suffices hgo : W p l e rm_LoopRanker_remove s m ([.ref lr, .int (nI t)] : List Value).toArray below meth c H locs 0 0 Q (F0 m 0 ls ([])) by rw [hH, hlo] at hgo; exact hgo
  clear hH hlo
  have hl : lv_has ls 4 [(0, .ref lr), (1, .int (nI t))] := hl
  have hok := hI.1
  have hmap := hI.2.2.1
  have hsc := hI.2.1
  refine lv_aload_n X.1.1 X.1.2.1 d_LoopRanker_remove_0 rfl (lv_at hl 0 rfl) ?_
  refine lv_iload_n X.1.1 X.1.2.1 d_LoopRanker_remove_1 rfl (lv_at hl 1 rfl) ?_
  refine wc_Vi [.int (nI t)] 3 0 X nz_nest (c_LoopRanker_isStep lr sa po u1 u2 l1 l2 l3 l4 us vs lu lw lf lo lc ln fs bs sc x y fd (nI t)) (cw_LoopRanker_44 X.1.2.2.2.2 X.2.2.1 (by decide)) ([]) ([]) ((List.append_nil _).symm) hP hD hS rfl rfl rfl rfl hl.1 (Nat.le_of_ble_eq_true rfl) (by decide) d_LoopRanker_remove_2 (fun H locs wn hwn hP hD hS => ?_)
  subst hwn
  rw [List.nil_append, List.append_nil] at hP hD
  have hP : va_P D cls (rW cI cJ cS lr sa po u1 u2 l1 l2 l3 l4 us vs lu lw lf lo lc ln fs bs sc x y fd) H := hP
  have hD : va_D A (rW cI cJ cS lr sa po u1 u2 l1 l2 l3 l4 us vs lu lw lf lo lc ln fs bs sc x y fd) := hD
  refine wi0_ne (tgt := 10) X.1.1 X.1.2.1 d_LoopRanker_remove_5 (by decide) (fun h5 => ?_) (fun h5 => absurd h5 (by rw [m_th_1 (by omega) (by omega)]; decide))
  refine lv_aload_n X.1.1 X.1.2.1 d_LoopRanker_remove_10 rfl (lv_at hl 0 rfl) ?_
  refine fg_LoopRanker_11 X hP 0 rfl rfl d_LoopRanker_remove_11 ?_
  refine lv_iload_n X.1.1 X.1.2.1 d_LoopRanker_remove_14 rfl (lv_at hl 1 rfl) ?_
  obtain ⟨b1, hb1⟩ := bs_get (bs := bs) (k := t) hok.1 (by omega)
  refine wa_ald X.1.1 X.1.2.1 X.2.1 hP 1 2 rfl rfl t rfl (by omega) (by decide) (bF_at hb1) d_LoopRanker_remove_15 ?_
  refine lv_astore_n X.1.1 X.1.2.1 d_LoopRanker_remove_16 rfl hl (by decide) rfl (fun ls hl => ?_)
  have hl : lv_has ls 4 [(2, .ref (b1.1 0)), (0, .ref lr), (1, .int (nI t))] := hl
  have hP : va_P D cls (rV cI cJ cS lr sa po u1 u2 l1 l2 l3 l4 us vs lu lw lf lo lc ln fs (bF bs) bs sc x y fd) H := hP
  have hD : va_D A (rV cI cJ cS lr sa po u1 u2 l1 l2 l3 l4 us vs lu lw lf lo lc ln fs (bF bs) bs sc x y fd) := hD
  refine lv_iload_n X.1.1 X.1.2.1 d_LoopRanker_remove_17 rfl (lv_at hl 2 rfl) ?_
  refine lv_iconst (v := (1 : Int32)) X.1.1 X.1.2.1 d_LoopRanker_remove_18 (by decide) ?_
  refine wn_add (a := t) (b := 1) X.1.1 X.1.2.1 d_LoopRanker_remove_19 ?_
  refine lv_istore_n X.1.1 X.1.2.1 d_LoopRanker_remove_20 rfl hl (by decide) rfl (fun ls hl => ?_)
  have hl : lv_has ls 4 [(3, .int (nI (t + 1))), (2, .ref (b1.1 0)), (0, .ref lr), (1, .int (nI t))] := hl
  have lp21 : ∀ (k21 : Nat) (i : Nat) (sg : Nat → Option Nat) (ls : Array Slot) (H : Heap) (locs : List Loc), i + k21 = sc → t < i → r_sg bs t i sg → lv_has ls 4 [(3, .int (nI i)), (2, .ref (b1.1 0)), (0, .ref lr), (1, .int (nI t))] → va_P D cls (rV cI cJ cS lr sa po u1 u2 l1 l2 l3 l4 us vs lu lw lf lo lc ln fs sg bs sc x y fd) H → va_D A (rV cI cJ cS lr sa po u1 u2 l1 l2 l3 l4 us vs lu lw lf lo lc ln fs sg bs sc x y fd) → va_S A s.heap H locs → W p l e rm_LoopRanker_remove s m ([.ref lr, .int (nI t)] : List Value).toArray below meth c H locs 0 0 Q (F0 m 21 ls ([])) := by
    intro k21
    induction k21 with
    | zero =>
      intro i sg ls H locs hik hit hsg hl hP hD hS
      refine lv_iload_n X.1.1 X.1.2.1 d_LoopRanker_remove_21 rfl (lv_at hl 0 rfl) ?_
      refine lv_aload_n X.1.1 X.1.2.1 d_LoopRanker_remove_22 rfl (lv_at hl 2 rfl) ?_
      refine fg_LoopRanker_23 X hP 0 rfl rfl d_LoopRanker_remove_23 ?_
      refine wn_ge (a := i) (b := sc) (tgt := 49) X.1.1 X.1.2.1 d_LoopRanker_remove_26 (by decide) (by omega) (by omega) (fun h26 => ?_) (fun h26 => by exfalso; omega)
      refine lv_aload_n X.1.1 X.1.2.1 d_LoopRanker_remove_49 rfl (lv_at hl 2 rfl) ?_
      refine lv_dup X.1.1 X.1.2.1 d_LoopRanker_remove_50 rfl ?_
      refine fg_LoopRanker_23 X hP 0 rfl rfl d_LoopRanker_remove_51 ?_
      refine lv_iconst (v := (1 : Int32)) X.1.1 X.1.2.1 d_LoopRanker_remove_54 (by decide) ?_
      refine wn_sub (a := sc) (b := 1) X.1.1 X.1.2.1 d_LoopRanker_remove_55 (by omega) ?_
      refine fp_LoopRanker_23 X hP hD hS 0 rfl rfl rfl rfl d_LoopRanker_remove_56 (fun H locs hP hD hS => ?_)
      have hP : va_P D cls (rV cI cJ cS lr sa po u1 u2 l1 l2 l3 l4 us vs lu lw lf lo lc ln fs sg bs (sc - 1) x y fd) H := hP
      have hD : va_D A (rV cI cJ cS lr sa po u1 u2 l1 l2 l3 l4 us vs lu lw lf lo lc ln fs sg bs (sc - 1) x y fd) := hD
      refine lv_aload_n X.1.1 X.1.2.1 d_LoopRanker_remove_59 rfl (lv_at hl 2 rfl) ?_
      refine fg_LoopRanker_11 X hP 0 rfl rfl d_LoopRanker_remove_60 ?_
      refine lv_aload_n X.1.1 X.1.2.1 d_LoopRanker_remove_63 rfl (lv_at hl 2 rfl) ?_
      refine fg_LoopRanker_23 X hP 0 rfl rfl d_LoopRanker_remove_64 ?_
      refine lv_aload_n X.1.1 X.1.2.1 d_LoopRanker_remove_67 rfl (lv_at hl 1 rfl) ?_
      obtain ⟨qk, hqk⟩ := wb_pos (cI := cI) hb1 _
      refine wa_ast X.1.1 X.1.2.1 X.2.1 hP hD hS 1 2 qk 1 rfl rfl hqk rfl (sc - 1) rfl (by omega) (by decide) d_LoopRanker_remove_68 (fun H locs hP hD hS => ?_)
      have hP : va_P D cls (rV cI cJ cS lr sa po u1 u2 l1 l2 l3 l4 us vs lu lw lf lo lc ln fs (va_up sg (sc - 1) (some (b1.1 0))) bs (sc - 1) x y fd) H := hP
      have hD : va_D A (rV cI cJ cS lr sa po u1 u2 l1 l2 l3 l4 us vs lu lw lf lo lc ln fs (va_up sg (sc - 1) (some (b1.1 0))) bs (sc - 1) x y fd) := hD
      refine lv_aload_n X.1.1 X.1.2.1 d_LoopRanker_remove_69 rfl (lv_at hl 2 rfl) ?_
      refine fg_LoopRanker_19 X hP 0 rfl rfl d_LoopRanker_remove_70 ?_
      refine lv_iconst (v := (0 : Int32)) X.1.1 X.1.2.1 d_LoopRanker_remove_73 (by decide) ?_
      refine fp_LoopRanker_40 X hP hD hS 2 rfl rfl rfl rfl d_LoopRanker_remove_74 (fun H locs hP hD hS => ?_)
      have hP : va_P D cls (rV cI cJ cS lr sa po u1 u2 l1 l2 l3 l4 us vs lu lw lf lo lc ln (0 : Int32) (va_up sg (sc - 1) (some (b1.1 0))) bs (sc - 1) x y fd) H := hP
      have hD : va_D A (rV cI cJ cS lr sa po u1 u2 l1 l2 l3 l4 us vs lu lw lf lo lc ln (0 : Int32) (va_up sg (sc - 1) (some (b1.1 0))) bs (sc - 1) x y fd) := hD
      have hisc : i = sc := by omega
      rw [r_sg_e (hisc ▸ hsg) (by omega) (by rw [hok.1]; omega) hb1] at hP hD
      have hP : va_P D cls (rW cI cJ cS lr sa po u1 u2 l1 l2 l3 l4 us vs lu lw lf lo lc ln (0 : Int32) (dRot bs t (sc - 1)) (sc - 1) x y fd) H := rot_P (by omega) (by rw [hok.1]; omega) hP
      have hD : va_D A (rW cI cJ cS lr sa po u1 u2 l1 l2 l3 l4 us vs lu lw lf lo lc ln (0 : Int32) (dRot bs t (sc - 1)) (sc - 1) x y fd) := rot_D (by omega) (by rw [hok.1]; omega) hD
      have hfin : ∃ lu2 lw2 lf2 lo2 lc2 ln2 fs2 bs2, rW cI cJ cS lr sa po u1 u2 l1 l2 l3 l4 us vs lu lw lf lo lc ln (0 : Int32) (dRot bs t (sc - 1)) (sc - 1) x y fd = rW cI cJ cS lr sa po u1 u2 l1 l2 l3 l4 us vs lu2 lw2 lf2 lo2 lc2 ln2 fs2 bs2 (sc - 1) x y fd ∧ rI us vs (dRot ds t (sc - 1)) (sc - 1) lu2 lw2 lf2 lo2 lc2 ln2 fs2 bs2 := ⟨lu, lw, lf, lo, lc, ln, 0, dRot bs t (sc - 1), rfl, rot_OK (by omega) (by omega) hok, by omega, by rw [dRot_map, hmap], fun z => absurd rfl z⟩
      refine lv_iconst (v := (1 : Int32)) X.1.1 X.1.2.1 d_LoopRanker_remove_77 (by decide) ?_
      exact hret 78 H locs ls _ _ hP hD hS d_LoopRanker_remove_78 (Or.inr rfl) (rfl) (hfin)
    | succ k21 ih21 =>
      intro i sg ls H locs hik hit hsg hl hP hD hS
      refine lv_iload_n X.1.1 X.1.2.1 d_LoopRanker_remove_21 rfl (lv_at hl 0 rfl) ?_
      refine lv_aload_n X.1.1 X.1.2.1 d_LoopRanker_remove_22 rfl (lv_at hl 2 rfl) ?_
      refine fg_LoopRanker_23 X hP 0 rfl rfl d_LoopRanker_remove_23 ?_
      refine wn_ge (a := i) (b := sc) (tgt := 49) X.1.1 X.1.2.1 d_LoopRanker_remove_26 (by decide) (by omega) (by omega) (fun h26 => by exfalso; omega) (fun h26 => ?_)
      refine lv_aload_n X.1.1 X.1.2.1 d_LoopRanker_remove_29 rfl (lv_at hl 2 rfl) ?_
      refine fg_LoopRanker_11 X hP 0 rfl rfl d_LoopRanker_remove_30 ?_
      refine lv_iload_n X.1.1 X.1.2.1 d_LoopRanker_remove_33 rfl (lv_at hl 0 rfl) ?_
      refine lv_iconst (v := (1 : Int32)) X.1.1 X.1.2.1 d_LoopRanker_remove_34 (by decide) ?_
      refine wn_sub (a := i) (b := 1) X.1.1 X.1.2.1 d_LoopRanker_remove_35 (by omega) ?_
      refine lv_aload_n X.1.1 X.1.2.1 d_LoopRanker_remove_36 rfl (lv_at hl 2 rfl) ?_
      refine fg_LoopRanker_11 X hP 0 rfl rfl d_LoopRanker_remove_37 ?_
      refine lv_iload_n X.1.1 X.1.2.1 d_LoopRanker_remove_40 rfl (lv_at hl 0 rfl) ?_
      obtain ⟨b2, hb2⟩ := bs_get (bs := bs) (k := i) hok.1 (by omega)
      refine wa_ald X.1.1 X.1.2.1 X.2.1 hP 1 2 rfl rfl i rfl (by omega) (by decide) (by rw [hsg, if_neg (by omega)]; exact bF_at hb2) d_LoopRanker_remove_41 ?_
      obtain ⟨qk, hqk⟩ := wb_pos (cI := cI) hb2 _
      refine wa_ast X.1.1 X.1.2.1 X.2.1 hP hD hS 1 2 qk 1 rfl rfl hqk rfl (i - 1) rfl (by omega) (by decide) d_LoopRanker_remove_42 (fun H locs hP hD hS => ?_)
      have hP : va_P D cls (rV cI cJ cS lr sa po u1 u2 l1 l2 l3 l4 us vs lu lw lf lo lc ln fs (va_up sg (i - 1) (some (b2.1 0))) bs sc x y fd) H := hP
      have hD : va_D A (rV cI cJ cS lr sa po u1 u2 l1 l2 l3 l4 us vs lu lw lf lo lc ln fs (va_up sg (i - 1) (some (b2.1 0))) bs sc x y fd) := hD
      refine lv_iinc (k := 0) (v := nI (i + 1)) X.1.1 X.1.2.1 d_LoopRanker_remove_43 hl rfl (nI_1 i) (by decide) rfl (fun ls hl => ?_)
      have hl : lv_has ls 4 [(3, .int (nI (i + 1))), (2, .ref (b1.1 0)), (0, .ref lr), (1, .int (nI t))] := hl
      refine lv_goto (tgt := 21) X.1.1 X.1.2.1 d_LoopRanker_remove_46 (by decide) ?_
      exact ih21 (i + 1) _ ls H locs (by omega) (by omega) (r_sg_s hsg hit hb2) (lv_sub hl [0, 1, 2, 3] rfl) hP hD hS
  exact lp21 (sc - (t + 1)) (t + 1) (bF bs) ls H locs (by omega) (by omega) (r_sg_0 bs t) (lv_sub hl [0, 1, 2, 3] rfl) hP hD hS
end CT
