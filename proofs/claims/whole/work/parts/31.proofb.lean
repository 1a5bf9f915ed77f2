section CT
variable {l : Launch} {D : va_G} {cI cJ cS : ClassId}
set_option maxHeartbeats 4000000 in
set_option maxRecDepth 100000 in
theorem c_Proof_addLevel (sa po u1 u2 l1 l2 l3 l4 : Nat) (us vs lu lw : Nat → Int32) (lf : Nat → Int64) (lo : Nat → Int32) (lc ln : Nat) (fs : Int32) (bs : List bT) (f sc : Nat) (hok : bsOK us vs bs) (K : Nat → Int32) (hK : ∀ (t : Nat) (b : bT), t < sc → bs[t]? = some b → b.2.2.2.2.2.1 f = K t) (Dd : Nat → bDt) (hDd : ∀ (t : Nat) (b : bT), t < sc → bs[t]? = some b → bD b = Dd t) (hf : f < 80) (hsc : sc ≤ 6) (hlc : lc < 6) (hln : c_lf lo sc 0 0 ≤ ln) (hl6 : ln ≤ 6) : wk_kv l y_Proof_addLevel (Cond.code y_Proof_addLevel b_Proof_addLevel 8 none :: BW) rm_Proof_addLevel D cls (kT cI cJ cS) nz [.ref po, .int (nI f), .ref sa, .int (nI sc)] (pW cI cJ cS sa po u1 u2 l1 l2 l3 l4 us vs lu lw lf lo lc ln fs bs) (fun wz => ∃ bs2, wz = pW cI cJ cS sa po u1 u2 l1 l2 l3 l4 us vs (upd lu lc (us f)) (upd lw lc (vs f)) (vp_updL lf lc (c_flo (c_al K Dd (us f) (vs f) lc sc 0 (lo, ln, 4611686018427387904)).2.2)) ((c_al K Dd (us f) (vs f) lc sc 0 (lo, ln, 4611686018427387904)).1) (lc + 1) ((c_al K Dd (us f) (vs f) lc sc 0 (lo, ln, 4611686018427387904)).2.1) fs bs2 ∧ bsOK us vs bs2 ∧ bs2.map bD = bs.map bD ∧ bs2.map bDK = bs.map bDK) := by
  refine ws_v (plainFor_of_name (by decide)) (Nat.le_of_ble_eq_true rfl) ?_
  intro p e s m below meth c A ls Q X hret hl hP hD hS
  obtain ⟨H, hH⟩ : ∃ H, H = s.heap := ⟨_, rfl⟩
  obtain ⟨locs, hlo⟩ : ∃ locs : List Loc, locs = [] := ⟨_, rfl⟩
  have hP : va_P D cls (pW cI cJ cS sa po u1 u2 l1 l2 l3 l4 us vs lu lw lf lo lc ln fs bs) H := by rw [hH]; exact hP
  have hS : va_S A s.heap H locs := by rw [hH, hlo]; exact hS
  suffices hgo : W p l e rm_Proof_addLevel s m ([.ref po, .int (nI f), .ref sa, .int (nI sc)] : List Value).toArray below meth c H locs 0 0 Q (F0 m 0 ls ([])) by rw [hH, hlo] at hgo; exact hgo
  clear hH hlo
  have hl : lv_has ls 8 [(0, .ref po), (1, .int (nI f)), (2, .ref sa), (3, .int (nI sc))] := hl
  have hmap : bs.map bD = bs.map bD := rfl
  refine lv_ldc2 (v := 4611686018427387904) X.1.1 X.1.2.1 X.1.2.2.2.1 (X.1.2.2.2.2 _ kc_Proof_72) d_Proof_addLevel_0 ?_
  refine lv_lstore X.1.1 X.1.2.1 d_Proof_addLevel_3 hl (by decide) rfl (fun ls hl => ?_)
  have hl : lv_has ls 8 [(4, .long (4611686018427387904 : Int64)), (0, .ref po), (1, .int (nI f)), (2, .ref sa), (3, .int (nI sc))] := hl
  refine lv_iconst (v := (0 : Int32)) X.1.1 X.1.2.1 d_Proof_addLevel_5 (by decide) ?_
  refine lv_istore X.1.1 X.1.2.1 d_Proof_addLevel_6 hl (by decide) rfl (fun ls hl => ?_)
  have hl : lv_has ls 8 [(6, .int (0 : Int32)), (4, .long (4611686018427387904 : Int64)), (0, .ref po), (1, .int (nI f)), (2, .ref sa), (3, .int (nI sc))] := hl
  have lp8 : ∀ (k8 : Nat) (i : Nat) (lB : Nat → Int32) (nB : Nat) (le : Int64) (bsB : List bT) (ls : Array Slot) (H : Heap) (locs : List Loc), i + k8 = sc → c_lf lB k8 i 0 ≤ nB → nB ≤ 6 → bsOK us vs bsB → bsB.map bD = bs.map bD → bsB.map bDK = bs.map bDK → c_al K Dd (us f) (vs f) lc k8 i (lB, nB, le) = c_al K Dd (us f) (vs f) lc sc 0 (lo, ln, 4611686018427387904) → lv_has ls 8 [(6, .int (nI i)), (4, .long le), (0, .ref po), (1, .int (nI f)), (2, .ref sa), (3, .int (nI sc))] → va_P D cls (pW cI cJ cS sa po u1 u2 l1 l2 l3 l4 us vs lu lw lf lB lc nB fs bsB) H → va_D A (pW cI cJ cS sa po u1 u2 l1 l2 l3 l4 us vs lu lw lf lB lc nB fs bsB) → va_S A s.heap H locs → W p l e rm_Proof_addLevel s m ([.ref po, .int (nI f), .ref sa, .int (nI sc)] : List Value).toArray below meth c H locs 0 0 Q (F0 m 8 ls ([])) := by
    intro k8
    induction k8 with
    | zero =>
      intro i lB nB le bsB ls H locs hik hnB hnb6 hok hmap hmK hE hl hP hD hS
      refine lv_iload X.1.1 X.1.2.1 d_Proof_addLevel_8 (lv_at hl 0 rfl) ?_
      refine lv_iload_n X.1.1 X.1.2.1 d_Proof_addLevel_10 rfl (lv_at hl 5 rfl) ?_
      refine wn_ge (a := i) (b := sc) (tgt := 117) X.1.1 X.1.2.1 d_Proof_addLevel_11 (by decide) (by omega) (by omega) (fun h11 => ?_) (fun h11 => by exfalso; omega)
      refine lv_aload_n X.1.1 X.1.2.1 d_Proof_addLevel_117 rfl (lv_at hl 2 rfl) ?_
      refine fg_Proof_18 X hP 1 rfl rfl d_Proof_addLevel_118 ?_
      refine lv_aload_n X.1.1 X.1.2.1 d_Proof_addLevel_121 rfl (lv_at hl 2 rfl) ?_
      refine fg_Proof_31 X hP 1 rfl rfl d_Proof_addLevel_122 ?_
      refine lv_aload_n X.1.1 X.1.2.1 d_Proof_addLevel_125 rfl (lv_at hl 2 rfl) ?_
      refine fg_Proof_9 X hP 1 rfl rfl d_Proof_addLevel_126 ?_
      refine lv_iload_n X.1.1 X.1.2.1 d_Proof_addLevel_129 rfl (lv_at hl 3 rfl) ?_
      refine wa_ild X.1.1 X.1.2.1 X.2.1 hP 2 0 rfl rfl f rfl (by omega) (by decide) d_Proof_addLevel_130 ?_
      refine wa_ist X.1.1 X.1.2.1 X.2.1 hP hD hS 4 0 rfl rfl lc rfl (by omega) (by decide) d_Proof_addLevel_131 (fun H locs hP hD hS => ?_)
      have hP : va_P D cls (pW cI cJ cS sa po u1 u2 l1 l2 l3 l4 us vs (upd lu lc (us f)) lw lf lB lc nB fs bsB) H := hP
      have hD : va_D A (pW cI cJ cS sa po u1 u2 l1 l2 l3 l4 us vs (upd lu lc (us f)) lw lf lB lc nB fs bsB) := hD
      refine lv_aload_n X.1.1 X.1.2.1 d_Proof_addLevel_132 rfl (lv_at hl 2 rfl) ?_
      refine fg_Proof_21 X hP 1 rfl rfl d_Proof_addLevel_133 ?_
      refine lv_aload_n X.1.1 X.1.2.1 d_Proof_addLevel_136 rfl (lv_at hl 2 rfl) ?_
      refine fg_Proof_31 X hP 1 rfl rfl d_Proof_addLevel_137 ?_
      refine lv_aload_n X.1.1 X.1.2.1 d_Proof_addLevel_140 rfl (lv_at hl 2 rfl) ?_
      refine fg_Proof_15 X hP 1 rfl rfl d_Proof_addLevel_141 ?_
      refine lv_iload_n X.1.1 X.1.2.1 d_Proof_addLevel_144 rfl (lv_at hl 3 rfl) ?_
      refine wa_ild X.1.1 X.1.2.1 X.2.1 hP 3 0 rfl rfl f rfl (by omega) (by decide) d_Proof_addLevel_145 ?_
      refine wa_ist X.1.1 X.1.2.1 X.2.1 hP hD hS 5 0 rfl rfl lc rfl (by omega) (by decide) d_Proof_addLevel_146 (fun H locs hP hD hS => ?_)
      have hP : va_P D cls (pW cI cJ cS sa po u1 u2 l1 l2 l3 l4 us vs (upd lu lc (us f)) (upd lw lc (vs f)) lf lB lc nB fs bsB) H := hP
      have hD : va_D A (pW cI cJ cS sa po u1 u2 l1 l2 l3 l4 us vs (upd lu lc (us f)) (upd lw lc (vs f)) lf lB lc nB fs bsB) := hD
      refine lv_aload_n X.1.1 X.1.2.1 d_Proof_addLevel_147 rfl (lv_at hl 2 rfl) ?_
      refine fg_Proof_24 X hP 1 rfl rfl d_Proof_addLevel_148 ?_
      refine lv_aload_n X.1.1 X.1.2.1 d_Proof_addLevel_151 rfl (lv_at hl 2 rfl) ?_
      refine fg_Proof_31 X hP 1 rfl rfl d_Proof_addLevel_152 ?_
      refine lv_lload X.1.1 X.1.2.1 d_Proof_addLevel_155 (lv_at hl 1 rfl) ?_
      refine lv_ldc2 (v := 4611686018427387904) X.1.1 X.1.2.1 X.1.2.2.2.1 (X.1.2.2.2.2 _ kc_Proof_72) d_Proof_addLevel_157 ?_
      have jn170 : ∀ (wl : Int64) (H : Heap) (locs : List Loc), wl = (c_flo le) → va_P D cls (pW cI cJ cS sa po u1 u2 l1 l2 l3 l4 us vs (upd lu lc (us f)) (upd lw lc (vs f)) lf lB lc nB fs bsB) H → va_S A s.heap H locs → W p l e rm_Proof_addLevel s m ([.ref po, .int (nI f), .ref sa, .int (nI sc)] : List Value).toArray below meth c H locs 0 0 Q (F0 m 170 ls (.long wl :: .int (nI lc) :: .ref l3 :: [])) := by
        intro wl H locs ewl hP hS
        refine wa_lst X.1.1 X.1.2.1 X.2.1 hP hD hS 6 1 rfl rfl lc rfl (by omega) (by decide) d_Proof_addLevel_170 (fun H locs hP hD hS => ?_)
        have hP : va_P D cls (pW cI cJ cS sa po u1 u2 l1 l2 l3 l4 us vs (upd lu lc (us f)) (upd lw lc (vs f)) (vp_updL lf lc wl) lB lc nB fs bsB) H := hP
        have hD : va_D A (pW cI cJ cS sa po u1 u2 l1 l2 l3 l4 us vs (upd lu lc (us f)) (upd lw lc (vs f)) (vp_updL lf lc wl) lB lc nB fs bsB) := hD
        refine lv_aload_n X.1.1 X.1.2.1 d_Proof_addLevel_171 rfl (lv_at hl 2 rfl) ?_
        refine lv_dup X.1.1 X.1.2.1 d_Proof_addLevel_172 rfl ?_
        refine fg_Proof_31 X hP 1 rfl rfl d_Proof_addLevel_173 ?_
        refine lv_iconst (v := (1 : Int32)) X.1.1 X.1.2.1 d_Proof_addLevel_176 (by decide) ?_
        refine wn_add (a := lc) (b := 1) X.1.1 X.1.2.1 d_Proof_addLevel_177 ?_
        refine fp_Proof_31 X hP hD hS 1 rfl rfl rfl rfl d_Proof_addLevel_178 (fun H locs hP hD hS => ?_)
        have hP : va_P D cls (pW cI cJ cS sa po u1 u2 l1 l2 l3 l4 us vs (upd lu lc (us f)) (upd lw lc (vs f)) (vp_updL lf lc wl) lB (lc + 1) nB fs bsB) H := hP
        have hD : va_D A (pW cI cJ cS sa po u1 u2 l1 l2 l3 l4 us vs (upd lu lc (us f)) (upd lw lc (vs f)) (vp_updL lf lc wl) lB (lc + 1) nB fs bsB) := hD
        exact hret 181 H locs ls _ hP hD hS d_Proof_addLevel_181 (⟨bsB, by show _ = _; rw [ewl, ← hE]; rfl, hok, hmap, hmK⟩)
      refine wl_ne (tgt := 168) X.1.1 X.1.2.1 d_Proof_addLevel_160 d_Proof_addLevel_161 (by decide) (fun h160 => ?_) (fun h160 => ?_)
      · refine lv_lload X.1.1 X.1.2.1 d_Proof_addLevel_168 (lv_at hl 1 rfl) ?_
        exact jn170 _ H locs (by first | (simp only [c_flo, if_neg h160]; done) | simp [c_flo, h160]) hP hS
      · refine lv_lconst (v := 0) X.1.1 X.1.2.1 d_Proof_addLevel_164 (by decide) ?_
        refine lv_goto (tgt := 170) X.1.1 X.1.2.1 d_Proof_addLevel_165 (by decide) ?_
        exact jn170 _ H locs (by first | (simp only [c_flo, if_pos h160]; done) | simp [c_flo, h160]) hP hS
    | succ k8 ih8 =>
      intro i lB nB le bsB ls H locs hik hnB hnb6 hok hmap hmK hE hl hP hD hS
      refine lv_iload X.1.1 X.1.2.1 d_Proof_addLevel_8 (lv_at hl 0 rfl) ?_
      refine lv_iload_n X.1.1 X.1.2.1 d_Proof_addLevel_10 rfl (lv_at hl 5 rfl) ?_
      refine wn_ge (a := i) (b := sc) (tgt := 117) X.1.1 X.1.2.1 d_Proof_addLevel_11 (by decide) (by omega) (by omega) (fun h11 => by exfalso; omega) (fun h11 => ?_)
      refine lv_aload_n X.1.1 X.1.2.1 d_Proof_addLevel_14 rfl (lv_at hl 2 rfl) ?_
      refine fg_Proof_28 X hP 1 rfl rfl d_Proof_addLevel_15 ?_
      refine lv_iload X.1.1 X.1.2.1 d_Proof_addLevel_18 (lv_at hl 0 rfl) ?_
      refine wa_ild X.1.1 X.1.2.1 X.2.1 hP 7 0 rfl rfl i rfl (by omega) (by decide) d_Proof_addLevel_20 ?_
      refine lv_iconst (v := (-1 : Int32)) X.1.1 X.1.2.1 d_Proof_addLevel_21 (by decide) ?_
      refine wi_ne (tgt := 111) X.1.1 X.1.2.1 d_Proof_addLevel_22 (by decide) (fun h22 => ?_) (fun h22 => ?_)
      · refine lv_iinc (k := 0) (v := nI (i + 1)) X.1.1 X.1.2.1 d_Proof_addLevel_111 hl rfl (nI_1 i) (by decide) rfl (fun ls hl => ?_)
        have hl : lv_has ls 8 [(6, .int (nI (i + 1))), (4, .long le), (0, .ref po), (1, .int (nI f)), (2, .ref sa), (3, .int (nI sc))] := hl
        refine lv_goto (tgt := 8) X.1.1 X.1.2.1 d_Proof_addLevel_114 (by decide) ?_
        exact ih8 (i + 1) lB nB le bsB ls H locs (by omega) (by have hcs := c_lf_s lB k8 i; omega) (by omega) (hok) (hmap) (hmK) (by rw [← hE]; show _ = c_al K Dd (us f) (vs f) lc k8 (i + 1) (c_as K Dd (us f) (vs f) lc i (lB, nB, le)); simp only [c_as]; rw [if_neg h22]) (lv_sub hl [0, 1, 2, 3, 4, 5] rfl) hP hD hS
      · refine lv_aload_n X.1.1 X.1.2.1 d_Proof_addLevel_25 rfl (lv_at hl 4 rfl) ?_
        refine lv_iload X.1.1 X.1.2.1 d_Proof_addLevel_26 (lv_at hl 0 rfl) ?_
        obtain ⟨b1, hb1⟩ := bs_get (bs := bsB) (k := i) hok.1 (by omega)
        refine wa_ald X.1.1 X.1.2.1 X.2.1 hP 0 2 rfl rfl i rfl (by omega) (by decide) (bF_at hb1) d_Proof_addLevel_28 ?_
        refine fg_Proof_69 X (wb_cut hP hb1) 0 rfl rfl d_Proof_addLevel_29 ?_
        refine lv_iload_n X.1.1 X.1.2.1 d_Proof_addLevel_32 rfl (lv_at hl 3 rfl) ?_
        refine wa_ild X.1.1 X.1.2.1 X.2.1 (wb_cut hP hb1) 6 0 rfl rfl f rfl (by omega) (by decide) d_Proof_addLevel_33 ?_
        have hKb : b1.2.2.2.2.2.1 f = K i := by obtain ⟨b9, hb9, e9⟩ := map_at hmK hb1; rw [show b1.2.2.2.2.2.1 = b9.2.2.2.2.2.1 from congrArg (fun z => z.2.2.2.2.1) e9]; exact hK _ _ (by omega) hb9
        have hDb : Dd i = bD b1 := by obtain ⟨b9, hb9, e9⟩ := map_at hmap hb1; rw [e9]; exact (hDd _ _ (by omega) hb9).symm
        refine wt_i hKb ?_
        refine lv_iconst (v := (2 : Int32)) X.1.1 X.1.2.1 d_Proof_addLevel_34 (by decide) ?_
        refine wi_eq (tgt := 41) X.1.1 X.1.2.1 d_Proof_addLevel_35 (by decide) (fun h35 => ?_) (fun h35 => ?_)
        · refine lv_aload_n X.1.1 X.1.2.1 d_Proof_addLevel_41 rfl (lv_at hl 2 rfl) ?_
          refine fg_Proof_28 X hP 1 rfl rfl d_Proof_addLevel_42 ?_
          refine lv_iload X.1.1 X.1.2.1 d_Proof_addLevel_45 (lv_at hl 0 rfl) ?_
          refine lv_aload_n X.1.1 X.1.2.1 d_Proof_addLevel_47 rfl (lv_at hl 2 rfl) ?_
          refine fg_Proof_31 X hP 1 rfl rfl d_Proof_addLevel_48 ?_
          refine wa_ist X.1.1 X.1.2.1 X.2.1 hP hD hS 7 0 rfl rfl i rfl (by omega) (by decide) d_Proof_addLevel_51 (fun H locs hP hD hS => ?_)
          have hP : va_P D cls (pW cI cJ cS sa po u1 u2 l1 l2 l3 l4 us vs lu lw lf (upd lB i (nI lc)) lc nB fs bsB) H := hP
          have hD : va_D A (pW cI cJ cS sa po u1 u2 l1 l2 l3 l4 us vs lu lw lf (upd lB i (nI lc)) lc nB fs bsB) := hD
          refine lv_aload_n X.1.1 X.1.2.1 d_Proof_addLevel_52 rfl (lv_at hl 2 rfl) ?_
          refine lv_dup X.1.1 X.1.2.1 d_Proof_addLevel_53 rfl ?_
          refine fg_Proof_35 X hP 1 rfl rfl d_Proof_addLevel_54 ?_
          have hn1 : 1 ≤ nB := by have hcs := c_lf_s lB k8 i; rw [if_pos h22] at hcs; omega
          refine lv_iconst (v := (1 : Int32)) X.1.1 X.1.2.1 d_Proof_addLevel_57 (by decide) ?_
          refine wn_sub (a := nB) (b := 1) X.1.1 X.1.2.1 d_Proof_addLevel_58 (by omega) ?_
          refine fp_Proof_35 X hP hD hS 1 rfl rfl rfl rfl d_Proof_addLevel_59 (fun H locs hP hD hS => ?_)
          have hP : va_P D cls (pW cI cJ cS sa po u1 u2 l1 l2 l3 l4 us vs lu lw lf (upd lB i (nI lc)) lc (nB - 1) fs bsB) H := hP
          have hD : va_D A (pW cI cJ cS sa po u1 u2 l1 l2 l3 l4 us vs lu lw lf (upd lB i (nI lc)) lc (nB - 1) fs bsB) := hD
          refine lv_aload_n X.1.1 X.1.2.1 d_Proof_addLevel_62 rfl (lv_at hl 4 rfl) ?_
          refine lv_iload X.1.1 X.1.2.1 d_Proof_addLevel_63 (lv_at hl 0 rfl) ?_
          refine wa_ald X.1.1 X.1.2.1 X.2.1 hP 0 2 rfl rfl i rfl (by omega) (by decide) (bF_at hb1) d_Proof_addLevel_65 ?_
          refine fg_Proof_74 X (wb_cut hP hb1) 0 rfl rfl d_Proof_addLevel_66 ?_
          refine lv_astore X.1.1 X.1.2.1 d_Proof_addLevel_69 hl (by decide) rfl (fun ls hl => ?_)
          have hl : lv_has ls 8 [(7, .ref (b1.1 1)), (6, .int (nI i)), (4, .long le), (0, .ref po), (1, .int (nI f)), (2, .ref sa), (3, .int (nI sc))] := hl
          refine lv_aload X.1.1 X.1.2.1 d_Proof_addLevel_71 (lv_at hl 0 rfl) ?_
          refine fg_Proof_78 X (wb_cut hP hb1) 1 rfl rfl d_Proof_addLevel_73 ?_
          refine wi0_ne (tgt := 111) X.1.1 X.1.2.1 d_Proof_addLevel_76 (by decide) (fun h76 => ?_) (fun h76 => ?_)
          · refine lv_iinc (k := 1) (v := nI (i + 1)) X.1.1 X.1.2.1 d_Proof_addLevel_111 hl rfl (nI_1 i) (by decide) rfl (fun ls hl => ?_)
            have hl : lv_has ls 8 [(6, .int (nI (i + 1))), (7, .ref (b1.1 1)), (4, .long le), (0, .ref po), (1, .int (nI f)), (2, .ref sa), (3, .int (nI sc))] := hl
            refine lv_goto (tgt := 8) X.1.1 X.1.2.1 d_Proof_addLevel_114 (by decide) ?_
            exact ih8 (i + 1) (upd lB i (nI lc)) (nB - 1) le bsB ls H locs (by omega) (by have hcs := c_lf_s lB k8 i; rw [if_pos h22] at hcs; rw [c_lf_upd _ _ _ _ _ _ (by omega)]; omega) (by omega) (hok) (hmap) (hmK) (by rw [← hE]; show _ = c_al K Dd (us f) (vs f) lc k8 (i + 1) (c_as K Dd (us f) (vs f) lc i (lB, nB, le)); simp only [c_as]; rw [if_pos h22, if_pos h35, hDb]; rw [if_neg (show ¬ (bD b1).2.1.2 = 0 from h76)]) (lv_sub hl [0, 2, 3, 4, 5, 6] rfl) hP hD hS
          · refine lv_aload X.1.1 X.1.2.1 d_Proof_addLevel_79 (lv_at hl 0 rfl) ?_
            refine lv_aload_n X.1.1 X.1.2.1 d_Proof_addLevel_81 rfl (lv_at hl 3 rfl) ?_
            refine fg_Proof_9 X hP 1 rfl rfl d_Proof_addLevel_82 ?_
            refine lv_iload_n X.1.1 X.1.2.1 d_Proof_addLevel_85 rfl (lv_at hl 4 rfl) ?_
            refine wa_ild X.1.1 X.1.2.1 X.2.1 hP 2 0 rfl rfl f rfl (by omega) (by decide) d_Proof_addLevel_86 ?_
            refine lv_ineg X.1.1 X.1.2.1 d_Proof_addLevel_87 ?_
            refine lv_aload_n X.1.1 X.1.2.1 d_Proof_addLevel_88 rfl (lv_at hl 3 rfl) ?_
            refine fg_Proof_15 X hP 1 rfl rfl d_Proof_addLevel_89 ?_
            refine lv_iload_n X.1.1 X.1.2.1 d_Proof_addLevel_92 rfl (lv_at hl 4 rfl) ?_
            refine wa_ild X.1.1 X.1.2.1 X.2.1 hP 3 0 rfl rfl f rfl (by omega) (by decide) d_Proof_addLevel_93 ?_
            refine lv_ineg X.1.1 X.1.2.1 d_Proof_addLevel_94 ?_
            refine wb_Nv [.int (-(us f)), .int (-(vs f))] 0 0 X nz_nest (c_Guard_maximise (b1.1 1) (b1.1 2) (b1.1 3) (b1.1 4) b1.2.1.1 b1.2.1.2.1 b1.2.1.2.2 b1.2.2.1.1 b1.2.2.1.2 b1.2.2.2.1.1 b1.2.2.2.1.2 (-(us f)) (-(vs f)) (hok.2 _ _ hb1).1) (cw_Proof_83 X.1.2.2.2.2 X.2.2.1 (by decide)) _ hb1 [(b1.1 0, .inr (1, [.ref (b1.1 1), .ref (b1.1 5), .ref (b1.1 6), .int b1.2.2.2.2.2.2]))] [(b1.1 5, .inl (cI, 6, .inl b1.2.2.2.2.1)), (b1.1 6, .inl (cI, 80, .inl b1.2.2.2.2.2.1))] rfl hP hD hS rfl rfl rfl rfl hl.1 (Nat.le_of_ble_eq_true rfl) (by decide) d_Proof_addLevel_95 (fun H locs wn hwn hall hS => ?_)
            subst hwn
            obtain ⟨hP, hD⟩ := hall (bS b1 (g_max b1.2.1.1 b1.2.1.2.1 b1.2.1.2.2 b1.2.2.1.1 (-(us f)) (-(vs f))).1 (g_max b1.2.1.1 b1.2.1.2.1 b1.2.1.2.2 b1.2.2.1.1 (-(us f)) (-(vs f))).2) rfl
            rw [← bF_set (b' := bS b1 (g_max b1.2.1.1 b1.2.1.2.1 b1.2.1.2.2 b1.2.2.1.1 (-(us f)) (-(vs f))).1 (g_max b1.2.1.1 b1.2.1.2.1 b1.2.1.2.2 b1.2.2.1.1 (-(us f)) (-(vs f))).2) hb1 rfl] at hP hD
            have hok := bsOK_set (b := bS b1 (g_max b1.2.1.1 b1.2.1.2.1 b1.2.1.2.2 b1.2.2.1.1 (-(us f)) (-(vs f))).1 (g_max b1.2.1.1 b1.2.1.2.1 b1.2.1.2.2 b1.2.2.1.1 (-(us f)) (-(vs f))).2) hok i (bOK_S (hok.2 _ _ hb1) _ _)
            have hmK := (map_set (g := bDK) (b' := bS b1 (g_max b1.2.1.1 b1.2.1.2.1 b1.2.1.2.2 b1.2.2.1.1 (-(us f)) (-(vs f))).1 (g_max b1.2.1.1 b1.2.1.2.1 b1.2.1.2.2 b1.2.2.1.1 (-(us f)) (-(vs f))).2) hb1 rfl).trans hmK
            have hmap := (bD_set (b' := bS b1 (g_max b1.2.1.1 b1.2.1.2.1 b1.2.1.2.2 b1.2.2.1.1 (-(us f)) (-(vs f))).1 (g_max b1.2.1.1 b1.2.1.2.1 b1.2.1.2.2 b1.2.2.1.1 (-(us f)) (-(vs f))).2) hb1 rfl).trans hmap
            have hb2x : (bsB.set i (bS b1 (g_max b1.2.1.1 b1.2.1.2.1 b1.2.1.2.2 b1.2.2.1.1 (-(us f)) (-(vs f))).1 (g_max b1.2.1.1 b1.2.1.2.1 b1.2.1.2.2 b1.2.2.1.1 (-(us f)) (-(vs f))).2))[i]? = some (bS b1 (g_max b1.2.1.1 b1.2.1.2.1 b1.2.1.2.2 b1.2.2.1.1 (-(us f)) (-(vs f))).1 (g_max b1.2.1.1 b1.2.1.2.1 b1.2.1.2.2 b1.2.2.1.1 (-(us f)) (-(vs f))).2) := bs_set_at hb1
            generalize hgen : bsB.set i (bS b1 (g_max b1.2.1.1 b1.2.1.2.1 b1.2.1.2.2 b1.2.2.1.1 (-(us f)) (-(vs f))).1 (g_max b1.2.1.1 b1.2.1.2.1 b1.2.1.2.2 b1.2.2.1.1 (-(us f)) (-(vs f))).2) = bs2 at hP hD hok hmap hb2x hmK
            have hP : va_P D cls (pW cI cJ cS sa po u1 u2 l1 l2 l3 l4 us vs lu lw lf (upd lB i (nI lc)) lc (nB - 1) fs bs2) H := hP
            have hD : va_D A (pW cI cJ cS sa po u1 u2 l1 l2 l3 l4 us vs lu lw lf (upd lB i (nI lc)) lc (nB - 1) fs bs2) := hD
            refine lv_lload X.1.1 X.1.2.1 d_Proof_addLevel_98 (lv_at hl 2 rfl) ?_
            refine lv_aload X.1.1 X.1.2.1 d_Proof_addLevel_100 (lv_at hl 0 rfl) ?_
            refine wb_Nl [] 0 0 X nz_nest (c_Guard_maximumRoundedDown ((bS b1 (g_max b1.2.1.1 b1.2.1.2.1 b1.2.1.2.2 b1.2.2.1.1 (-(us f)) (-(vs f))).1 (g_max b1.2.1.1 b1.2.1.2.1 b1.2.1.2.2 b1.2.2.1.1 (-(us f)) (-(vs f))).2).1 1) ((bS b1 (g_max b1.2.1.1 b1.2.1.2.1 b1.2.1.2.2 b1.2.2.1.1 (-(us f)) (-(vs f))).1 (g_max b1.2.1.1 b1.2.1.2.1 b1.2.1.2.2 b1.2.2.1.1 (-(us f)) (-(vs f))).2).1 2) ((bS b1 (g_max b1.2.1.1 b1.2.1.2.1 b1.2.1.2.2 b1.2.2.1.1 (-(us f)) (-(vs f))).1 (g_max b1.2.1.1 b1.2.1.2.1 b1.2.1.2.2 b1.2.2.1.1 (-(us f)) (-(vs f))).2).1 3) ((bS b1 (g_max b1.2.1.1 b1.2.1.2.1 b1.2.1.2.2 b1.2.2.1.1 (-(us f)) (-(vs f))).1 (g_max b1.2.1.1 b1.2.1.2.1 b1.2.1.2.2 b1.2.2.1.1 (-(us f)) (-(vs f))).2).1 4) (bS b1 (g_max b1.2.1.1 b1.2.1.2.1 b1.2.1.2.2 b1.2.2.1.1 (-(us f)) (-(vs f))).1 (g_max b1.2.1.1 b1.2.1.2.1 b1.2.1.2.2 b1.2.2.1.1 (-(us f)) (-(vs f))).2).2.1.1 (bS b1 (g_max b1.2.1.1 b1.2.1.2.1 b1.2.1.2.2 b1.2.2.1.1 (-(us f)) (-(vs f))).1 (g_max b1.2.1.1 b1.2.1.2.1 b1.2.1.2.2 b1.2.2.1.1 (-(us f)) (-(vs f))).2).2.1.2.1 (bS b1 (g_max b1.2.1.1 b1.2.1.2.1 b1.2.1.2.2 b1.2.2.1.1 (-(us f)) (-(vs f))).1 (g_max b1.2.1.1 b1.2.1.2.1 b1.2.1.2.2 b1.2.2.1.1 (-(us f)) (-(vs f))).2).2.1.2.2 (bS b1 (g_max b1.2.1.1 b1.2.1.2.1 b1.2.1.2.2 b1.2.2.1.1 (-(us f)) (-(vs f))).1 (g_max b1.2.1.1 b1.2.1.2.1 b1.2.1.2.2 b1.2.2.1.1 (-(us f)) (-(vs f))).2).2.2.1.1 (bS b1 (g_max b1.2.1.1 b1.2.1.2.1 b1.2.1.2.2 b1.2.2.1.1 (-(us f)) (-(vs f))).1 (g_max b1.2.1.1 b1.2.1.2.1 b1.2.1.2.2 b1.2.2.1.1 (-(us f)) (-(vs f))).2).2.2.1.2 (bS b1 (g_max b1.2.1.1 b1.2.1.2.1 b1.2.1.2.2 b1.2.2.1.1 (-(us f)) (-(vs f))).1 (g_max b1.2.1.1 b1.2.1.2.1 b1.2.1.2.2 b1.2.2.1.1 (-(us f)) (-(vs f))).2).2.2.2.1.1 (bS b1 (g_max b1.2.1.1 b1.2.1.2.1 b1.2.1.2.2 b1.2.2.1.1 (-(us f)) (-(vs f))).1 (g_max b1.2.1.1 b1.2.1.2.1 b1.2.1.2.2 b1.2.2.1.1 (-(us f)) (-(vs f))).2).2.2.2.1.2 ) (cw_Proof_87 X.1.2.2.2.2 X.2.2.1 (by decide)) _ hb2x [((bS b1 (g_max b1.2.1.1 b1.2.1.2.1 b1.2.1.2.2 b1.2.2.1.1 (-(us f)) (-(vs f))).1 (g_max b1.2.1.1 b1.2.1.2.1 b1.2.1.2.2 b1.2.2.1.1 (-(us f)) (-(vs f))).2).1 0, .inr (1, [.ref ((bS b1 (g_max b1.2.1.1 b1.2.1.2.1 b1.2.1.2.2 b1.2.2.1.1 (-(us f)) (-(vs f))).1 (g_max b1.2.1.1 b1.2.1.2.1 b1.2.1.2.2 b1.2.2.1.1 (-(us f)) (-(vs f))).2).1 1), .ref ((bS b1 (g_max b1.2.1.1 b1.2.1.2.1 b1.2.1.2.2 b1.2.2.1.1 (-(us f)) (-(vs f))).1 (g_max b1.2.1.1 b1.2.1.2.1 b1.2.1.2.2 b1.2.2.1.1 (-(us f)) (-(vs f))).2).1 5), .ref ((bS b1 (g_max b1.2.1.1 b1.2.1.2.1 b1.2.1.2.2 b1.2.2.1.1 (-(us f)) (-(vs f))).1 (g_max b1.2.1.1 b1.2.1.2.1 b1.2.1.2.2 b1.2.2.1.1 (-(us f)) (-(vs f))).2).1 6), .int (bS b1 (g_max b1.2.1.1 b1.2.1.2.1 b1.2.1.2.2 b1.2.2.1.1 (-(us f)) (-(vs f))).1 (g_max b1.2.1.1 b1.2.1.2.1 b1.2.1.2.2 b1.2.2.1.1 (-(us f)) (-(vs f))).2).2.2.2.2.2.2]))] [((bS b1 (g_max b1.2.1.1 b1.2.1.2.1 b1.2.1.2.2 b1.2.2.1.1 (-(us f)) (-(vs f))).1 (g_max b1.2.1.1 b1.2.1.2.1 b1.2.1.2.2 b1.2.2.1.1 (-(us f)) (-(vs f))).2).1 5, .inl (cI, 6, .inl (bS b1 (g_max b1.2.1.1 b1.2.1.2.1 b1.2.1.2.2 b1.2.2.1.1 (-(us f)) (-(vs f))).1 (g_max b1.2.1.1 b1.2.1.2.1 b1.2.1.2.2 b1.2.2.1.1 (-(us f)) (-(vs f))).2).2.2.2.2.1)), ((bS b1 (g_max b1.2.1.1 b1.2.1.2.1 b1.2.1.2.2 b1.2.2.1.1 (-(us f)) (-(vs f))).1 (g_max b1.2.1.1 b1.2.1.2.1 b1.2.1.2.2 b1.2.2.1.1 (-(us f)) (-(vs f))).2).1 6, .inl (cI, 80, .inl (bS b1 (g_max b1.2.1.1 b1.2.1.2.1 b1.2.1.2.2 b1.2.2.1.1 (-(us f)) (-(vs f))).1 (g_max b1.2.1.1 b1.2.1.2.1 b1.2.1.2.2 b1.2.2.1.1 (-(us f)) (-(vs f))).2).2.2.2.2.2.1))] rfl hP hD hS rfl rfl rfl rfl hl.1 (Nat.le_of_ble_eq_true rfl) (by decide) d_Proof_addLevel_102 (fun H locs wn hwn hall hS => ?_)
            subst hwn
            obtain ⟨hP, hD⟩ := hall (bS b1 (g_max b1.2.1.1 b1.2.1.2.1 b1.2.1.2.2 b1.2.2.1.1 (-(us f)) (-(vs f))).1 (g_max b1.2.1.1 b1.2.1.2.1 b1.2.1.2.2 b1.2.2.1.1 (-(us f)) (-(vs f))).2) rfl
            have hsame := bs_set_same hb2x
            rw [hsame] at hP hD
            have hP : va_P D cls (pW cI cJ cS sa po u1 u2 l1 l2 l3 l4 us vs lu lw lf (upd lB i (nI lc)) lc (nB - 1) fs bs2) H := hP
            have hD : va_D A (pW cI cJ cS sa po u1 u2 l1 l2 l3 l4 us vs lu lw lf (upd lB i (nI lc)) lc (nB - 1) fs bs2) := hD
            refine lv_lneg X.1.1 X.1.2.1 d_Proof_addLevel_105 ?_
            refine wm_min_Proof_91 X hl.1 (by decide) (Nat.le_of_ble_eq_true rfl) (by decide) d_Proof_addLevel_106 ?_
            refine lv_lstore X.1.1 X.1.2.1 d_Proof_addLevel_109 hl (by decide) rfl (fun ls hl => ?_)
            have hl : lv_has ls 8 [(4, .long (if -(g_rnd (bS b1 (g_max b1.2.1.1 b1.2.1.2.1 b1.2.1.2.2 b1.2.2.1.1 (-(us f)) (-(vs f))).1 (g_max b1.2.1.1 b1.2.1.2.1 b1.2.1.2.2 b1.2.2.1.1 (-(us f)) (-(vs f))).2).2.2.2.1.1 (bS b1 (g_max b1.2.1.1 b1.2.1.2.1 b1.2.1.2.2 b1.2.2.1.1 (-(us f)) (-(vs f))).1 (g_max b1.2.1.1 b1.2.1.2.1 b1.2.1.2.2 b1.2.2.1.1 (-(us f)) (-(vs f))).2).2.2.2.1.2) < le then -(g_rnd (bS b1 (g_max b1.2.1.1 b1.2.1.2.1 b1.2.1.2.2 b1.2.2.1.1 (-(us f)) (-(vs f))).1 (g_max b1.2.1.1 b1.2.1.2.1 b1.2.1.2.2 b1.2.2.1.1 (-(us f)) (-(vs f))).2).2.2.2.1.1 (bS b1 (g_max b1.2.1.1 b1.2.1.2.1 b1.2.1.2.2 b1.2.2.1.1 (-(us f)) (-(vs f))).1 (g_max b1.2.1.1 b1.2.1.2.1 b1.2.1.2.2 b1.2.2.1.1 (-(us f)) (-(vs f))).2).2.2.2.1.2) else le)), (7, .ref (b1.1 1)), (6, .int (nI i)), (0, .ref po), (1, .int (nI f)), (2, .ref sa), (3, .int (nI sc))] := hl
            refine lv_iinc (k := 2) (v := nI (i + 1)) X.1.1 X.1.2.1 d_Proof_addLevel_111 hl rfl (nI_1 i) (by decide) rfl (fun ls hl => ?_)
            have hl : lv_has ls 8 [(6, .int (nI (i + 1))), (4, .long (if -(g_rnd (bS b1 (g_max b1.2.1.1 b1.2.1.2.1 b1.2.1.2.2 b1.2.2.1.1 (-(us f)) (-(vs f))).1 (g_max b1.2.1.1 b1.2.1.2.1 b1.2.1.2.2 b1.2.2.1.1 (-(us f)) (-(vs f))).2).2.2.2.1.1 (bS b1 (g_max b1.2.1.1 b1.2.1.2.1 b1.2.1.2.2 b1.2.2.1.1 (-(us f)) (-(vs f))).1 (g_max b1.2.1.1 b1.2.1.2.1 b1.2.1.2.2 b1.2.2.1.1 (-(us f)) (-(vs f))).2).2.2.2.1.2) < le then -(g_rnd (bS b1 (g_max b1.2.1.1 b1.2.1.2.1 b1.2.1.2.2 b1.2.2.1.1 (-(us f)) (-(vs f))).1 (g_max b1.2.1.1 b1.2.1.2.1 b1.2.1.2.2 b1.2.2.1.1 (-(us f)) (-(vs f))).2).2.2.2.1.1 (bS b1 (g_max b1.2.1.1 b1.2.1.2.1 b1.2.1.2.2 b1.2.2.1.1 (-(us f)) (-(vs f))).1 (g_max b1.2.1.1 b1.2.1.2.1 b1.2.1.2.2 b1.2.2.1.1 (-(us f)) (-(vs f))).2).2.2.2.1.2) else le)), (7, .ref (b1.1 1)), (0, .ref po), (1, .int (nI f)), (2, .ref sa), (3, .int (nI sc))] := hl
            refine lv_goto (tgt := 8) X.1.1 X.1.2.1 d_Proof_addLevel_114 (by decide) ?_
            exact ih8 (i + 1) (upd lB i (nI lc)) (nB - 1) (if -(g_rnd (bS b1 (g_max b1.2.1.1 b1.2.1.2.1 b1.2.1.2.2 b1.2.2.1.1 (-(us f)) (-(vs f))).1 (g_max b1.2.1.1 b1.2.1.2.1 b1.2.1.2.2 b1.2.2.1.1 (-(us f)) (-(vs f))).2).2.2.2.1.1 (bS b1 (g_max b1.2.1.1 b1.2.1.2.1 b1.2.1.2.2 b1.2.2.1.1 (-(us f)) (-(vs f))).1 (g_max b1.2.1.1 b1.2.1.2.1 b1.2.1.2.2 b1.2.2.1.1 (-(us f)) (-(vs f))).2).2.2.2.1.2) < le then -(g_rnd (bS b1 (g_max b1.2.1.1 b1.2.1.2.1 b1.2.1.2.2 b1.2.2.1.1 (-(us f)) (-(vs f))).1 (g_max b1.2.1.1 b1.2.1.2.1 b1.2.1.2.2 b1.2.2.1.1 (-(us f)) (-(vs f))).2).2.2.2.1.1 (bS b1 (g_max b1.2.1.1 b1.2.1.2.1 b1.2.1.2.2 b1.2.2.1.1 (-(us f)) (-(vs f))).1 (g_max b1.2.1.1 b1.2.1.2.1 b1.2.1.2.2 b1.2.2.1.1 (-(us f)) (-(vs f))).2).2.2.2.1.2) else le) bs2 ls H locs (by omega) (by have hcs := c_lf_s lB k8 i; rw [if_pos h22] at hcs; rw [c_lf_upd _ _ _ _ _ _ (by omega)]; omega) (by omega) (hok) (hmap) (hmK) (by rw [← hE]; show _ = c_al K Dd (us f) (vs f) lc k8 (i + 1) (c_as K Dd (us f) (vs f) lc i (lB, nB, le)); simp only [c_as]; rw [if_pos h22, if_pos h35, hDb]; rw [if_pos (show (bD b1).2.1.2 = 0 from h76)]; rfl) (lv_sub hl [0, 1, 3, 4, 5, 6] rfl) hP hD hS
        · refine lv_goto (tgt := 111) X.1.1 X.1.2.1 d_Proof_addLevel_38 (by decide) ?_
          refine lv_iinc (k := 0) (v := nI (i + 1)) X.1.1 X.1.2.1 d_Proof_addLevel_111 hl rfl (nI_1 i) (by decide) rfl (fun ls hl => ?_)
          have hl : lv_has ls 8 [(6, .int (nI (i + 1))), (4, .long le), (0, .ref po), (1, .int (nI f)), (2, .ref sa), (3, .int (nI sc))] := hl
          refine lv_goto (tgt := 8) X.1.1 X.1.2.1 d_Proof_addLevel_114 (by decide) ?_
          exact ih8 (i + 1) lB nB le bsB ls H locs (by omega) (by have hcs := c_lf_s lB k8 i; omega) (by omega) (hok) (hmap) (hmK) (by rw [← hE]; show _ = c_al K Dd (us f) (vs f) lc k8 (i + 1) (c_as K Dd (us f) (vs f) lc i (lB, nB, le)); simp only [c_as]; rw [if_pos h22, if_neg h35]) (lv_sub hl [0, 1, 2, 3, 4, 5] rfl) hP hD hS
  exact lp8 sc 0 lo ln 4611686018427387904 bs ls H locs (by omega) (hln) (hl6) (hok) (rfl) (rfl) (rfl) (lv_sub hl [0, 1, 2, 3, 4, 5] rfl) hP hD hS
end CT
