section CT
variable {l : Launch} {D : va_G} {cI cJ cS : ClassId}
set_option maxHeartbeats 4000000 in
set_option maxRecDepth 100000 in
theorem c_LoopRankerModel_prove (h m1 p1 q1 r1 w1 o1 f1 s1 : Nat) (nc : Nat) (my fp fq fr up : Nat → Int32) (sm : Int32) (top bot : Int64) (lv : Nat) (ol fi se : Nat → Int32) (x y : Int64) (fd : Int32) (dn : Nat → Nat) (hmy : ∀ t, t < nc → my t = nI (dn t) ∧ dn t ≤ 4) (hc : nc ≤ 6) : wk_kv l y_LoopRankerModel_prove (Cond.code y_LoopRankerModel_prove b_LoopRankerModel_prove 2 none :: BW) rm_LoopRankerModel_prove D cls (kT cI cJ cS) nz [.ref h] (mW cI h m1 p1 q1 r1 w1 o1 f1 s1 nc my fp fq fr up sm top bot lv ol fi se x y fd) (fun wz => ∃ fi2 se2 sm2 t2 b2, wz = mW cI h m1 p1 q1 r1 w1 o1 f1 s1 nc my fp fq fr up sm2 t2 b2 ((m_ab (m_H fp fq fr up dn) nc 7 (m_in 6 0 ol) []).2.length) ((m_ab (m_H fp fq fr up dn) nc 7 (m_in 6 0 ol) []).1) fi2 se2 x y fd ∧ m_has_L (m_ab (m_H fp fq fr up dn) nc 7 (m_in 6 0 ol) []).2 fi2 se2) := by
  refine ws_v (plainFor_of_name (by decide)) (Nat.le_of_ble_eq_true rfl) ?_
  intro p e s m below meth c A ls Q X hret hl hP hD hS
  obtain ⟨H, hH⟩ : ∃ H, H = s.heap := ⟨_, rfl⟩
  obtain ⟨locs, hlo⟩ : ∃ locs : List Loc, locs = [] := ⟨_, rfl⟩
  have hP : va_P D cls (mW cI h m1 p1 q1 r1 w1 o1 f1 s1 nc my fp fq fr up sm top bot lv ol fi se x y fd) H := by rw [hH]; exact hP
  have hS : va_S A s.heap H locs := by rw [hH, hlo]; exact hS
  suffices hgo : W p l e rm_LoopRankerModel_prove s m ([.ref h] : List Value).toArray below meth c H locs 0 0 Q (F0 m 0 ls ([])) by rw [hH, hlo] at hgo; exact hgo
  clear hH hlo
  have hl : lv_has ls 2 [(0, .ref h)] := hl
  refine lv_aload_n X.1.1 X.1.2.1 d_LoopRankerModel_prove_0 rfl (lv_at hl 0 rfl) ?_
  refine lv_iconst (v := (0 : Int32)) X.1.1 X.1.2.1 d_LoopRankerModel_prove_1 (by decide) ?_
  refine fp_LoopRankerModel_102 X hP hD hS 0 rfl rfl rfl rfl d_LoopRankerModel_prove_2 (fun H locs hP hD hS => ?_)
  have hP : va_P D cls (mW cI h m1 p1 q1 r1 w1 o1 f1 s1 nc my fp fq fr up sm top bot 0 ol fi se x y fd) H := hP
  have hD : va_D A (mW cI h m1 p1 q1 r1 w1 o1 f1 s1 nc my fp fq fr up sm top bot 0 ol fi se x y fd) := hD
  refine lv_iconst (v := (0 : Int32)) X.1.1 X.1.2.1 d_LoopRankerModel_prove_5 (by decide) ?_
  refine lv_istore_n X.1.1 X.1.2.1 d_LoopRankerModel_prove_6 rfl hl (by decide) rfl (fun ls hl => ?_)
  have hl : lv_has ls 2 [(1, .int (0 : Int32)), (0, .ref h)] := hl
  have lp7 : ∀ (k7 : Nat) (i : Nat) (oI : Nat → Int32) (ls : Array Slot) (H : Heap) (locs : List Loc), i + k7 = 6 → m_in k7 i oI = m_in 6 0 ol → lv_has ls 2 [(1, .int (nI i)), (0, .ref h)] → va_P D cls (mW cI h m1 p1 q1 r1 w1 o1 f1 s1 nc my fp fq fr up sm top bot 0 oI fi se x y fd) H → va_D A (mW cI h m1 p1 q1 r1 w1 o1 f1 s1 nc my fp fq fr up sm top bot 0 oI fi se x y fd) → va_S A s.heap H locs → W p l e rm_LoopRankerModel_prove s m ([.ref h] : List Value).toArray below meth c H locs 0 0 Q (F0 m 7 ls ([])) := by
    intro k7
    induction k7 with
    | zero =>
      intro i oI ls H locs hik hI hl hP hD hS
      refine lv_iload_n X.1.1 X.1.2.1 d_LoopRankerModel_prove_7 rfl (lv_at hl 0 rfl) ?_
      refine lv_bipush (v := (6 : Int32)) X.1.1 X.1.2.1 d_LoopRankerModel_prove_8 (by decide) ?_
      refine wn_ge (a := i) (b := 6) (tgt := 26) X.1.1 X.1.2.1 d_LoopRankerModel_prove_10 (by decide) (by omega) (by omega) (fun h10 => ?_) (fun h10 => by exfalso; omega)
      refine lv_iconst (v := (1 : Int32)) X.1.1 X.1.2.1 d_LoopRankerModel_prove_26 (by decide) ?_
      refine lv_istore_n X.1.1 X.1.2.1 d_LoopRankerModel_prove_27 rfl hl (by decide) rfl (fun ls hl => ?_)
      have hl : lv_has ls 2 [(1, .int (1 : Int32)), (0, .ref h)] := hl
      have lp28 : ∀ (k28 : Nat) (mo : Int32) (oA : Nat → Int32) (L : List (Int32 × Int32)) (fA : Nat → Int32) (gA : Nat → Int32) (sA : Int32) (tA : Int64) (bA : Int64) (ls : Array Slot) (H : Heap) (locs : List Loc), (¬ mo = 0 → m_lf oA nc 0 0 < k28) → L.length + m_lf oA nc 0 0 ≤ 6 → m_has_L L fA gA → (mo = 0 → (oA, L) = m_ab (m_H fp fq fr up dn) nc 7 (m_in 6 0 ol) []) → (¬ mo = 0 → m_ab (m_H fp fq fr up dn) nc k28 oA L = m_ab (m_H fp fq fr up dn) nc 7 (m_in 6 0 ol) []) → lv_has ls 2 [(1, .int mo), (0, .ref h)] → va_P D cls (mW cI h m1 p1 q1 r1 w1 o1 f1 s1 nc my fp fq fr up sA tA bA L.length oA fA gA x y fd) H → va_D A (mW cI h m1 p1 q1 r1 w1 o1 f1 s1 nc my fp fq fr up sA tA bA L.length oA fA gA x y fd) → va_S A s.heap H locs → W p l e rm_LoopRankerModel_prove s m ([.ref h] : List Value).toArray below meth c H locs 0 0 Q (F0 m 28 ls ([])) := by
        intro k28
        induction k28 with
        | zero =>
          intro mo oA L fA gA sA tA bA ls H locs hfk hlen hL hE0 hE1 hl hP hD hS
          refine lv_iload_n X.1.1 X.1.2.1 d_LoopRankerModel_prove_28 rfl (lv_at hl 0 rfl) ?_
          refine wi0_eq (tgt := 47) X.1.1 X.1.2.1 d_LoopRankerModel_prove_29 (by decide) (fun h29 => ?_) (fun h29 => absurd (hfk h29) (Nat.not_lt_zero _))
          exact hret 47 H locs ls _ hP hD hS d_LoopRankerModel_prove_47 (⟨fA, gA, _, _, _, by rw [← (hE0 h29)], by rw [← (hE0 h29)]; exact hL⟩)
        | succ k28 ih28 =>
          intro mo oA L fA gA sA tA bA ls H locs hfk hlen hL hE0 hE1 hl hP hD hS
          refine lv_iload_n X.1.1 X.1.2.1 d_LoopRankerModel_prove_28 rfl (lv_at hl 0 rfl) ?_
          refine wi0_eq (tgt := 47) X.1.1 X.1.2.1 d_LoopRankerModel_prove_29 (by decide) (fun h29 => ?_) (fun h29 => ?_)
          · exact hret 47 H locs ls _ hP hD hS d_LoopRankerModel_prove_47 (⟨fA, gA, _, _, _, by rw [← (hE0 h29)], by rw [← (hE0 h29)]; exact hL⟩)
          · refine lv_aload_n X.1.1 X.1.2.1 d_LoopRankerModel_prove_32 rfl (lv_at hl 1 rfl) ?_
            refine wc_Vi [] 4 0 X nz_nest (c_LoopRankerModel_left h m1 p1 q1 r1 w1 o1 f1 s1 nc my fp fq fr up sA tA bA L.length oA fA gA x y fd  hc) (cw_LoopRankerModel_108 X.1.2.2.2.2 X.2.2.1 (by decide)) ([]) ([]) (rfl) hP hD hS rfl rfl rfl rfl hl.1 (Nat.le_of_ble_eq_true rfl) (by decide) d_LoopRankerModel_prove_33 (fun H locs wn hwn hP hD hS => ?_)
            subst hwn
            have hP : va_P D cls (mW cI h m1 p1 q1 r1 w1 o1 f1 s1 nc my fp fq fr up sA tA bA L.length oA fA gA x y fd) H := hP
            have hD : va_D A (mW cI h m1 p1 q1 r1 w1 o1 f1 s1 nc my fp fq fr up sA tA bA L.length oA fA gA x y fd) := hD
            have hlf := m_lf_le oA nc 0 0
            refine wn_if_le (a := m_lf oA nc 0 0) (tgt := 47) X.1.1 X.1.2.1 d_LoopRankerModel_prove_36 (by decide) (by omega) (fun h36 => ?_) (fun h36 => ?_)
            · exact hret 47 H locs ls _ hP hD hS d_LoopRankerModel_prove_47 (⟨fA, gA, _, _, _, by rw [← (show (oA, L) = m_ab (m_H fp fq fr up dn) nc 7 (m_in 6 0 ol) [] from by rw [← hE1 h29]; simp only [m_ab, if_pos h36])], by rw [← (show (oA, L) = m_ab (m_H fp fq fr up dn) nc 7 (m_in 6 0 ol) [] from by rw [← hE1 h29]; simp only [m_ab, if_pos h36])]; exact hL⟩)
            · refine lv_aload_n X.1.1 X.1.2.1 d_LoopRankerModel_prove_39 rfl (lv_at hl 1 rfl) ?_
              refine wc_Vi [] 4 0 X nz_nest (c_LoopRankerModel_level h m1 p1 q1 r1 w1 o1 f1 s1 nc my fp fq fr up sA tA bA L.length oA fA gA x y fd dn hmy hc (by omega)) (cw_LoopRankerModel_112 X.1.2.2.2.2 X.2.2.1 (by decide)) ([]) ([]) (rfl) hP hD hS rfl rfl rfl rfl hl.1 (Nat.le_of_ble_eq_true rfl) (by decide) d_LoopRankerModel_prove_40 (fun H locs wn hwn hP hD hS => ?_)
              obtain ⟨fZ, gZ, sZ, tZ, bZ, rfl, hkZ, hfZ, hgZ⟩ := hwn
              have hP : va_P D cls (mW cI h m1 p1 q1 r1 w1 o1 f1 s1 nc my fp fq fr up sZ tZ bZ (if (m_B oA (m_H fp fq fr up dn) nc (fA L.length) (gA L.length)).1 = 0 then L.length else L.length + 1) (m_lvl oA (m_H fp fq fr up dn) nc L.length (m_B oA (m_H fp fq fr up dn) nc (fA L.length) (gA L.length))) fZ gZ x y fd) H := hP
              have hD : va_D A (mW cI h m1 p1 q1 r1 w1 o1 f1 s1 nc my fp fq fr up sZ tZ bZ (if (m_B oA (m_H fp fq fr up dn) nc (fA L.length) (gA L.length)).1 = 0 then L.length else L.length + 1) (m_lvl oA (m_H fp fq fr up dn) nc L.length (m_B oA (m_H fp fq fr up dn) nc (fA L.length) (gA L.length))) fZ gZ x y fd) := hD
              have hrel := m_B_rel oA (m_H fp fq fr up dn) nc (fA L.length) (gA L.length)
              by_cases hB : (m_B oA (m_H fp fq fr up dn) nc 0 0).1 = 0
              · have hB1 : (m_B oA (m_H fp fq fr up dn) nc (fA L.length) (gA L.length)).1 = 0 := hrel.1.trans hB
                have hW := (show mW cI h m1 p1 q1 r1 w1 o1 f1 s1 nc my fp fq fr up sZ tZ bZ (if (m_B oA (m_H fp fq fr up dn) nc (fA L.length) (gA L.length)).1 = 0 then L.length else L.length + 1) (m_lvl oA (m_H fp fq fr up dn) nc L.length (m_B oA (m_H fp fq fr up dn) nc (fA L.length) (gA L.length))) fZ gZ x y fd = mW cI h m1 p1 q1 r1 w1 o1 f1 s1 nc my fp fq fr up sZ tZ bZ L.length oA fZ gZ x y fd from by unfold m_lvl; rw [if_pos hB1, if_pos hB1])
                have hP : va_P D cls (mW cI h m1 p1 q1 r1 w1 o1 f1 s1 nc my fp fq fr up sZ tZ bZ L.length oA fZ gZ x y fd) H := hW ▸ hP
                have hD : va_D A (mW cI h m1 p1 q1 r1 w1 o1 f1 s1 nc my fp fq fr up sZ tZ bZ L.length oA fZ gZ x y fd) := hW ▸ hD
                refine wt_i (if_pos hB1) ?_
                refine lv_istore_n X.1.1 X.1.2.1 d_LoopRankerModel_prove_43 rfl hl (by decide) rfl (fun ls hl => ?_)
                have hl : lv_has ls 2 [(1, .int (0 : Int32)), (0, .ref h)] := hl
                refine lv_goto (tgt := 28) X.1.1 X.1.2.1 d_LoopRankerModel_prove_44 (by decide) ?_
                exact ih28 0 oA L fZ gZ sZ tZ bZ ls H locs (fun z => absurd rfl z) hlen (m_has_L_keep hL hkZ) (fun _ => by rw [← hE1 h29]; simp only [m_ab]; rw [if_neg h36, if_pos hB]) (fun z => absurd rfl z) hl hP hD hS
              · have hB1 : ¬ (m_B oA (m_H fp fq fr up dn) nc (fA L.length) (gA L.length)).1 = 0 := fun z => hB (hrel.1.symm.trans z)
                have hW := (show mW cI h m1 p1 q1 r1 w1 o1 f1 s1 nc my fp fq fr up sZ tZ bZ (if (m_B oA (m_H fp fq fr up dn) nc (fA L.length) (gA L.length)).1 = 0 then L.length else L.length + 1) (m_lvl oA (m_H fp fq fr up dn) nc L.length (m_B oA (m_H fp fq fr up dn) nc (fA L.length) (gA L.length))) fZ gZ x y fd = mW cI h m1 p1 q1 r1 w1 o1 f1 s1 nc my fp fq fr up sZ tZ bZ ((L ++ [((m_B oA (m_H fp fq fr up dn) nc 0 0).2.1, (m_B oA (m_H fp fq fr up dn) nc 0 0).2.2)]).length) (m_lvl oA (m_H fp fq fr up dn) nc L.length (m_B oA (m_H fp fq fr up dn) nc 0 0)) fZ gZ x y fd from by rw [if_neg hB1, hrel.2 hB1, List.length_append, List.length_singleton])
                have hP : va_P D cls (mW cI h m1 p1 q1 r1 w1 o1 f1 s1 nc my fp fq fr up sZ tZ bZ ((L ++ [((m_B oA (m_H fp fq fr up dn) nc 0 0).2.1, (m_B oA (m_H fp fq fr up dn) nc 0 0).2.2)]).length) (m_lvl oA (m_H fp fq fr up dn) nc L.length (m_B oA (m_H fp fq fr up dn) nc 0 0)) fZ gZ x y fd) H := hW ▸ hP
                have hD : va_D A (mW cI h m1 p1 q1 r1 w1 o1 f1 s1 nc my fp fq fr up sZ tZ bZ ((L ++ [((m_B oA (m_H fp fq fr up dn) nc 0 0).2.1, (m_B oA (m_H fp fq fr up dn) nc 0 0).2.2)]).length) (m_lvl oA (m_H fp fq fr up dn) nc L.length (m_B oA (m_H fp fq fr up dn) nc 0 0)) fZ gZ x y fd) := hW ▸ hD
                refine wt_i (if_neg hB1) ?_
                refine lv_istore_n X.1.1 X.1.2.1 d_LoopRankerModel_prove_43 rfl hl (by decide) rfl (fun ls hl => ?_)
                have hl : lv_has ls 2 [(1, .int (1 : Int32)), (0, .ref h)] := hl
                refine lv_goto (tgt := 28) X.1.1 X.1.2.1 d_LoopRankerModel_prove_44 (by decide) ?_
                have hdec := m_lvl_lt oA (m_H fp fq fr up dn) nc L.length (by omega) hB
                exact ih28 1 _ (L ++ [((m_B oA (m_H fp fq fr up dn) nc 0 0).2.1, (m_B oA (m_H fp fq fr up dn) nc 0 0).2.2)]) fZ gZ sZ tZ bZ ls H locs (fun _ => by have := hfk h29; omega) (by rw [List.length_append, List.length_singleton]; omega) (m_has_L_app hL hkZ (by rw [hfZ, hrel.2 hB1]) (by rw [hgZ, hrel.2 hB1])) (fun z => absurd z (by decide)) (fun _ => by rw [← hE1 h29]; simp only [m_ab]; rw [if_neg h36, if_neg hB]) hl hP hD hS
      exact lp28 7 1 oI ([]) fi se sm top bot ls H locs (fun _ => by have := m_lf_le oI nc 0 0; omega) (by have := m_lf_le oI nc 0 0; show 0 + _ ≤ 6; omega) (fun j hj => absurd hj (Nat.not_lt_zero _)) (fun z => absurd z (by decide)) (fun _ => by rw [← hI]; rfl) (lv_sub hl [0, 1] rfl) hP hD hS
    | succ k7 ih7 =>
      intro i oI ls H locs hik hI hl hP hD hS
      refine lv_iload_n X.1.1 X.1.2.1 d_LoopRankerModel_prove_7 rfl (lv_at hl 0 rfl) ?_
      refine lv_bipush (v := (6 : Int32)) X.1.1 X.1.2.1 d_LoopRankerModel_prove_8 (by decide) ?_
      refine wn_ge (a := i) (b := 6) (tgt := 26) X.1.1 X.1.2.1 d_LoopRankerModel_prove_10 (by decide) (by omega) (by omega) (fun h10 => by exfalso; omega) (fun h10 => ?_)
      refine lv_aload_n X.1.1 X.1.2.1 d_LoopRankerModel_prove_13 rfl (lv_at hl 1 rfl) ?_
      refine fg_LoopRankerModel_25 X hP 0 rfl rfl d_LoopRankerModel_prove_14 ?_
      refine lv_iload_n X.1.1 X.1.2.1 d_LoopRankerModel_prove_17 rfl (lv_at hl 0 rfl) ?_
      refine lv_iconst (v := (-1 : Int32)) X.1.1 X.1.2.1 d_LoopRankerModel_prove_18 (by decide) ?_
      refine wa_ist X.1.1 X.1.2.1 X.2.1 hP hD hS 6 0 rfl rfl i rfl (by omega) (by decide) d_LoopRankerModel_prove_19 (fun H locs hP hD hS => ?_)
      have hP : va_P D cls (mW cI h m1 p1 q1 r1 w1 o1 f1 s1 nc my fp fq fr up sm top bot 0 (upd oI i (-1 : Int32)) fi se x y fd) H := hP
      have hD : va_D A (mW cI h m1 p1 q1 r1 w1 o1 f1 s1 nc my fp fq fr up sm top bot 0 (upd oI i (-1 : Int32)) fi se x y fd) := hD
      refine lv_iinc (k := 0) (v := nI (i + 1)) X.1.1 X.1.2.1 d_LoopRankerModel_prove_20 hl rfl (nI_1 i) (by decide) rfl (fun ls hl => ?_)
      have hl : lv_has ls 2 [(1, .int (nI (i + 1))), (0, .ref h)] := hl
      refine lv_goto (tgt := 7) X.1.1 X.1.2.1 d_LoopRankerModel_prove_23 (by decide) ?_
      exact ih7 (i + 1) _ ls H locs (by omega) (hI) (lv_sub hl [0, 1] rfl) hP hD hS
  exact lp7 6 0 ol ls H locs (by omega) (rfl) (lv_sub hl [0, 1] rfl) hP hD hS
end CT
