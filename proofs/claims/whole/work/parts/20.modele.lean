section CT
variable {l : Launch} {D : va_G} {cI cJ cS : ClassId}
set_option maxHeartbeats 4000000 in
set_option maxRecDepth 100000 in
theorem c_LoopRankerModel_level (h m1 p1 q1 r1 w1 o1 f1 s1 : Nat) (nc : Nat) (my fp fq fr up : Nat → Int32) (sm : Int32) (top bot : Int64) (lv : Nat) (ol fi se : Nat → Int32) (x y : Int64) (fd : Int32) (dn : Nat → Nat) (hmy : ∀ t, t < nc → my t = nI (dn t) ∧ dn t ≤ 4) (hc : nc ≤ 6) (hlv : lv < 6) : wk_ki l y_LoopRankerModel_level (Cond.code y_LoopRankerModel_level b_LoopRankerModel_level 5 (some .boolean) :: BW) rm_LoopRankerModel_level D cls (kT cI cJ cS) nz [.ref h] (mW cI h m1 p1 q1 r1 w1 o1 f1 s1 nc my fp fq fr up sm top bot lv ol fi se x y fd) (fun wz => ∃ fi2 se2 sm2 t2 b2, wz = mW cI h m1 p1 q1 r1 w1 o1 f1 s1 nc my fp fq fr up sm2 t2 b2 (if (m_B ol (m_H fp fq fr up dn) nc (fi lv) (se lv)).1 = 0 then lv else lv + 1) (m_lvl ol (m_H fp fq fr up dn) nc lv (m_B ol (m_H fp fq fr up dn) nc (fi lv) (se lv))) fi2 se2 x y fd ∧ (∀ j, ¬ j = lv → fi2 j = fi j ∧ se2 j = se j) ∧ fi2 lv = (m_B ol (m_H fp fq fr up dn) nc (fi lv) (se lv)).2.1 ∧ se2 lv = (m_B ol (m_H fp fq fr up dn) nc (fi lv) (se lv)).2.2) (if (m_B ol (m_H fp fq fr up dn) nc (fi lv) (se lv)).1 = 0 then 0 else 1) := by
  refine ws_z (plainFor_of_name (by decide)) (Nat.le_of_ble_eq_true rfl) ?_
  intro p e s m below meth c A ls Q X hret hl hP hD hS
  obtain ⟨H, hH⟩ : ∃ H, H = s.heap := ⟨_, rfl⟩
  obtain ⟨locs, hlo⟩ : ∃ locs : List Loc, locs = [] := ⟨_, rfl⟩
  have hP : va_P D cls (mW cI h m1 p1 q1 r1 w1 o1 f1 s1 nc my fp fq fr up sm top bot lv ol fi se x y fd) H := by rw [hH]; exact hP
  have hS : va_S A s.heap H locs := by rw [hH, hlo]; exact hS
  suffices hgo : W p l e rm_LoopRankerModel_level s m ([.ref h] : List Value).toArray below meth c H locs 0 0 Q (F0 m 0 ls ([])) by rw [hH, hlo] at hgo; exact hgo
  clear hH hlo
  have hl : lv_has ls 5 [(0, .ref h)] := hl
  refine lv_iconst (v := (0 : Int32)) X.1.1 X.1.2.1 d_LoopRankerModel_level_0 (by decide) ?_
  refine lv_istore_n X.1.1 X.1.2.1 d_LoopRankerModel_level_1 rfl hl (by decide) rfl (fun ls hl => ?_)
  have hl : lv_has ls 5 [(1, .int (0 : Int32)), (0, .ref h)] := hl
  refine lv_bipush (v := (-4 : Int32)) X.1.1 X.1.2.1 d_LoopRankerModel_level_2 (by decide) ?_
  refine wt_i mu_0 ?_
  refine lv_istore_n X.1.1 X.1.2.1 d_LoopRankerModel_level_4 rfl hl (by decide) rfl (fun ls hl => ?_)
  have hl : lv_has ls 5 [(2, .int (mu 0)), (1, .int (0 : Int32)), (0, .ref h)] := hl
  have lp5 : ∀ (k5 : Nat) (a : Nat) (mA : Nat) (fA : Nat → Int32) (gA : Nat → Int32) (sA : Int32) (tA : Int64) (bA : Int64) (ls : Array Slot) (H : Heap) (locs : List Loc), a + k5 = 9 → mA ≤ nc → (∀ j, ¬ j = lv → fA j = fi j ∧ gA j = se j) → m_bo (m_RR ol (m_H fp fq fr up dn) nc) k5 a (mA, fA lv, gA lv) = m_B ol (m_H fp fq fr up dn) nc (fi lv) (se lv) → lv_has ls 5 [(2, .int (mu a)), (1, .int (nI mA)), (0, .ref h)] → va_P D cls (mW cI h m1 p1 q1 r1 w1 o1 f1 s1 nc my fp fq fr up sA tA bA lv ol fA gA x y fd) H → va_D A (mW cI h m1 p1 q1 r1 w1 o1 f1 s1 nc my fp fq fr up sA tA bA lv ol fA gA x y fd) → va_S A s.heap H locs → W p l e rm_LoopRankerModel_level s m ([.ref h] : List Value).toArray below meth c H locs 0 0 Q (F0 m 5 ls ([])) := by
    intro k5
    induction k5 with
    | zero =>
      intro a mA fA gA sA tA bA ls H locs hak hmA hkA hE hl hP hD hS
      refine lv_iload_n X.1.1 X.1.2.1 d_LoopRankerModel_level_5 rfl (lv_at hl 0 rfl) ?_
      refine lv_iconst (v := (4 : Int32)) X.1.1 X.1.2.1 d_LoopRankerModel_level_6 (by decide) ?_
      refine wi_gt (tgt := 116) X.1.1 X.1.2.1 d_LoopRankerModel_level_7 (by decide) (fun h7 => ?_) (fun h7 => absurd ((mu_gt a (by omega)).mpr (by omega)) h7)
      have hEB : m_B ol (m_H fp fq fr up dn) nc (fi lv) (se lv) = (mA, fA lv, gA lv) := hE.symm
      refine lv_iload_n X.1.1 X.1.2.1 d_LoopRankerModel_level_116 rfl (lv_at hl 1 rfl) ?_
      refine wn_if_ne (a := mA) (tgt := 122) X.1.1 X.1.2.1 d_LoopRankerModel_level_117 (by decide) (by omega) (fun h117 => ?_) (fun h117 => ?_)
      · refine lv_iconst (v := (0 : Int32)) X.1.1 X.1.2.1 d_LoopRankerModel_level_122 (by decide) ?_
        refine lv_istore_n X.1.1 X.1.2.1 d_LoopRankerModel_level_123 rfl hl (by decide) rfl (fun ls hl => ?_)
        have hl : lv_has ls 5 [(2, .int (0 : Int32)), (1, .int (nI mA)), (0, .ref h)] := hl
        have lp124 : ∀ (k124 : Nat) (i : Nat) (oC : Nat → Int32) (sC : Int32) (tC : Int64) (bC : Int64) (ls : Array Slot) (H : Heap) (locs : List Loc), i + k124 = nc → m_ol (fun t => m_H fp fq fr up dn t (fA lv) (gA lv) 1) (fun t => m_H fp fq fr up dn t (fA lv) (gA lv) 2) lv k124 i oC = m_ol (fun t => m_H fp fq fr up dn t (fA lv) (gA lv) 1) (fun t => m_H fp fq fr up dn t (fA lv) (gA lv) 2) lv nc 0 ol → lv_has ls 5 [(2, .int (nI i)), (0, .ref h)] → va_P D cls (mW cI h m1 p1 q1 r1 w1 o1 f1 s1 nc my fp fq fr up sC tC bC lv oC fA gA x y fd) H → va_D A (mW cI h m1 p1 q1 r1 w1 o1 f1 s1 nc my fp fq fr up sC tC bC lv oC fA gA x y fd) → va_S A s.heap H locs → W p l e rm_LoopRankerModel_level s m ([.ref h] : List Value).toArray below meth c H locs 0 0 Q (F0 m 124 ls ([])) := by
          intro k124
          induction k124 with
          | zero =>
            intro i oC sC tC bC ls H locs hik hE3 hl hP hD hS
            refine lv_iload_n X.1.1 X.1.2.1 d_LoopRankerModel_level_124 rfl (lv_at hl 0 rfl) ?_
            refine lv_aload_n X.1.1 X.1.2.1 d_LoopRankerModel_level_125 rfl (lv_at hl 1 rfl) ?_
            refine fg_LoopRankerModel_34 X hP 0 rfl rfl d_LoopRankerModel_level_126 ?_
            refine wn_ge (a := i) (b := nc) (tgt := 211) X.1.1 X.1.2.1 d_LoopRankerModel_level_129 (by decide) (by omega) (by omega) (fun h129 => ?_) (fun h129 => by exfalso; omega)
            refine lv_aload_n X.1.1 X.1.2.1 d_LoopRankerModel_level_211 rfl (lv_at hl 1 rfl) ?_
            refine lv_dup X.1.1 X.1.2.1 d_LoopRankerModel_level_212 rfl ?_
            refine fg_LoopRankerModel_102 X hP 0 rfl rfl d_LoopRankerModel_level_213 ?_
            refine lv_iconst (v := (1 : Int32)) X.1.1 X.1.2.1 d_LoopRankerModel_level_216 (by decide) ?_
            refine wn_add (a := lv) (b := 1) X.1.1 X.1.2.1 d_LoopRankerModel_level_217 ?_
            refine fp_LoopRankerModel_102 X hP hD hS 0 rfl rfl rfl rfl d_LoopRankerModel_level_218 (fun H locs hP hD hS => ?_)
            have hP : va_P D cls (mW cI h m1 p1 q1 r1 w1 o1 f1 s1 nc my fp fq fr up sC tC bC (lv + 1) oC fA gA x y fd) H := hP
            have hD : va_D A (mW cI h m1 p1 q1 r1 w1 o1 f1 s1 nc my fp fq fr up sC tC bC (lv + 1) oC fA gA x y fd) := hD
            refine lv_iconst (v := (1 : Int32)) X.1.1 X.1.2.1 d_LoopRankerModel_level_221 (by decide) ?_
            exact hret 222 H locs ls _ _ hP hD hS d_LoopRankerModel_level_222 (Or.inr rfl) (by rw [hEB]; exact (if_neg h117).symm) (⟨fA, gA, _, _, _, by rw [hEB]; show _ = _; rw [show (mA, fA lv, gA lv).1 = mA from rfl]; unfold m_lvl; rw [if_neg h117, if_neg h117, ← hE3]; rfl, hkA, by rw [hEB], by rw [hEB]⟩)
          | succ k124 ih124 =>
            intro i oC sC tC bC ls H locs hik hE3 hl hP hD hS
            refine lv_iload_n X.1.1 X.1.2.1 d_LoopRankerModel_level_124 rfl (lv_at hl 0 rfl) ?_
            refine lv_aload_n X.1.1 X.1.2.1 d_LoopRankerModel_level_125 rfl (lv_at hl 1 rfl) ?_
            refine fg_LoopRankerModel_34 X hP 0 rfl rfl d_LoopRankerModel_level_126 ?_
            refine wn_ge (a := i) (b := nc) (tgt := 211) X.1.1 X.1.2.1 d_LoopRankerModel_level_129 (by decide) (by omega) (by omega) (fun h129 => by exfalso; omega) (fun h129 => ?_)
            refine lv_aload_n X.1.1 X.1.2.1 d_LoopRankerModel_level_132 rfl (lv_at hl 1 rfl) ?_
            refine fg_LoopRankerModel_25 X hP 0 rfl rfl d_LoopRankerModel_level_133 ?_
            refine lv_iload_n X.1.1 X.1.2.1 d_LoopRankerModel_level_136 rfl (lv_at hl 0 rfl) ?_
            refine wa_ild X.1.1 X.1.2.1 X.2.1 hP 6 0 rfl rfl i rfl (by omega) (by decide) d_LoopRankerModel_level_137 ?_
            refine wi0_ge (tgt := 205) X.1.1 X.1.2.1 d_LoopRankerModel_level_138 (by decide) (fun h138 => ?_) (fun h138 => ?_)
            · refine lv_iinc (k := 0) (v := nI (i + 1)) X.1.1 X.1.2.1 d_LoopRankerModel_level_205 hl rfl (nI_1 i) (by decide) rfl (fun ls hl => ?_)
              have hl : lv_has ls 5 [(2, .int (nI (i + 1))), (0, .ref h)] := hl
              refine lv_goto (tgt := 124) X.1.1 X.1.2.1 d_LoopRankerModel_level_208 (by decide) ?_
              exact ih124 (i + 1) oC _ _ _ ls H locs (by omega) (by rw [← hE3]; show _ = m_ol (fun t => m_H fp fq fr up dn t (fA lv) (gA lv) 1) (fun t => m_H fp fq fr up dn t (fA lv) (gA lv) 2) lv (k124 + 1) i oC; simp only [m_ol]; rw [if_neg h138]) (lv_sub hl [0, 1] rfl) hP hD hS
            · refine lv_aload_n X.1.1 X.1.2.1 d_LoopRankerModel_level_141 rfl (lv_at hl 1 rfl) ?_
              refine lv_iload_n X.1.1 X.1.2.1 d_LoopRankerModel_level_142 rfl (lv_at hl 0 rfl) ?_
              refine lv_aload_n X.1.1 X.1.2.1 d_LoopRankerModel_level_143 rfl (lv_at hl 1 rfl) ?_
              refine fg_LoopRankerModel_28 X hP 0 rfl rfl d_LoopRankerModel_level_144 ?_
              refine lv_aload_n X.1.1 X.1.2.1 d_LoopRankerModel_level_147 rfl (lv_at hl 1 rfl) ?_
              refine fg_LoopRankerModel_102 X hP 0 rfl rfl d_LoopRankerModel_level_148 ?_
              refine wa_ild X.1.1 X.1.2.1 X.2.1 hP 7 0 rfl rfl lv rfl (by omega) (by decide) d_LoopRankerModel_level_151 ?_
              refine lv_aload_n X.1.1 X.1.2.1 d_LoopRankerModel_level_152 rfl (lv_at hl 1 rfl) ?_
              refine fg_LoopRankerModel_31 X hP 0 rfl rfl d_LoopRankerModel_level_153 ?_
              refine lv_aload_n X.1.1 X.1.2.1 d_LoopRankerModel_level_156 rfl (lv_at hl 1 rfl) ?_
              refine fg_LoopRankerModel_102 X hP 0 rfl rfl d_LoopRankerModel_level_157 ?_
              refine wa_ild X.1.1 X.1.2.1 X.2.1 hP 8 0 rfl rfl lv rfl (by omega) (by decide) d_LoopRankerModel_level_160 ?_
              refine lv_iconst (v := (1 : Int32)) X.1.1 X.1.2.1 d_LoopRankerModel_level_161 (by decide) ?_
              refine wc_Vi [.int (nI i), .int (fA lv), .int (gA lv), .int (1 : Int32)] 4 0 X nz_nest (c_LoopRankerModel_has h m1 p1 q1 r1 w1 o1 f1 s1 nc my fp fq fr up sC tC bC lv oC fA gA x y fd i (fA lv) (gA lv) (1 : Int32) (dn i) (hmy i (by omega)).1 (by omega) (hmy i (by omega)).2) (cw_LoopRankerModel_91 X.1.2.2.2.2 X.2.2.1 (by decide)) ([]) ([]) (rfl) hP hD hS rfl rfl rfl rfl hl.1 (Nat.le_of_ble_eq_true rfl) (by decide) d_LoopRankerModel_level_162 (fun H locs wn hwn hP hD hS => ?_)
              obtain ⟨sm1, top1, bot1, rfl⟩ := hwn
              have hP : va_P D cls (mW cI h m1 p1 q1 r1 w1 o1 f1 s1 nc my fp fq fr up sm1 top1 bot1 lv oC fA gA x y fd) H := hP
              have hD : va_D A (mW cI h m1 p1 q1 r1 w1 o1 f1 s1 nc my fp fq fr up sm1 top1 bot1 lv oC fA gA x y fd) := hD
              refine wi0_eq (tgt := 205) X.1.1 X.1.2.1 d_LoopRankerModel_level_165 (by decide) (fun h165 => ?_) (fun h165 => ?_)
              · refine lv_iinc (k := 0) (v := nI (i + 1)) X.1.1 X.1.2.1 d_LoopRankerModel_level_205 hl rfl (nI_1 i) (by decide) rfl (fun ls hl => ?_)
                have hl : lv_has ls 5 [(2, .int (nI (i + 1))), (0, .ref h)] := hl
                refine lv_goto (tgt := 124) X.1.1 X.1.2.1 d_LoopRankerModel_level_208 (by decide) ?_
                exact ih124 (i + 1) oC _ _ _ ls H locs (by omega) (by rw [← hE3]; show _ = m_ol (fun t => m_H fp fq fr up dn t (fA lv) (gA lv) 1) (fun t => m_H fp fq fr up dn t (fA lv) (gA lv) 2) lv (k124 + 1) i oC; simp only [m_ol]; rw [if_pos h138, if_pos h165]) (lv_sub hl [0, 1] rfl) hP hD hS
              · refine lv_aload_n X.1.1 X.1.2.1 d_LoopRankerModel_level_168 rfl (lv_at hl 1 rfl) ?_
                refine lv_iload_n X.1.1 X.1.2.1 d_LoopRankerModel_level_169 rfl (lv_at hl 0 rfl) ?_
                refine lv_aload_n X.1.1 X.1.2.1 d_LoopRankerModel_level_170 rfl (lv_at hl 1 rfl) ?_
                refine fg_LoopRankerModel_28 X hP 0 rfl rfl d_LoopRankerModel_level_171 ?_
                refine lv_aload_n X.1.1 X.1.2.1 d_LoopRankerModel_level_174 rfl (lv_at hl 1 rfl) ?_
                refine fg_LoopRankerModel_102 X hP 0 rfl rfl d_LoopRankerModel_level_175 ?_
                refine wa_ild X.1.1 X.1.2.1 X.2.1 hP 7 0 rfl rfl lv rfl (by omega) (by decide) d_LoopRankerModel_level_178 ?_
                refine lv_aload_n X.1.1 X.1.2.1 d_LoopRankerModel_level_179 rfl (lv_at hl 1 rfl) ?_
                refine fg_LoopRankerModel_31 X hP 0 rfl rfl d_LoopRankerModel_level_180 ?_
                refine lv_aload_n X.1.1 X.1.2.1 d_LoopRankerModel_level_183 rfl (lv_at hl 1 rfl) ?_
                refine fg_LoopRankerModel_102 X hP 0 rfl rfl d_LoopRankerModel_level_184 ?_
                refine wa_ild X.1.1 X.1.2.1 X.2.1 hP 8 0 rfl rfl lv rfl (by omega) (by decide) d_LoopRankerModel_level_187 ?_
                refine lv_iconst (v := (2 : Int32)) X.1.1 X.1.2.1 d_LoopRankerModel_level_188 (by decide) ?_
                refine wc_Vi [.int (nI i), .int (fA lv), .int (gA lv), .int (2 : Int32)] 4 0 X nz_nest (c_LoopRankerModel_has h m1 p1 q1 r1 w1 o1 f1 s1 nc my fp fq fr up sm1 top1 bot1 lv oC fA gA x y fd i (fA lv) (gA lv) (2 : Int32) (dn i) (hmy i (by omega)).1 (by omega) (hmy i (by omega)).2) (cw_LoopRankerModel_91 X.1.2.2.2.2 X.2.2.1 (by decide)) ([]) ([]) (rfl) hP hD hS rfl rfl rfl rfl hl.1 (Nat.le_of_ble_eq_true rfl) (by decide) d_LoopRankerModel_level_189 (fun H locs wn hwn hP hD hS => ?_)
                obtain ⟨sm2, top2, bot2, rfl⟩ := hwn
                have hP : va_P D cls (mW cI h m1 p1 q1 r1 w1 o1 f1 s1 nc my fp fq fr up sm2 top2 bot2 lv oC fA gA x y fd) H := hP
                have hD : va_D A (mW cI h m1 p1 q1 r1 w1 o1 f1 s1 nc my fp fq fr up sm2 top2 bot2 lv oC fA gA x y fd) := hD
                refine wi0_eq (tgt := 205) X.1.1 X.1.2.1 d_LoopRankerModel_level_192 (by decide) (fun h192 => ?_) (fun h192 => ?_)
                · refine lv_iinc (k := 0) (v := nI (i + 1)) X.1.1 X.1.2.1 d_LoopRankerModel_level_205 hl rfl (nI_1 i) (by decide) rfl (fun ls hl => ?_)
                  have hl : lv_has ls 5 [(2, .int (nI (i + 1))), (0, .ref h)] := hl
                  refine lv_goto (tgt := 124) X.1.1 X.1.2.1 d_LoopRankerModel_level_208 (by decide) ?_
                  exact ih124 (i + 1) oC _ _ _ ls H locs (by omega) (by rw [← hE3]; show _ = m_ol (fun t => m_H fp fq fr up dn t (fA lv) (gA lv) 1) (fun t => m_H fp fq fr up dn t (fA lv) (gA lv) 2) lv (k124 + 1) i oC; simp only [m_ol]; rw [if_pos h138, if_neg h165, if_pos h192]) (lv_sub hl [0, 1] rfl) hP hD hS
                · refine lv_aload_n X.1.1 X.1.2.1 d_LoopRankerModel_level_195 rfl (lv_at hl 1 rfl) ?_
                  refine fg_LoopRankerModel_25 X hP 0 rfl rfl d_LoopRankerModel_level_196 ?_
                  refine lv_iload_n X.1.1 X.1.2.1 d_LoopRankerModel_level_199 rfl (lv_at hl 0 rfl) ?_
                  refine lv_aload_n X.1.1 X.1.2.1 d_LoopRankerModel_level_200 rfl (lv_at hl 1 rfl) ?_
                  refine fg_LoopRankerModel_102 X hP 0 rfl rfl d_LoopRankerModel_level_201 ?_
                  refine wa_ist X.1.1 X.1.2.1 X.2.1 hP hD hS 6 0 rfl rfl i rfl (by omega) (by decide) d_LoopRankerModel_level_204 (fun H locs hP hD hS => ?_)
                  have hP : va_P D cls (mW cI h m1 p1 q1 r1 w1 o1 f1 s1 nc my fp fq fr up sm2 top2 bot2 lv (upd oC i (nI lv)) fA gA x y fd) H := hP
                  have hD : va_D A (mW cI h m1 p1 q1 r1 w1 o1 f1 s1 nc my fp fq fr up sm2 top2 bot2 lv (upd oC i (nI lv)) fA gA x y fd) := hD
                  refine lv_iinc (k := 0) (v := nI (i + 1)) X.1.1 X.1.2.1 d_LoopRankerModel_level_205 hl rfl (nI_1 i) (by decide) rfl (fun ls hl => ?_)
                  have hl : lv_has ls 5 [(2, .int (nI (i + 1))), (0, .ref h)] := hl
                  refine lv_goto (tgt := 124) X.1.1 X.1.2.1 d_LoopRankerModel_level_208 (by decide) ?_
                  exact ih124 (i + 1) (upd oC i (nI lv)) _ _ _ ls H locs (by omega) (by rw [← hE3]; show _ = m_ol (fun t => m_H fp fq fr up dn t (fA lv) (gA lv) 1) (fun t => m_H fp fq fr up dn t (fA lv) (gA lv) 2) lv (k124 + 1) i oC; simp only [m_ol]; rw [if_pos h138, if_neg h165, if_neg h192]) (lv_sub hl [0, 1] rfl) hP hD hS
        exact lp124 nc 0 ol _ _ _ ls H locs (by omega) (rfl) (lv_sub hl [0, 2] rfl) hP hD hS
      · refine lv_iconst (v := (0 : Int32)) X.1.1 X.1.2.1 d_LoopRankerModel_level_120 (by decide) ?_
        exact hret 121 H locs ls _ _ hP hD hS d_LoopRankerModel_level_121 (Or.inl rfl) (by rw [hEB]; exact (if_pos h117).symm) (⟨fA, gA, _, _, _, by rw [hEB]; unfold m_lvl; rw [if_pos h117, if_pos h117], hkA, by rw [hEB], by rw [hEB]⟩)
    | succ k5 ih5 =>
      intro a mA fA gA sA tA bA ls H locs hak hmA hkA hE hl hP hD hS
      refine lv_iload_n X.1.1 X.1.2.1 d_LoopRankerModel_level_5 rfl (lv_at hl 0 rfl) ?_
      refine lv_iconst (v := (4 : Int32)) X.1.1 X.1.2.1 d_LoopRankerModel_level_6 (by decide) ?_
      refine wi_gt (tgt := 116) X.1.1 X.1.2.1 d_LoopRankerModel_level_7 (by decide) (fun h7 => absurd ((mu_gt a (by omega)).mp h7) (by omega)) (fun h7 => ?_)
      refine lv_bipush (v := (-4 : Int32)) X.1.1 X.1.2.1 d_LoopRankerModel_level_10 (by decide) ?_
      refine wt_i mu_0 ?_
      refine lv_istore_n X.1.1 X.1.2.1 d_LoopRankerModel_level_12 rfl hl (by decide) rfl (fun ls hl => ?_)
      have hl : lv_has ls 5 [(3, .int (mu 0)), (2, .int (mu a)), (1, .int (nI mA)), (0, .ref h)] := hl
      have lp13 : ∀ (k13 : Nat) (b : Nat) (mB : Nat) (fB : Nat → Int32) (gB : Nat → Int32) (sB : Int32) (tB : Int64) (bB : Int64) (ls : Array Slot) (H : Heap) (locs : List Loc), b + k13 = 9 → mB ≤ nc → (∀ j, ¬ j = lv → fB j = fi j ∧ gB j = se j) → m_bi (m_RR ol (m_H fp fq fr up dn) nc) (mu a) k13 b (mB, fB lv, gB lv) = m_bi (m_RR ol (m_H fp fq fr up dn) nc) (mu a) 9 0 (mA, fA lv, gA lv) → lv_has ls 5 [(3, .int (mu b)), (2, .int (mu a)), (1, .int (nI mB)), (0, .ref h)] → va_P D cls (mW cI h m1 p1 q1 r1 w1 o1 f1 s1 nc my fp fq fr up sB tB bB lv ol fB gB x y fd) H → va_D A (mW cI h m1 p1 q1 r1 w1 o1 f1 s1 nc my fp fq fr up sB tB bB lv ol fB gB x y fd) → va_S A s.heap H locs → W p l e rm_LoopRankerModel_level s m ([.ref h] : List Value).toArray below meth c H locs 0 0 Q (F0 m 13 ls ([])) := by
        intro k13
        induction k13 with
        | zero =>
          intro b mB fB gB sB tB bB ls H locs hbk hmB hkB hE2 hl hP hD hS
          refine lv_iload_n X.1.1 X.1.2.1 d_LoopRankerModel_level_13 rfl (lv_at hl 0 rfl) ?_
          refine lv_iconst (v := (4 : Int32)) X.1.1 X.1.2.1 d_LoopRankerModel_level_14 (by decide) ?_
          refine wi_gt (tgt := 110) X.1.1 X.1.2.1 d_LoopRankerModel_level_15 (by decide) (fun h15 => ?_) (fun h15 => absurd ((mu_gt b (by omega)).mpr (by omega)) h15)
          refine lv_iinc (k := 1) (v := mu (a + 1)) X.1.1 X.1.2.1 d_LoopRankerModel_level_110 hl rfl (mu_s a) (by decide) rfl (fun ls hl => ?_)
          have hl : lv_has ls 5 [(2, .int (mu (a + 1))), (3, .int (mu b)), (1, .int (nI mB)), (0, .ref h)] := hl
          refine lv_goto (tgt := 5) X.1.1 X.1.2.1 d_LoopRankerModel_level_113 (by decide) ?_
          exact ih5 (a + 1) mB fB gB _ _ _ ls H locs (by omega) (hmB) (hkB) (by rw [show (mB, fB lv, gB lv) = _ from hE2]; exact hE) (lv_sub hl [0, 2, 3] rfl) hP hD hS
        | succ k13 ih13 =>
          intro b mB fB gB sB tB bB ls H locs hbk hmB hkB hE2 hl hP hD hS
          refine lv_iload_n X.1.1 X.1.2.1 d_LoopRankerModel_level_13 rfl (lv_at hl 0 rfl) ?_
          refine lv_iconst (v := (4 : Int32)) X.1.1 X.1.2.1 d_LoopRankerModel_level_14 (by decide) ?_
          refine wi_gt (tgt := 110) X.1.1 X.1.2.1 d_LoopRankerModel_level_15 (by decide) (fun h15 => absurd ((mu_gt b (by omega)).mp h15) (by omega)) (fun h15 => ?_)
          refine lv_iload_n X.1.1 X.1.2.1 d_LoopRankerModel_level_18 rfl (lv_at hl 1 rfl) ?_
          refine wi0_ne (tgt := 30) X.1.1 X.1.2.1 d_LoopRankerModel_level_19 (by decide) (fun h19 => ?_) (fun h19 => ?_)
          · refine lv_aload_n X.1.1 X.1.2.1 d_LoopRankerModel_level_30 rfl (lv_at hl 3 rfl) ?_
            refine lv_iload_n X.1.1 X.1.2.1 d_LoopRankerModel_level_31 rfl (lv_at hl 1 rfl) ?_
            refine lv_iload_n X.1.1 X.1.2.1 d_LoopRankerModel_level_32 rfl (lv_at hl 0 rfl) ?_
            refine wc_Vi [.int (mu a), .int (mu b)] 4 0 X nz_nest (c_LoopRankerModel_removes h m1 p1 q1 r1 w1 o1 f1 s1 nc my fp fq fr up sB tB bB lv ol fB gB x y fd (mu a) (mu b) dn hmy hc) (cw_LoopRankerModel_98 X.1.2.2.2.2 X.2.2.1 (by decide)) ([]) ([]) (rfl) hP hD hS rfl rfl rfl rfl hl.1 (Nat.le_of_ble_eq_true rfl) (by decide) d_LoopRankerModel_level_33 (fun H locs wn hwn hP hD hS => ?_)
            obtain ⟨sm3, top3, bot3, rfl⟩ := hwn
            have hP : va_P D cls (mW cI h m1 p1 q1 r1 w1 o1 f1 s1 nc my fp fq fr up sm3 top3 bot3 lv ol fB gB x y fd) H := hP
            have hD : va_D A (mW cI h m1 p1 q1 r1 w1 o1 f1 s1 nc my fp fq fr up sm3 top3 bot3 lv ol fB gB x y fd) := hD
            have hRR : (m_RR ol (m_H fp fq fr up dn) nc) (mu a) (mu b) = m_rm ol (fun t w => m_H fp fq fr up dn t (mu a) (mu b) w) nc 0 0 := by simp only [m_RR, if_neg h19]
            have hRl := m_rm_le ol (fun t w => m_H fp fq fr up dn t (mu a) (mu b) w) nc 0 0
            refine lv_istore X.1.1 X.1.2.1 d_LoopRankerModel_level_36 hl (by decide) rfl (fun ls hl => ?_)
            have hl : lv_has ls 5 [(4, .int (nI (m_rm ol (fun t w => m_H fp fq fr up dn t (mu a) (mu b) w) nc 0 0))), (3, .int (mu b)), (2, .int (mu a)), (1, .int (nI mB)), (0, .ref h)] := hl
            refine lv_iload X.1.1 X.1.2.1 d_LoopRankerModel_level_38 (lv_at hl 0 rfl) ?_
            refine lv_iload_n X.1.1 X.1.2.1 d_LoopRankerModel_level_40 rfl (lv_at hl 3 rfl) ?_
            refine wn_gt (a := m_rm ol (fun t w => m_H fp fq fr up dn t (mu a) (mu b) w) nc 0 0) (b := mB) (tgt := 81) X.1.1 X.1.2.1 d_LoopRankerModel_level_41 (by decide) (by omega) (by omega) (fun h41 => ?_) (fun h41 => ?_)
            · refine lv_iload X.1.1 X.1.2.1 d_LoopRankerModel_level_81 (lv_at hl 0 rfl) ?_
              refine lv_istore_n X.1.1 X.1.2.1 d_LoopRankerModel_level_83 rfl hl (by decide) rfl (fun ls hl => ?_)
              have hl : lv_has ls 5 [(1, .int (nI (m_rm ol (fun t w => m_H fp fq fr up dn t (mu a) (mu b) w) nc 0 0))), (4, .int (nI (m_rm ol (fun t w => m_H fp fq fr up dn t (mu a) (mu b) w) nc 0 0))), (3, .int (mu b)), (2, .int (mu a)), (0, .ref h)] := hl
              refine lv_aload_n X.1.1 X.1.2.1 d_LoopRankerModel_level_84 rfl (lv_at hl 4 rfl) ?_
              refine fg_LoopRankerModel_28 X hP 0 rfl rfl d_LoopRankerModel_level_85 ?_
              refine lv_aload_n X.1.1 X.1.2.1 d_LoopRankerModel_level_88 rfl (lv_at hl 4 rfl) ?_
              refine fg_LoopRankerModel_102 X hP 0 rfl rfl d_LoopRankerModel_level_89 ?_
              refine lv_iload_n X.1.1 X.1.2.1 d_LoopRankerModel_level_92 rfl (lv_at hl 3 rfl) ?_
              refine wa_ist X.1.1 X.1.2.1 X.2.1 hP hD hS 7 0 rfl rfl lv rfl (by omega) (by decide) d_LoopRankerModel_level_93 (fun H locs hP hD hS => ?_)
              have hP : va_P D cls (mW cI h m1 p1 q1 r1 w1 o1 f1 s1 nc my fp fq fr up sm3 top3 bot3 lv ol (upd fB lv (mu a)) gB x y fd) H := hP
              have hD : va_D A (mW cI h m1 p1 q1 r1 w1 o1 f1 s1 nc my fp fq fr up sm3 top3 bot3 lv ol (upd fB lv (mu a)) gB x y fd) := hD
              refine lv_aload_n X.1.1 X.1.2.1 d_LoopRankerModel_level_94 rfl (lv_at hl 4 rfl) ?_
              refine fg_LoopRankerModel_31 X hP 0 rfl rfl d_LoopRankerModel_level_95 ?_
              refine lv_aload_n X.1.1 X.1.2.1 d_LoopRankerModel_level_98 rfl (lv_at hl 4 rfl) ?_
              refine fg_LoopRankerModel_102 X hP 0 rfl rfl d_LoopRankerModel_level_99 ?_
              refine lv_iload_n X.1.1 X.1.2.1 d_LoopRankerModel_level_102 rfl (lv_at hl 2 rfl) ?_
              refine wa_ist X.1.1 X.1.2.1 X.2.1 hP hD hS 8 0 rfl rfl lv rfl (by omega) (by decide) d_LoopRankerModel_level_103 (fun H locs hP hD hS => ?_)
              have hP : va_P D cls (mW cI h m1 p1 q1 r1 w1 o1 f1 s1 nc my fp fq fr up sm3 top3 bot3 lv ol (upd fB lv (mu a)) (upd gB lv (mu b)) x y fd) H := hP
              have hD : va_D A (mW cI h m1 p1 q1 r1 w1 o1 f1 s1 nc my fp fq fr up sm3 top3 bot3 lv ol (upd fB lv (mu a)) (upd gB lv (mu b)) x y fd) := hD
              refine lv_iinc (k := 2) (v := mu (b + 1)) X.1.1 X.1.2.1 d_LoopRankerModel_level_104 hl rfl (mu_s b) (by decide) rfl (fun ls hl => ?_)
              have hl : lv_has ls 5 [(3, .int (mu (b + 1))), (1, .int (nI (m_rm ol (fun t w => m_H fp fq fr up dn t (mu a) (mu b) w) nc 0 0))), (4, .int (nI (m_rm ol (fun t w => m_H fp fq fr up dn t (mu a) (mu b) w) nc 0 0))), (2, .int (mu a)), (0, .ref h)] := hl
              refine lv_goto (tgt := 13) X.1.1 X.1.2.1 d_LoopRankerModel_level_107 (by decide) ?_
              exact ih13 (b + 1) (m_rm ol (fun t w => m_H fp fq fr up dn t (mu a) (mu b) w) nc 0 0) (upd fB lv (mu a)) (upd gB lv (mu b)) _ _ _ ls H locs (by omega) (by omega) ((fun j hj => ⟨by rw [pk_un hj]; exact (hkB j hj).1, by rw [pk_un hj]; exact (hkB j hj).2⟩)) (by rw [← hE2]; show _ = m_bi (m_RR ol (m_H fp fq fr up dn) nc) (mu a) k13 (b + 1) (m_st ((m_RR ol (m_H fp fq fr up dn) nc) (mu a) (mu b)) (mu a) (mu b) (mB, fB lv, gB lv)); rw [hRR]; simp only [m_st, pk_us, if_pos h41]) (lv_sub hl [0, 3, 1, 4] rfl) hP hD hS
            · refine lv_iload X.1.1 X.1.2.1 d_LoopRankerModel_level_44 (lv_at hl 0 rfl) ?_
              refine wn_if_le (a := m_rm ol (fun t w => m_H fp fq fr up dn t (mu a) (mu b) w) nc 0 0) (tgt := 104) X.1.1 X.1.2.1 d_LoopRankerModel_level_46 (by decide) (by omega) (fun h46 => ?_) (fun h46 => ?_)
              · refine lv_iinc (k := 1) (v := mu (b + 1)) X.1.1 X.1.2.1 d_LoopRankerModel_level_104 hl rfl (mu_s b) (by decide) rfl (fun ls hl => ?_)
                have hl : lv_has ls 5 [(3, .int (mu (b + 1))), (4, .int (nI (m_rm ol (fun t w => m_H fp fq fr up dn t (mu a) (mu b) w) nc 0 0))), (2, .int (mu a)), (1, .int (nI mB)), (0, .ref h)] := hl
                refine lv_goto (tgt := 13) X.1.1 X.1.2.1 d_LoopRankerModel_level_107 (by decide) ?_
                exact ih13 (b + 1) mB fB gB _ _ _ ls H locs (by omega) (hmB) (hkB) (by rw [← hE2]; show _ = m_bi (m_RR ol (m_H fp fq fr up dn) nc) (mu a) k13 (b + 1) (m_st ((m_RR ol (m_H fp fq fr up dn) nc) (mu a) (mu b)) (mu a) (mu b) (mB, fB lv, gB lv)); rw [hRR]; simp only [m_st, if_neg h41, if_pos h46]) (lv_sub hl [0, 2, 3, 4] rfl) hP hD hS
              · refine lv_iload X.1.1 X.1.2.1 d_LoopRankerModel_level_49 (lv_at hl 0 rfl) ?_
                refine lv_iload_n X.1.1 X.1.2.1 d_LoopRankerModel_level_51 rfl (lv_at hl 3 rfl) ?_
                refine wn_ne (a := m_rm ol (fun t w => m_H fp fq fr up dn t (mu a) (mu b) w) nc 0 0) (b := mB) (tgt := 104) X.1.1 X.1.2.1 d_LoopRankerModel_level_52 (by decide) (by omega) (by omega) (fun h52 => ?_) (fun h52 => ?_)
                · refine lv_iinc (k := 1) (v := mu (b + 1)) X.1.1 X.1.2.1 d_LoopRankerModel_level_104 hl rfl (mu_s b) (by decide) rfl (fun ls hl => ?_)
                  have hl : lv_has ls 5 [(3, .int (mu (b + 1))), (4, .int (nI (m_rm ol (fun t w => m_H fp fq fr up dn t (mu a) (mu b) w) nc 0 0))), (2, .int (mu a)), (1, .int (nI mB)), (0, .ref h)] := hl
                  refine lv_goto (tgt := 13) X.1.1 X.1.2.1 d_LoopRankerModel_level_107 (by decide) ?_
                  exact ih13 (b + 1) mB fB gB _ _ _ ls H locs (by omega) (hmB) (hkB) (by rw [← hE2]; show _ = m_bi (m_RR ol (m_H fp fq fr up dn) nc) (mu a) k13 (b + 1) (m_st ((m_RR ol (m_H fp fq fr up dn) nc) (mu a) (mu b)) (mu a) (mu b) (mB, fB lv, gB lv)); rw [hRR]; simp only [m_st, if_neg h41, if_neg h46, if_neg h52]) (lv_sub hl [0, 2, 3, 4] rfl) hP hD hS
                · refine lv_iload_n X.1.1 X.1.2.1 d_LoopRankerModel_level_55 rfl (lv_at hl 2 rfl) ?_
                  refine lv_iload_n X.1.1 X.1.2.1 d_LoopRankerModel_level_56 rfl (lv_at hl 1 rfl) ?_
                  refine lv_aload_n X.1.1 X.1.2.1 d_LoopRankerModel_level_57 rfl (lv_at hl 4 rfl) ?_
                  refine fg_LoopRankerModel_28 X hP 0 rfl rfl d_LoopRankerModel_level_58 ?_
                  refine lv_aload_n X.1.1 X.1.2.1 d_LoopRankerModel_level_61 rfl (lv_at hl 4 rfl) ?_
                  refine fg_LoopRankerModel_102 X hP 0 rfl rfl d_LoopRankerModel_level_62 ?_
                  refine wa_ild X.1.1 X.1.2.1 X.2.1 hP 7 0 rfl rfl lv rfl (by omega) (by decide) d_LoopRankerModel_level_65 ?_
                  refine lv_aload_n X.1.1 X.1.2.1 d_LoopRankerModel_level_66 rfl (lv_at hl 4 rfl) ?_
                  refine fg_LoopRankerModel_31 X hP 0 rfl rfl d_LoopRankerModel_level_67 ?_
                  refine lv_aload_n X.1.1 X.1.2.1 d_LoopRankerModel_level_70 rfl (lv_at hl 4 rfl) ?_
                  refine fg_LoopRankerModel_102 X hP 0 rfl rfl d_LoopRankerModel_level_71 ?_
                  refine wa_ild X.1.1 X.1.2.1 X.2.1 hP 8 0 rfl rfl lv rfl (by omega) (by decide) d_LoopRankerModel_level_74 ?_
                  refine wc_Si [.int (mu a), .int (mu b), .int (fB lv), .int (gB lv)] X nz_nest (c_LoopRankerModel_before (mu a) (mu b) (fB lv) (gB lv) ) (cw_LoopRankerModel_105 X.1.2.2.2.2 X.2.2.1 (by decide)) (mW cI h m1 p1 q1 r1 w1 o1 f1 s1 nc my fp fq fr up sm3 top3 bot3 lv ol fB gB x y fd) ([]) (rfl) hP hD hS rfl rfl hl.1 (Nat.le_of_ble_eq_true rfl) (by decide) d_LoopRankerModel_level_75 (fun H locs wn hwn hP hD hS => ?_)
                  subst hwn
                  have hP : va_P D cls (mW cI h m1 p1 q1 r1 w1 o1 f1 s1 nc my fp fq fr up sm3 top3 bot3 lv ol fB gB x y fd) H := hP
                  have hD : va_D A (mW cI h m1 p1 q1 r1 w1 o1 f1 s1 nc my fp fq fr up sm3 top3 bot3 lv ol fB gB x y fd) := hD
                  refine wi0_eq (tgt := 104) X.1.1 X.1.2.1 d_LoopRankerModel_level_78 (by decide) (fun h78 => ?_) (fun h78 => ?_)
                  · refine lv_iinc (k := 1) (v := mu (b + 1)) X.1.1 X.1.2.1 d_LoopRankerModel_level_104 hl rfl (mu_s b) (by decide) rfl (fun ls hl => ?_)
                    have hl : lv_has ls 5 [(3, .int (mu (b + 1))), (4, .int (nI (m_rm ol (fun t w => m_H fp fq fr up dn t (mu a) (mu b) w) nc 0 0))), (2, .int (mu a)), (1, .int (nI mB)), (0, .ref h)] := hl
                    refine lv_goto (tgt := 13) X.1.1 X.1.2.1 d_LoopRankerModel_level_107 (by decide) ?_
                    exact ih13 (b + 1) mB fB gB _ _ _ ls H locs (by omega) (hmB) (hkB) (by rw [← hE2]; show _ = m_bi (m_RR ol (m_H fp fq fr up dn) nc) (mu a) k13 (b + 1) (m_st ((m_RR ol (m_H fp fq fr up dn) nc) (mu a) (mu b)) (mu a) (mu b) (mB, fB lv, gB lv)); rw [hRR]; simp only [m_st, if_neg h41, if_neg h46, if_pos h52, if_pos h78]) (lv_sub hl [0, 2, 3, 4] rfl) hP hD hS
                  · refine lv_iload X.1.1 X.1.2.1 d_LoopRankerModel_level_81 (lv_at hl 0 rfl) ?_
                    refine lv_istore_n X.1.1 X.1.2.1 d_LoopRankerModel_level_83 rfl hl (by decide) rfl (fun ls hl => ?_)
                    have hl : lv_has ls 5 [(1, .int (nI (m_rm ol (fun t w => m_H fp fq fr up dn t (mu a) (mu b) w) nc 0 0))), (4, .int (nI (m_rm ol (fun t w => m_H fp fq fr up dn t (mu a) (mu b) w) nc 0 0))), (3, .int (mu b)), (2, .int (mu a)), (0, .ref h)] := hl
                    refine lv_aload_n X.1.1 X.1.2.1 d_LoopRankerModel_level_84 rfl (lv_at hl 4 rfl) ?_
                    refine fg_LoopRankerModel_28 X hP 0 rfl rfl d_LoopRankerModel_level_85 ?_
                    refine lv_aload_n X.1.1 X.1.2.1 d_LoopRankerModel_level_88 rfl (lv_at hl 4 rfl) ?_
                    refine fg_LoopRankerModel_102 X hP 0 rfl rfl d_LoopRankerModel_level_89 ?_
                    refine lv_iload_n X.1.1 X.1.2.1 d_LoopRankerModel_level_92 rfl (lv_at hl 3 rfl) ?_
                    refine wa_ist X.1.1 X.1.2.1 X.2.1 hP hD hS 7 0 rfl rfl lv rfl (by omega) (by decide) d_LoopRankerModel_level_93 (fun H locs hP hD hS => ?_)
                    have hP : va_P D cls (mW cI h m1 p1 q1 r1 w1 o1 f1 s1 nc my fp fq fr up sm3 top3 bot3 lv ol (upd fB lv (mu a)) gB x y fd) H := hP
                    have hD : va_D A (mW cI h m1 p1 q1 r1 w1 o1 f1 s1 nc my fp fq fr up sm3 top3 bot3 lv ol (upd fB lv (mu a)) gB x y fd) := hD
                    refine lv_aload_n X.1.1 X.1.2.1 d_LoopRankerModel_level_94 rfl (lv_at hl 4 rfl) ?_
                    refine fg_LoopRankerModel_31 X hP 0 rfl rfl d_LoopRankerModel_level_95 ?_
                    refine lv_aload_n X.1.1 X.1.2.1 d_LoopRankerModel_level_98 rfl (lv_at hl 4 rfl) ?_
                    refine fg_LoopRankerModel_102 X hP 0 rfl rfl d_LoopRankerModel_level_99 ?_
                    refine lv_iload_n X.1.1 X.1.2.1 d_LoopRankerModel_level_102 rfl (lv_at hl 2 rfl) ?_
                    refine wa_ist X.1.1 X.1.2.1 X.2.1 hP hD hS 8 0 rfl rfl lv rfl (by omega) (by decide) d_LoopRankerModel_level_103 (fun H locs hP hD hS => ?_)
                    have hP : va_P D cls (mW cI h m1 p1 q1 r1 w1 o1 f1 s1 nc my fp fq fr up sm3 top3 bot3 lv ol (upd fB lv (mu a)) (upd gB lv (mu b)) x y fd) H := hP
                    have hD : va_D A (mW cI h m1 p1 q1 r1 w1 o1 f1 s1 nc my fp fq fr up sm3 top3 bot3 lv ol (upd fB lv (mu a)) (upd gB lv (mu b)) x y fd) := hD
                    refine lv_iinc (k := 2) (v := mu (b + 1)) X.1.1 X.1.2.1 d_LoopRankerModel_level_104 hl rfl (mu_s b) (by decide) rfl (fun ls hl => ?_)
                    have hl : lv_has ls 5 [(3, .int (mu (b + 1))), (1, .int (nI (m_rm ol (fun t w => m_H fp fq fr up dn t (mu a) (mu b) w) nc 0 0))), (4, .int (nI (m_rm ol (fun t w => m_H fp fq fr up dn t (mu a) (mu b) w) nc 0 0))), (2, .int (mu a)), (0, .ref h)] := hl
                    refine lv_goto (tgt := 13) X.1.1 X.1.2.1 d_LoopRankerModel_level_107 (by decide) ?_
                    exact ih13 (b + 1) (m_rm ol (fun t w => m_H fp fq fr up dn t (mu a) (mu b) w) nc 0 0) (upd fB lv (mu a)) (upd gB lv (mu b)) _ _ _ ls H locs (by omega) (by omega) ((fun j hj => ⟨by rw [pk_un hj]; exact (hkB j hj).1, by rw [pk_un hj]; exact (hkB j hj).2⟩)) (by rw [← hE2]; show _ = m_bi (m_RR ol (m_H fp fq fr up dn) nc) (mu a) k13 (b + 1) (m_st ((m_RR ol (m_H fp fq fr up dn) nc) (mu a) (mu b)) (mu a) (mu b) (mB, fB lv, gB lv)); rw [hRR]; simp only [m_st, pk_us, if_neg h41, if_neg h46, if_pos h52, if_neg h78]) (lv_sub hl [0, 3, 1, 4] rfl) hP hD hS
          · refine lv_iload_n X.1.1 X.1.2.1 d_LoopRankerModel_level_22 rfl (lv_at hl 0 rfl) ?_
            refine wi0_ne (tgt := 30) X.1.1 X.1.2.1 d_LoopRankerModel_level_23 (by decide) (fun h23 => ?_) (fun h23 => ?_)
            · refine lv_aload_n X.1.1 X.1.2.1 d_LoopRankerModel_level_30 rfl (lv_at hl 3 rfl) ?_
              refine lv_iload_n X.1.1 X.1.2.1 d_LoopRankerModel_level_31 rfl (lv_at hl 1 rfl) ?_
              refine lv_iload_n X.1.1 X.1.2.1 d_LoopRankerModel_level_32 rfl (lv_at hl 0 rfl) ?_
              refine wc_Vi [.int (mu a), .int (mu b)] 4 0 X nz_nest (c_LoopRankerModel_removes h m1 p1 q1 r1 w1 o1 f1 s1 nc my fp fq fr up sB tB bB lv ol fB gB x y fd (mu a) (mu b) dn hmy hc) (cw_LoopRankerModel_98 X.1.2.2.2.2 X.2.2.1 (by decide)) ([]) ([]) (rfl) hP hD hS rfl rfl rfl rfl hl.1 (Nat.le_of_ble_eq_true rfl) (by decide) d_LoopRankerModel_level_33 (fun H locs wn hwn hP hD hS => ?_)
              obtain ⟨sm5, top5, bot5, rfl⟩ := hwn
              have hP : va_P D cls (mW cI h m1 p1 q1 r1 w1 o1 f1 s1 nc my fp fq fr up sm5 top5 bot5 lv ol fB gB x y fd) H := hP
              have hD : va_D A (mW cI h m1 p1 q1 r1 w1 o1 f1 s1 nc my fp fq fr up sm5 top5 bot5 lv ol fB gB x y fd) := hD
              have hRR : (m_RR ol (m_H fp fq fr up dn) nc) (mu a) (mu b) = m_rm ol (fun t w => m_H fp fq fr up dn t (mu a) (mu b) w) nc 0 0 := by simp only [m_RR, if_pos h19, if_neg h23]
              have hRl := m_rm_le ol (fun t w => m_H fp fq fr up dn t (mu a) (mu b) w) nc 0 0
              refine lv_istore X.1.1 X.1.2.1 d_LoopRankerModel_level_36 hl (by decide) rfl (fun ls hl => ?_)
              have hl : lv_has ls 5 [(4, .int (nI (m_rm ol (fun t w => m_H fp fq fr up dn t (mu a) (mu b) w) nc 0 0))), (3, .int (mu b)), (2, .int (mu a)), (1, .int (nI mB)), (0, .ref h)] := hl
              refine lv_iload X.1.1 X.1.2.1 d_LoopRankerModel_level_38 (lv_at hl 0 rfl) ?_
              refine lv_iload_n X.1.1 X.1.2.1 d_LoopRankerModel_level_40 rfl (lv_at hl 3 rfl) ?_
              refine wn_gt (a := m_rm ol (fun t w => m_H fp fq fr up dn t (mu a) (mu b) w) nc 0 0) (b := mB) (tgt := 81) X.1.1 X.1.2.1 d_LoopRankerModel_level_41 (by decide) (by omega) (by omega) (fun h41 => ?_) (fun h41 => ?_)
              · refine lv_iload X.1.1 X.1.2.1 d_LoopRankerModel_level_81 (lv_at hl 0 rfl) ?_
                refine lv_istore_n X.1.1 X.1.2.1 d_LoopRankerModel_level_83 rfl hl (by decide) rfl (fun ls hl => ?_)
                have hl : lv_has ls 5 [(1, .int (nI (m_rm ol (fun t w => m_H fp fq fr up dn t (mu a) (mu b) w) nc 0 0))), (4, .int (nI (m_rm ol (fun t w => m_H fp fq fr up dn t (mu a) (mu b) w) nc 0 0))), (3, .int (mu b)), (2, .int (mu a)), (0, .ref h)] := hl
                refine lv_aload_n X.1.1 X.1.2.1 d_LoopRankerModel_level_84 rfl (lv_at hl 4 rfl) ?_
                refine fg_LoopRankerModel_28 X hP 0 rfl rfl d_LoopRankerModel_level_85 ?_
                refine lv_aload_n X.1.1 X.1.2.1 d_LoopRankerModel_level_88 rfl (lv_at hl 4 rfl) ?_
                refine fg_LoopRankerModel_102 X hP 0 rfl rfl d_LoopRankerModel_level_89 ?_
                refine lv_iload_n X.1.1 X.1.2.1 d_LoopRankerModel_level_92 rfl (lv_at hl 3 rfl) ?_
                refine wa_ist X.1.1 X.1.2.1 X.2.1 hP hD hS 7 0 rfl rfl lv rfl (by omega) (by decide) d_LoopRankerModel_level_93 (fun H locs hP hD hS => ?_)
                have hP : va_P D cls (mW cI h m1 p1 q1 r1 w1 o1 f1 s1 nc my fp fq fr up sm5 top5 bot5 lv ol (upd fB lv (mu a)) gB x y fd) H := hP
                have hD : va_D A (mW cI h m1 p1 q1 r1 w1 o1 f1 s1 nc my fp fq fr up sm5 top5 bot5 lv ol (upd fB lv (mu a)) gB x y fd) := hD
                refine lv_aload_n X.1.1 X.1.2.1 d_LoopRankerModel_level_94 rfl (lv_at hl 4 rfl) ?_
                refine fg_LoopRankerModel_31 X hP 0 rfl rfl d_LoopRankerModel_level_95 ?_
                refine lv_aload_n X.1.1 X.1.2.1 d_LoopRankerModel_level_98 rfl (lv_at hl 4 rfl) ?_
                refine fg_LoopRankerModel_102 X hP 0 rfl rfl d_LoopRankerModel_level_99 ?_
                refine lv_iload_n X.1.1 X.1.2.1 d_LoopRankerModel_level_102 rfl (lv_at hl 2 rfl) ?_
                refine wa_ist X.1.1 X.1.2.1 X.2.1 hP hD hS 8 0 rfl rfl lv rfl (by omega) (by decide) d_LoopRankerModel_level_103 (fun H locs hP hD hS => ?_)
                have hP : va_P D cls (mW cI h m1 p1 q1 r1 w1 o1 f1 s1 nc my fp fq fr up sm5 top5 bot5 lv ol (upd fB lv (mu a)) (upd gB lv (mu b)) x y fd) H := hP
                have hD : va_D A (mW cI h m1 p1 q1 r1 w1 o1 f1 s1 nc my fp fq fr up sm5 top5 bot5 lv ol (upd fB lv (mu a)) (upd gB lv (mu b)) x y fd) := hD
                refine lv_iinc (k := 2) (v := mu (b + 1)) X.1.1 X.1.2.1 d_LoopRankerModel_level_104 hl rfl (mu_s b) (by decide) rfl (fun ls hl => ?_)
                have hl : lv_has ls 5 [(3, .int (mu (b + 1))), (1, .int (nI (m_rm ol (fun t w => m_H fp fq fr up dn t (mu a) (mu b) w) nc 0 0))), (4, .int (nI (m_rm ol (fun t w => m_H fp fq fr up dn t (mu a) (mu b) w) nc 0 0))), (2, .int (mu a)), (0, .ref h)] := hl
                refine lv_goto (tgt := 13) X.1.1 X.1.2.1 d_LoopRankerModel_level_107 (by decide) ?_
                exact ih13 (b + 1) (m_rm ol (fun t w => m_H fp fq fr up dn t (mu a) (mu b) w) nc 0 0) (upd fB lv (mu a)) (upd gB lv (mu b)) _ _ _ ls H locs (by omega) (by omega) ((fun j hj => ⟨by rw [pk_un hj]; exact (hkB j hj).1, by rw [pk_un hj]; exact (hkB j hj).2⟩)) (by rw [← hE2]; show _ = m_bi (m_RR ol (m_H fp fq fr up dn) nc) (mu a) k13 (b + 1) (m_st ((m_RR ol (m_H fp fq fr up dn) nc) (mu a) (mu b)) (mu a) (mu b) (mB, fB lv, gB lv)); rw [hRR]; simp only [m_st, pk_us, if_pos h41]) (lv_sub hl [0, 3, 1, 4] rfl) hP hD hS
              · refine lv_iload X.1.1 X.1.2.1 d_LoopRankerModel_level_44 (lv_at hl 0 rfl) ?_
                refine wn_if_le (a := m_rm ol (fun t w => m_H fp fq fr up dn t (mu a) (mu b) w) nc 0 0) (tgt := 104) X.1.1 X.1.2.1 d_LoopRankerModel_level_46 (by decide) (by omega) (fun h46 => ?_) (fun h46 => ?_)
                · refine lv_iinc (k := 1) (v := mu (b + 1)) X.1.1 X.1.2.1 d_LoopRankerModel_level_104 hl rfl (mu_s b) (by decide) rfl (fun ls hl => ?_)
                  have hl : lv_has ls 5 [(3, .int (mu (b + 1))), (4, .int (nI (m_rm ol (fun t w => m_H fp fq fr up dn t (mu a) (mu b) w) nc 0 0))), (2, .int (mu a)), (1, .int (nI mB)), (0, .ref h)] := hl
                  refine lv_goto (tgt := 13) X.1.1 X.1.2.1 d_LoopRankerModel_level_107 (by decide) ?_
                  exact ih13 (b + 1) mB fB gB _ _ _ ls H locs (by omega) (hmB) (hkB) (by rw [← hE2]; show _ = m_bi (m_RR ol (m_H fp fq fr up dn) nc) (mu a) k13 (b + 1) (m_st ((m_RR ol (m_H fp fq fr up dn) nc) (mu a) (mu b)) (mu a) (mu b) (mB, fB lv, gB lv)); rw [hRR]; simp only [m_st, if_neg h41, if_pos h46]) (lv_sub hl [0, 2, 3, 4] rfl) hP hD hS
                · refine lv_iload X.1.1 X.1.2.1 d_LoopRankerModel_level_49 (lv_at hl 0 rfl) ?_
                  refine lv_iload_n X.1.1 X.1.2.1 d_LoopRankerModel_level_51 rfl (lv_at hl 3 rfl) ?_
                  refine wn_ne (a := m_rm ol (fun t w => m_H fp fq fr up dn t (mu a) (mu b) w) nc 0 0) (b := mB) (tgt := 104) X.1.1 X.1.2.1 d_LoopRankerModel_level_52 (by decide) (by omega) (by omega) (fun h52 => ?_) (fun h52 => ?_)
                  · refine lv_iinc (k := 1) (v := mu (b + 1)) X.1.1 X.1.2.1 d_LoopRankerModel_level_104 hl rfl (mu_s b) (by decide) rfl (fun ls hl => ?_)
                    have hl : lv_has ls 5 [(3, .int (mu (b + 1))), (4, .int (nI (m_rm ol (fun t w => m_H fp fq fr up dn t (mu a) (mu b) w) nc 0 0))), (2, .int (mu a)), (1, .int (nI mB)), (0, .ref h)] := hl
                    refine lv_goto (tgt := 13) X.1.1 X.1.2.1 d_LoopRankerModel_level_107 (by decide) ?_
                    exact ih13 (b + 1) mB fB gB _ _ _ ls H locs (by omega) (hmB) (hkB) (by rw [← hE2]; show _ = m_bi (m_RR ol (m_H fp fq fr up dn) nc) (mu a) k13 (b + 1) (m_st ((m_RR ol (m_H fp fq fr up dn) nc) (mu a) (mu b)) (mu a) (mu b) (mB, fB lv, gB lv)); rw [hRR]; simp only [m_st, if_neg h41, if_neg h46, if_neg h52]) (lv_sub hl [0, 2, 3, 4] rfl) hP hD hS
                  · refine lv_iload_n X.1.1 X.1.2.1 d_LoopRankerModel_level_55 rfl (lv_at hl 2 rfl) ?_
                    refine lv_iload_n X.1.1 X.1.2.1 d_LoopRankerModel_level_56 rfl (lv_at hl 1 rfl) ?_
                    refine lv_aload_n X.1.1 X.1.2.1 d_LoopRankerModel_level_57 rfl (lv_at hl 4 rfl) ?_
                    refine fg_LoopRankerModel_28 X hP 0 rfl rfl d_LoopRankerModel_level_58 ?_
                    refine lv_aload_n X.1.1 X.1.2.1 d_LoopRankerModel_level_61 rfl (lv_at hl 4 rfl) ?_
                    refine fg_LoopRankerModel_102 X hP 0 rfl rfl d_LoopRankerModel_level_62 ?_
                    refine wa_ild X.1.1 X.1.2.1 X.2.1 hP 7 0 rfl rfl lv rfl (by omega) (by decide) d_LoopRankerModel_level_65 ?_
                    refine lv_aload_n X.1.1 X.1.2.1 d_LoopRankerModel_level_66 rfl (lv_at hl 4 rfl) ?_
                    refine fg_LoopRankerModel_31 X hP 0 rfl rfl d_LoopRankerModel_level_67 ?_
                    refine lv_aload_n X.1.1 X.1.2.1 d_LoopRankerModel_level_70 rfl (lv_at hl 4 rfl) ?_
                    refine fg_LoopRankerModel_102 X hP 0 rfl rfl d_LoopRankerModel_level_71 ?_
                    refine wa_ild X.1.1 X.1.2.1 X.2.1 hP 8 0 rfl rfl lv rfl (by omega) (by decide) d_LoopRankerModel_level_74 ?_
                    refine wc_Si [.int (mu a), .int (mu b), .int (fB lv), .int (gB lv)] X nz_nest (c_LoopRankerModel_before (mu a) (mu b) (fB lv) (gB lv) ) (cw_LoopRankerModel_105 X.1.2.2.2.2 X.2.2.1 (by decide)) (mW cI h m1 p1 q1 r1 w1 o1 f1 s1 nc my fp fq fr up sm5 top5 bot5 lv ol fB gB x y fd) ([]) (rfl) hP hD hS rfl rfl hl.1 (Nat.le_of_ble_eq_true rfl) (by decide) d_LoopRankerModel_level_75 (fun H locs wn hwn hP hD hS => ?_)
                    subst hwn
                    have hP : va_P D cls (mW cI h m1 p1 q1 r1 w1 o1 f1 s1 nc my fp fq fr up sm5 top5 bot5 lv ol fB gB x y fd) H := hP
                    have hD : va_D A (mW cI h m1 p1 q1 r1 w1 o1 f1 s1 nc my fp fq fr up sm5 top5 bot5 lv ol fB gB x y fd) := hD
                    refine wi0_eq (tgt := 104) X.1.1 X.1.2.1 d_LoopRankerModel_level_78 (by decide) (fun h78 => ?_) (fun h78 => ?_)
                    · refine lv_iinc (k := 1) (v := mu (b + 1)) X.1.1 X.1.2.1 d_LoopRankerModel_level_104 hl rfl (mu_s b) (by decide) rfl (fun ls hl => ?_)
                      have hl : lv_has ls 5 [(3, .int (mu (b + 1))), (4, .int (nI (m_rm ol (fun t w => m_H fp fq fr up dn t (mu a) (mu b) w) nc 0 0))), (2, .int (mu a)), (1, .int (nI mB)), (0, .ref h)] := hl
                      refine lv_goto (tgt := 13) X.1.1 X.1.2.1 d_LoopRankerModel_level_107 (by decide) ?_
                      exact ih13 (b + 1) mB fB gB _ _ _ ls H locs (by omega) (hmB) (hkB) (by rw [← hE2]; show _ = m_bi (m_RR ol (m_H fp fq fr up dn) nc) (mu a) k13 (b + 1) (m_st ((m_RR ol (m_H fp fq fr up dn) nc) (mu a) (mu b)) (mu a) (mu b) (mB, fB lv, gB lv)); rw [hRR]; simp only [m_st, if_neg h41, if_neg h46, if_pos h52, if_pos h78]) (lv_sub hl [0, 2, 3, 4] rfl) hP hD hS
                    · refine lv_iload X.1.1 X.1.2.1 d_LoopRankerModel_level_81 (lv_at hl 0 rfl) ?_
                      refine lv_istore_n X.1.1 X.1.2.1 d_LoopRankerModel_level_83 rfl hl (by decide) rfl (fun ls hl => ?_)
                      have hl : lv_has ls 5 [(1, .int (nI (m_rm ol (fun t w => m_H fp fq fr up dn t (mu a) (mu b) w) nc 0 0))), (4, .int (nI (m_rm ol (fun t w => m_H fp fq fr up dn t (mu a) (mu b) w) nc 0 0))), (3, .int (mu b)), (2, .int (mu a)), (0, .ref h)] := hl
                      refine lv_aload_n X.1.1 X.1.2.1 d_LoopRankerModel_level_84 rfl (lv_at hl 4 rfl) ?_
                      refine fg_LoopRankerModel_28 X hP 0 rfl rfl d_LoopRankerModel_level_85 ?_
                      refine lv_aload_n X.1.1 X.1.2.1 d_LoopRankerModel_level_88 rfl (lv_at hl 4 rfl) ?_
                      refine fg_LoopRankerModel_102 X hP 0 rfl rfl d_LoopRankerModel_level_89 ?_
                      refine lv_iload_n X.1.1 X.1.2.1 d_LoopRankerModel_level_92 rfl (lv_at hl 3 rfl) ?_
                      refine wa_ist X.1.1 X.1.2.1 X.2.1 hP hD hS 7 0 rfl rfl lv rfl (by omega) (by decide) d_LoopRankerModel_level_93 (fun H locs hP hD hS => ?_)
                      have hP : va_P D cls (mW cI h m1 p1 q1 r1 w1 o1 f1 s1 nc my fp fq fr up sm5 top5 bot5 lv ol (upd fB lv (mu a)) gB x y fd) H := hP
                      have hD : va_D A (mW cI h m1 p1 q1 r1 w1 o1 f1 s1 nc my fp fq fr up sm5 top5 bot5 lv ol (upd fB lv (mu a)) gB x y fd) := hD
                      refine lv_aload_n X.1.1 X.1.2.1 d_LoopRankerModel_level_94 rfl (lv_at hl 4 rfl) ?_
                      refine fg_LoopRankerModel_31 X hP 0 rfl rfl d_LoopRankerModel_level_95 ?_
                      refine lv_aload_n X.1.1 X.1.2.1 d_LoopRankerModel_level_98 rfl (lv_at hl 4 rfl) ?_
                      refine fg_LoopRankerModel_102 X hP 0 rfl rfl d_LoopRankerModel_level_99 ?_
                      refine lv_iload_n X.1.1 X.1.2.1 d_LoopRankerModel_level_102 rfl (lv_at hl 2 rfl) ?_
                      refine wa_ist X.1.1 X.1.2.1 X.2.1 hP hD hS 8 0 rfl rfl lv rfl (by omega) (by decide) d_LoopRankerModel_level_103 (fun H locs hP hD hS => ?_)
                      have hP : va_P D cls (mW cI h m1 p1 q1 r1 w1 o1 f1 s1 nc my fp fq fr up sm5 top5 bot5 lv ol (upd fB lv (mu a)) (upd gB lv (mu b)) x y fd) H := hP
                      have hD : va_D A (mW cI h m1 p1 q1 r1 w1 o1 f1 s1 nc my fp fq fr up sm5 top5 bot5 lv ol (upd fB lv (mu a)) (upd gB lv (mu b)) x y fd) := hD
                      refine lv_iinc (k := 2) (v := mu (b + 1)) X.1.1 X.1.2.1 d_LoopRankerModel_level_104 hl rfl (mu_s b) (by decide) rfl (fun ls hl => ?_)
                      have hl : lv_has ls 5 [(3, .int (mu (b + 1))), (1, .int (nI (m_rm ol (fun t w => m_H fp fq fr up dn t (mu a) (mu b) w) nc 0 0))), (4, .int (nI (m_rm ol (fun t w => m_H fp fq fr up dn t (mu a) (mu b) w) nc 0 0))), (2, .int (mu a)), (0, .ref h)] := hl
                      refine lv_goto (tgt := 13) X.1.1 X.1.2.1 d_LoopRankerModel_level_107 (by decide) ?_
                      exact ih13 (b + 1) (m_rm ol (fun t w => m_H fp fq fr up dn t (mu a) (mu b) w) nc 0 0) (upd fB lv (mu a)) (upd gB lv (mu b)) _ _ _ ls H locs (by omega) (by omega) ((fun j hj => ⟨by rw [pk_un hj]; exact (hkB j hj).1, by rw [pk_un hj]; exact (hkB j hj).2⟩)) (by rw [← hE2]; show _ = m_bi (m_RR ol (m_H fp fq fr up dn) nc) (mu a) k13 (b + 1) (m_st ((m_RR ol (m_H fp fq fr up dn) nc) (mu a) (mu b)) (mu a) (mu b) (mB, fB lv, gB lv)); rw [hRR]; simp only [m_st, pk_us, if_neg h41, if_neg h46, if_pos h52, if_neg h78]) (lv_sub hl [0, 3, 1, 4] rfl) hP hD hS
            · refine lv_iconst (v := (0 : Int32)) X.1.1 X.1.2.1 d_LoopRankerModel_level_26 (by decide) ?_
              refine lv_goto (tgt := 36) X.1.1 X.1.2.1 d_LoopRankerModel_level_27 (by decide) ?_
              have hRR : (m_RR ol (m_H fp fq fr up dn) nc) (mu a) (mu b) = 0 := by simp only [m_RR, if_pos h19, if_pos h23]
              refine lv_istore X.1.1 X.1.2.1 d_LoopRankerModel_level_36 hl (by decide) rfl (fun ls hl => ?_)
              have hl : lv_has ls 5 [(4, .int (0 : Int32)), (3, .int (mu b)), (2, .int (mu a)), (1, .int (nI mB)), (0, .ref h)] := hl
              refine lv_iload X.1.1 X.1.2.1 d_LoopRankerModel_level_38 (lv_at hl 0 rfl) ?_
              refine lv_iload_n X.1.1 X.1.2.1 d_LoopRankerModel_level_40 rfl (lv_at hl 3 rfl) ?_
              refine wn_gt (a := 0) (b := mB) (tgt := 81) X.1.1 X.1.2.1 d_LoopRankerModel_level_41 (by decide) (by omega) (by omega) (fun h41 => by exfalso; omega) (fun h41 => ?_)
              refine lv_iload X.1.1 X.1.2.1 d_LoopRankerModel_level_44 (lv_at hl 0 rfl) ?_
              refine wi0_le (tgt := 104) X.1.1 X.1.2.1 d_LoopRankerModel_level_46 (by decide) (fun _ => ?_) (fun z => absurd z (by decide))
              refine lv_iinc (k := 1) (v := mu (b + 1)) X.1.1 X.1.2.1 d_LoopRankerModel_level_104 hl rfl (mu_s b) (by decide) rfl (fun ls hl => ?_)
              have hl : lv_has ls 5 [(3, .int (mu (b + 1))), (4, .int (0 : Int32)), (2, .int (mu a)), (1, .int (nI mB)), (0, .ref h)] := hl
              refine lv_goto (tgt := 13) X.1.1 X.1.2.1 d_LoopRankerModel_level_107 (by decide) ?_
              exact ih13 (b + 1) mB fB gB _ _ _ ls H locs (by omega) (hmB) (hkB) (by rw [← hE2]; show _ = m_bi (m_RR ol (m_H fp fq fr up dn) nc) (mu a) k13 (b + 1) (m_st ((m_RR ol (m_H fp fq fr up dn) nc) (mu a) (mu b)) (mu a) (mu b) (mB, fB lv, gB lv)); rw [hRR, m_st_0]) (lv_sub hl [0, 2, 3, 4] rfl) hP hD hS
      exact lp13 9 0 mA fA gA _ _ _ ls H locs (by omega) (hmA) (hkA) (rfl) (lv_sub hl [0, 1, 2, 3] rfl) hP hD hS
  exact lp5 9 0 0 fi se _ _ _ ls H locs (by omega) (by omega) (fun j _ => ⟨rfl, rfl⟩) (rfl) (lv_sub hl [0, 1, 2] rfl) hP hD hS
end CT
