/-! Both sides, next to each other -/
/-- the two objects hold the same loop and the same run -/
def lwI (cI cJ cS : ClassId) (lr sa po u1 u2 l1 l2 l3 l4 h m1 p1 q1 r1 w1 o1 f1 s1 : Nat) (wr wm : va_W) : Prop := ∃ (nc : Nat) (lu lw : Nat → Int32) (lf : Nat → Int64) (lo : Nat → Int32) (lc ln : Nat) (fs : Int32) (bs : List bT) (ds : List bDt) (x y : Int64) (fd : Int32) (my fp fq fr up : Nat → Int32) (sm : Int32) (top bot : Int64) (lv : Nat) (ol fi se : Nat → Int32) (dn : Nat → Nat),
  wr = rW cI cJ cS lr sa po u1 u2 l1 l2 l3 l4 uS vS lu lw lf lo lc ln fs bs nc x y fd ∧ wm = mW cI h m1 p1 q1 r1 w1 o1 f1 s1 nc my fp fq fr up sm top bot lv ol fi se x y fd ∧ rI uS vS ds nc lu lw lf lo lc ln fs bs ∧ QR ds fp fq fr up dn nc ∧ ∀ t, t < nc → my t = nI (dn t)
theorem lwI_0 {cI cJ cS : ClassId} {lr sa po u1 u2 l1 l2 l3 l4 h m1 p1 q1 r1 w1 o1 f1 s1 : Nat} {wr wm : va_W} (hI : lwI cI cJ cS lr sa po u1 u2 l1 l2 l3 l4 h m1 p1 q1 r1 w1 o1 f1 s1 wr wm) : (∃ fs : List Value, wr[0]? = some (lr, .inr (3, fs))) ∧ ∃ fs : List Value, wm[0]? = some (h, .inr (4, fs)) := by
  obtain ⟨nc, lu, lw, lf, lo, lc, ln, fs, bs, ds, x, y, fd, my, fp, fq, fr, up, sm, top, bot, lv, ol, fi, se, dn, rfl, rfl, -⟩ := hI
  exact ⟨⟨_, rfl⟩, ⟨_, rfl⟩⟩
theorem wk_ki_r {l : Launch} {y : MethodName} {ws : List Cond} {rm : Room} {D : va_G} {cl : List vw_C} {tys : List (ClassId × FieldType)} {nz : List Cond} {av : List Value} {w : va_W} {Pw : va_W → Prop} {r r' : Int32} (h : r = r') (c : wk_ki l y ws rm D cl tys nz av w Pw r) : wk_ki l y ws rm D cl tys nz av w Pw r' := h ▸ c
theorem wk_kl_r {l : Launch} {y : MethodName} {ws : List Cond} {rm : Room} {D : va_G} {cl : List vw_C} {tys : List (ClassId × FieldType)} {nz : List Cond} {av : List Value} {w : va_W} {Pw : va_W → Prop} {r r' : Int64} (h : r = r') (c : wk_kl l y ws rm D cl tys nz av w Pw r) : wk_kl l y ws rm D cl tys nz av w Pw r' := h ▸ c
theorem th_bad {n : Nat} {t : Int32} (h : m_th n t = 0) : t < 0 ∨ ¬ t < nI n := by
  unfold m_th at h
  by_cases c1 : t < 0
  · exact Or.inl c1
  · rw [if_neg c1] at h
    by_cases c2 : t < nI n
    · rw [if_pos c2] at h; exact absurd h (by decide)
    · exact Or.inr c2
theorem v_01 {v : Int32} : (r_v v = 0 → v < 0 ∨ 1 < v) ∧ (¬ r_v v = 0 → ∃ w, w < 2 ∧ v = nI w) := by
  unfold r_v
  by_cases c0 : v = 0
  · rw [if_pos c0]
    exact ⟨fun z => absurd z (by decide), fun _ => ⟨0, by omega, c0⟩⟩
  · rw [if_neg c0]
    by_cases c1 : v = 1
    · rw [if_pos c1]
      exact ⟨fun z => absurd z (by decide), fun _ => ⟨1, by omega, c1⟩⟩
    · rw [if_neg c1]
      refine ⟨fun _ => ?_, fun z => absurd rfl z⟩
      have e0 : v.toInt ≠ 0 := fun z => c0 (Int32.toInt_inj.mp z)
      have e1 : v.toInt ≠ 1 := fun z => c1 (Int32.toInt_inj.mp z)
      rcases (show v.toInt < 0 ∨ 1 < v.toInt by omega) with z | z
      · exact Or.inl (Int32.lt_iff_toInt_lt.mpr z)
      · exact Or.inr (Int32.lt_iff_toInt_lt.mpr z)
section OPS
variable {l : Launch} {D : va_G} {cI cJ cS : ClassId} {lr sa po u1 u2 l1 l2 l3 l4 h m1 p1 q1 r1 w1 o1 f1 s1 : Nat}
set_option maxHeartbeats 4000000 in
set_option maxRecDepth 100000 in
theorem op_transition {wr wm : va_W} (hI : lwI cI cJ cS lr sa po u1 u2 l1 l2 l3 l4 h m1 p1 q1 r1 w1 o1 f1 s1 wr wm) : ∃ (P1 P2 : va_W → Prop) (r : Int32), wk_ki l y_LoopRanker_transition (Cond.code y_LoopRanker_transition b_LoopRanker_transition 1 (some .int) :: BW) rm_LoopRanker_transition D cls (kT cI cJ cS) nz [.ref lr] wr P1 r ∧ wk_ki l y_LoopRankerModel_transition (Cond.code y_LoopRankerModel_transition b_LoopRankerModel_transition 2 (some .int) :: BW) rm_LoopRankerModel_transition D cls (kT cI cJ cS) nz [.ref h] wm P2 r ∧ ∀ va vb, P1 va → P2 vb → lwI cI cJ cS lr sa po u1 u2 l1 l2 l3 l4 h m1 p1 q1 r1 w1 o1 f1 s1 va vb := by
  obtain ⟨nc, lu, lw, lf, lo, lc, ln, fs, bs, ds, x, y, fd, my, fp, fq, fr, up, sm, top, bot, lv, ol, fi, se, dn, rfl, rfl, hR, hQ, hmy⟩ := hI
  have hc : nc ≤ 6 := hR.2.1
  have hl : ds.length = 6 := by rw [← hR.2.2.1, List.length_map]; exact hR.1.1
  have hmy4 : ∀ t, t < nc → my t = nI (dn t) ∧ dn t ≤ 4 := fun t ht => ⟨hmy t ht, (hQ t ht).2.1⟩
  by_cases c6 : nc = 6
  · exact ⟨_, _, _, (c_LoopRanker_transition_full lr sa po u1 u2 l1 l2 l3 l4 uS vS lu lw lf lo lc ln fs bs nc x y fd ds hR c6), (c_LoopRankerModel_transition_full h m1 p1 q1 r1 w1 o1 f1 s1 nc my fp fq fr up sm top bot lv ol fi se x y fd c6), fun va vb ha hb => by
      obtain ⟨lu2, lw2, lf2, lo2, lc2, ln2, fs2, bs2, rfl, hR2⟩ := ha
      subst hb
      exact ⟨_, _, _, _, _, _, _, _, _, _, _, _, _, _, _, _, _, _, _, _, _, _, _, _, _, dn, rfl, rfl, hR2, hQ, hmy⟩⟩
  · exact ⟨_, _, _, (c_LoopRanker_transition lr sa po u1 u2 l1 l2 l3 l4 uS vS lu lw lf lo lc ln fs bs nc x y fd ds hR (by omega)), (c_LoopRankerModel_transition h m1 p1 q1 r1 w1 o1 f1 s1 nc my fp fq fr up sm top bot lv ol fi se x y fd (by omega)), fun va vb ha hb => by
      obtain ⟨lu2, lw2, lf2, lo2, lc2, ln2, fs2, bs2, rfl, hR2⟩ := ha
      subst hb
      exact ⟨_, _, _, _, _, _, _, _, _, _, _, _, _, _, _, _, _, _, _, _, _, _, _, _, _, (fun t => if t = nc then 0 else dn t), rfl, rfl, hR2, k_tr hQ hl (by omega), fun t ht => by
        show upd my nc 0 t = nI (if t = nc then 0 else dn t)
        by_cases e : t = nc
        · subst e; rw [pk_us, if_pos rfl]; rfl
        · rw [pk_un e, if_neg e]; exact hmy t (by omega)⟩⟩
set_option maxHeartbeats 4000000 in
set_option maxRecDepth 100000 in
theorem op_guard {wr wm : va_W} (a b cc d : Int32) (hI : lwI cI cJ cS lr sa po u1 u2 l1 l2 l3 l4 h m1 p1 q1 r1 w1 o1 f1 s1 wr wm) : ∃ (P1 P2 : va_W → Prop) (r : Int32), wk_ki l y_LoopRanker_guard (Cond.code y_LoopRanker_guard b_LoopRanker_guard 5 (some .int) :: BW) rm_LoopRanker_guard D cls (kT cI cJ cS) nz [.ref lr, .int a, .int b, .int cc, .int d] wr P1 r ∧ wk_ki l y_LoopRankerModel_guard (Cond.code y_LoopRankerModel_guard b_LoopRankerModel_guard 6 (some .int) :: BW) rm_LoopRankerModel_guard D cls (kT cI cJ cS) nz [.ref h, .int a, .int b, .int cc, .int d] wm P2 r ∧ ∀ va vb, P1 va → P2 vb → lwI cI cJ cS lr sa po u1 u2 l1 l2 l3 l4 h m1 p1 q1 r1 w1 o1 f1 s1 va vb := by
  obtain ⟨nc, lu, lw, lf, lo, lc, ln, fs, bs, ds, x, y, fd, my, fp, fq, fr, up, sm, top, bot, lv, ol, fi, se, dn, rfl, rfl, hR, hQ, hmy⟩ := hI
  have hc : nc ≤ 6 := hR.2.1
  have hl : ds.length = 6 := by rw [← hR.2.2.1, List.length_map]; exact hR.1.1
  have hmy4 : ∀ t, t < nc → my t = nI (dn t) ∧ dn t ≤ 4 := fun t ht => ⟨hmy t ht, (hQ t ht).2.1⟩
  by_cases hb0 : m_th nc a = 0
  · exact ⟨_, _, _, (c_LoopRanker_guard_bad lr sa po u1 u2 l1 l2 l3 l4 uS vS lu lw lf lo lc ln fs bs nc x y fd a b cc d ds hR hb0), (c_LoopRankerModel_guard_bad h m1 p1 q1 r1 w1 o1 f1 s1 nc my fp fq fr up sm top bot lv ol fi se x y fd a b cc d hb0), fun va vb ha hb => by
      obtain ⟨lu2, lw2, lf2, lo2, lc2, ln2, fs2, bs2, rfl, hR2⟩ := ha
      subst hb
      exact ⟨_, _, _, _, _, _, _, _, _, _, _, _, _, _, _, _, _, _, _, _, _, _, _, _, _, dn, rfl, rfl, hR2, hQ, hmy⟩⟩
  · obtain ⟨k, hk, rfl⟩ := m_th_nat hc hb0
    have hq := hQ k hk
    by_cases hno : r_w b.toInt64 9 = 0 ∨ r_w cc.toInt64 9 = 0 ∨ r_w d.toInt64 99 = 0 ∨ (dAt ds k).2.1.1 = 4
    · have hno2 : dn k = 4 ∨ m_wi b 9 = 0 ∨ m_wi cc 9 = 0 ∨ m_wi d 99 = 0 := by
        rw [qw_eq (k6 := 9) (k3 := 9) (K := 9) b rfl rfl rfl rfl, qw_eq (k6 := 9) (k3 := 9) (K := 9) cc rfl rfl rfl rfl, qw_eq (k6 := 99) (k3 := 99) (K := 99) d rfl rfl rfl rfl, hq.1] at hno
        rcases hno with z | z | z | z
        · exact Or.inr (Or.inl z)
        · exact Or.inr (Or.inr (Or.inl z))
        · exact Or.inr (Or.inr (Or.inr z))
        · exact Or.inl z
      exact ⟨_, _, _, (c_LoopRanker_guard_no lr sa po u1 u2 l1 l2 l3 l4 uS vS lu lw lf lo lc ln fs bs nc x y fd k b cc d ds hR hk hno), (c_LoopRankerModel_guard_no h m1 p1 q1 r1 w1 o1 f1 s1 nc my fp fq fr up sm top bot lv ol fi se x y fd k b cc d (dn k) (hmy k hk) hk hc hq.2.1 hno2), fun va vb ha hb => by
        obtain ⟨lu2, lw2, lf2, lo2, lc2, ln2, fs2, bs2, rfl, hR2⟩ := ha
        subst hb
        exact ⟨_, _, _, _, _, _, _, _, _, _, _, _, _, _, _, _, _, _, _, _, _, _, _, _, _, dn, rfl, rfl, hR2, hQ, hmy⟩⟩
    · have hno2 := hno
      rw [qw_eq (k6 := 9) (k3 := 9) (K := 9) b rfl rfl rfl rfl, qw_eq (k6 := 9) (k3 := 9) (K := 9) cc rfl rfl rfl rfl, qw_eq (k6 := 99) (k3 := 99) (K := 99) d rfl rfl rfl rfl, hq.1] at hno2
      have hx1 : ¬ m_wi b 9 = 0 := fun z => hno2 (Or.inl z)
      have hx2 : ¬ m_wi cc 9 = 0 := fun z => hno2 (Or.inr (Or.inl z))
      have hx3 : ¬ m_wi d 99 = 0 := fun z => hno2 (Or.inr (Or.inr (Or.inl z)))
      have hx4 : dn k < 4 := by
        have : ¬ dn k = 4 := fun z => hno2 (Or.inr (Or.inr (Or.inr z)))
        have := hq.2.1
        omega
      have hr : nI ((dAt ds k).2.1.1 + 1) = nI (dn k + 1) := by rw [hq.1]
      exact ⟨_, _, _, (wk_ki_r hr (c_LoopRanker_guard lr sa po u1 u2 l1 l2 l3 l4 uS vS lu lw lf lo lc ln fs bs nc x y fd k b cc d ds hR hk hno)), (c_LoopRankerModel_guard h m1 p1 q1 r1 w1 o1 f1 s1 nc my fp fq fr up sm top bot lv ol fi se x y fd k b cc d (dn k) (hmy k hk) hk hc hq.2.1 hx4 (fun z => z.elim hx1 (fun z => z.elim hx2 hx3))), fun va vb ha hb => by
        obtain ⟨lu2, lw2, lf2, lo2, lc2, ln2, fs2, bs2, rfl, hR2⟩ := ha
        subst hb
        exact ⟨_, _, _, _, _, _, _, _, _, _, _, _, _, _, _, _, _, _, _, _, _, _, _, _, _, (fun s => if s = k then dn k + 1 else dn s), rfl, rfl, hR2, k_gd hQ hl hk hc hx4 (qw_in (K := 9) rfl rfl hx1).2 (qw_in (K := 9) rfl rfl hx2).2 (qw_in (K := 99) rfl rfl hx3).2, fun s hs => by
          show upd my k (nI (dn k + 1)) s = nI (if s = k then dn k + 1 else dn s)
          by_cases e : s = k
          · subst e; rw [pk_us, if_pos rfl]
          · rw [pk_un e, if_neg e]; exact hmy s hs⟩⟩
set_option maxHeartbeats 4000000 in
set_option maxRecDepth 100000 in
theorem op_update {wr wm : va_W} (a b cc d e : Int32) (hI : lwI cI cJ cS lr sa po u1 u2 l1 l2 l3 l4 h m1 p1 q1 r1 w1 o1 f1 s1 wr wm) : ∃ (P1 P2 : va_W → Prop) (r : Int32), wk_ki l y_LoopRanker_update (Cond.code y_LoopRanker_update b_LoopRanker_update 6 (some .boolean) :: BW) rm_LoopRanker_update D cls (kT cI cJ cS) nz [.ref lr, .int a, .int b, .int cc, .int d, .int e] wr P1 r ∧ wk_ki l y_LoopRankerModel_update (Cond.code y_LoopRankerModel_update b_LoopRankerModel_update 7 (some .boolean) :: BW) rm_LoopRankerModel_update D cls (kT cI cJ cS) nz [.ref h, .int a, .int b, .int cc, .int d, .int e] wm P2 r ∧ ∀ va vb, P1 va → P2 vb → lwI cI cJ cS lr sa po u1 u2 l1 l2 l3 l4 h m1 p1 q1 r1 w1 o1 f1 s1 va vb := by
  obtain ⟨nc, lu, lw, lf, lo, lc, ln, fs, bs, ds, x, y, fd, my, fp, fq, fr, up, sm, top, bot, lv, ol, fi, se, dn, rfl, rfl, hR, hQ, hmy⟩ := hI
  have hc : nc ≤ 6 := hR.2.1
  have hl : ds.length = 6 := by rw [← hR.2.2.1, List.length_map]; exact hR.1.1
  have hmy4 : ∀ t, t < nc → my t = nI (dn t) ∧ dn t ≤ 4 := fun t ht => ⟨hmy t ht, (hQ t ht).2.1⟩
  by_cases hb0 : m_th nc a = 0
  · exact ⟨_, _, _, (c_LoopRanker_update_bad lr sa po u1 u2 l1 l2 l3 l4 uS vS lu lw lf lo lc ln fs bs nc x y fd a b cc d e ds hR hb0), (c_LoopRankerModel_update_bad h m1 p1 q1 r1 w1 o1 f1 s1 nc my fp fq fr up sm top bot lv ol fi se x y fd a b cc d e hb0), fun va vb ha hb => by
      obtain ⟨lu2, lw2, lf2, lo2, lc2, ln2, fs2, bs2, rfl, hR2⟩ := ha
      subst hb
      exact ⟨_, _, _, _, _, _, _, _, _, _, _, _, _, _, _, _, _, _, _, _, _, _, _, _, _, dn, rfl, rfl, hR2, hQ, hmy⟩⟩
  · obtain ⟨k, hk, rfl⟩ := m_th_nat hc hb0
    have hq := hQ k hk
    by_cases hno : r_v b = 0 ∨ r_w cc.toInt64 3 = 0 ∨ r_w d.toInt64 3 = 0 ∨ r_w e.toInt64 20 = 0
    · have hno2 : b < 0 ∨ 1 < b ∨ m_wi cc 3 = 0 ∨ m_wi d 3 = 0 ∨ m_wi e 20 = 0 := by
        rw [qw_eq (k6 := 3) (k3 := 3) (K := 3) cc rfl rfl rfl rfl, qw_eq (k6 := 3) (k3 := 3) (K := 3) d rfl rfl rfl rfl, qw_eq (k6 := 20) (k3 := 20) (K := 20) e rfl rfl rfl rfl] at hno
        rcases hno with z | z
        · rcases v_01.1 z with y | y
          · exact Or.inl y
          · exact Or.inr (Or.inl y)
        · exact Or.inr (Or.inr z)
      exact ⟨_, _, _, (c_LoopRanker_update_no lr sa po u1 u2 l1 l2 l3 l4 uS vS lu lw lf lo lc ln fs bs nc x y fd k b cc d e ds hR hk hno), (c_LoopRankerModel_update_no h m1 p1 q1 r1 w1 o1 f1 s1 nc my fp fq fr up sm top bot lv ol fi se x y fd k b cc d e hk hc hno2), fun va vb ha hb => by
        obtain ⟨lu2, lw2, lf2, lo2, lc2, ln2, fs2, bs2, rfl, hR2⟩ := ha
        subst hb
        exact ⟨_, _, _, _, _, _, _, _, _, _, _, _, _, _, _, _, _, _, _, _, _, _, _, _, _, dn, rfl, rfl, hR2, hQ, hmy⟩⟩
    · have hno2 := hno
      rw [qw_eq (k6 := 3) (k3 := 3) (K := 3) cc rfl rfl rfl rfl, qw_eq (k6 := 3) (k3 := 3) (K := 3) d rfl rfl rfl rfl, qw_eq (k6 := 20) (k3 := 20) (K := 20) e rfl rfl rfl rfl] at hno2
      obtain ⟨w, hw, rfl⟩ := v_01.2 (fun z => hno (Or.inl z))
      have hx1 : ¬ m_wi cc 3 = 0 := fun z => hno2 (Or.inr (Or.inl z))
      have hx2 : ¬ m_wi d 3 = 0 := fun z => hno2 (Or.inr (Or.inr (Or.inl z)))
      have hx3 : ¬ m_wi e 20 = 0 := fun z => hno2 (Or.inr (Or.inr (Or.inr z)))
      exact ⟨_, _, _, (c_LoopRanker_update lr sa po u1 u2 l1 l2 l3 l4 uS vS lu lw lf lo lc ln fs bs nc x y fd k (nI w) cc d e ds hR hk hno), (c_LoopRankerModel_update h m1 p1 q1 r1 w1 o1 f1 s1 nc my fp fq fr up sm top bot lv ol fi se x y fd k w cc d e hk hc hw (fun z => z.elim hx1 (fun z => z.elim hx2 hx3))), fun va vb ha hb => by
        obtain ⟨lu2, lw2, lf2, lo2, lc2, ln2, fs2, bs2, rfl, hR2⟩ := ha
        subst hb
        exact ⟨_, _, _, _, _, _, _, _, _, _, _, _, _, _, _, _, _, _, _, _, _, _, _, _, _, dn, rfl, rfl, hR2, k_rule hQ hl hk hc hw (qw_in (K := 3) rfl rfl hx1).2 (qw_in (K := 3) rfl rfl hx2).2 (qw_in (K := 20) rfl rfl hx3).2, hmy⟩⟩
set_option maxHeartbeats 4000000 in
set_option maxRecDepth 100000 in
theorem op_remove {wr wm : va_W} (a : Int32) (hI : lwI cI cJ cS lr sa po u1 u2 l1 l2 l3 l4 h m1 p1 q1 r1 w1 o1 f1 s1 wr wm) : ∃ (P1 P2 : va_W → Prop) (r : Int32), wk_ki l y_LoopRanker_remove (Cond.code y_LoopRanker_remove b_LoopRanker_remove 4 (some .boolean) :: BW) rm_LoopRanker_remove D cls (kT cI cJ cS) nz [.ref lr, .int a] wr P1 r ∧ wk_ki l y_LoopRankerModel_remove (Cond.code y_LoopRankerModel_remove b_LoopRankerModel_remove 4 (some .boolean) :: BW) rm_LoopRankerModel_remove D cls (kT cI cJ cS) nz [.ref h, .int a] wm P2 r ∧ ∀ va vb, P1 va → P2 vb → lwI cI cJ cS lr sa po u1 u2 l1 l2 l3 l4 h m1 p1 q1 r1 w1 o1 f1 s1 va vb := by
  obtain ⟨nc, lu, lw, lf, lo, lc, ln, fs, bs, ds, x, y, fd, my, fp, fq, fr, up, sm, top, bot, lv, ol, fi, se, dn, rfl, rfl, hR, hQ, hmy⟩ := hI
  have hc : nc ≤ 6 := hR.2.1
  have hl : ds.length = 6 := by rw [← hR.2.2.1, List.length_map]; exact hR.1.1
  have hmy4 : ∀ t, t < nc → my t = nI (dn t) ∧ dn t ≤ 4 := fun t ht => ⟨hmy t ht, (hQ t ht).2.1⟩
  by_cases hb0 : m_th nc a = 0
  · exact ⟨_, _, _, (c_LoopRanker_remove_bad lr sa po u1 u2 l1 l2 l3 l4 uS vS lu lw lf lo lc ln fs bs nc x y fd a ds hR hb0), (c_LoopRankerModel_remove_bad h m1 p1 q1 r1 w1 o1 f1 s1 nc my fp fq fr up sm top bot lv ol fi se x y fd a hb0), fun va vb ha hb => by
      obtain ⟨lu2, lw2, lf2, lo2, lc2, ln2, fs2, bs2, rfl, hR2⟩ := ha
      subst hb
      exact ⟨_, _, _, _, _, _, _, _, _, _, _, _, _, _, _, _, _, _, _, _, _, _, _, _, _, dn, rfl, rfl, hR2, hQ, hmy⟩⟩
  · obtain ⟨k, hk, rfl⟩ := m_th_nat hc hb0
    have hq := hQ k hk
    exact ⟨_, _, _, (c_LoopRanker_remove lr sa po u1 u2 l1 l2 l3 l4 uS vS lu lw lf lo lc ln fs bs nc x y fd k ds hR hk), (c_LoopRankerModel_remove h m1 p1 q1 r1 w1 o1 f1 s1 nc my fp fq fr up sm top bot lv ol fi se x y fd k hk hc), fun va vb ha hb => by
      obtain ⟨lu2, lw2, lf2, lo2, lc2, ln2, fs2, bs2, rfl, hR2⟩ := ha
      subst hb
      exact ⟨_, _, _, _, _, _, _, _, _, _, _, _, _, _, _, _, _, _, _, _, _, _, _, _, _, (fun s => if s < k then dn s else dn (s + 1)), rfl, rfl, hR2, k_rm hQ hl hk hc, fun s hs => by
        show m_o1 (nc - 1 - k) k my s = nI (if s < k then dn s else dn (s + 1))
        rw [m_o1_at]
        by_cases e : s < k
        · rw [if_neg (by omega), if_pos e]; exact hmy s (by omega)
        · rw [if_pos (by omega), if_neg e]; exact hmy (s + 1) (by omega)⟩⟩
set_option maxHeartbeats 4000000 in
set_option maxRecDepth 100000 in
theorem op_transitions {wr wm : va_W} (hI : lwI cI cJ cS lr sa po u1 u2 l1 l2 l3 l4 h m1 p1 q1 r1 w1 o1 f1 s1 wr wm) : ∃ (P1 P2 : va_W → Prop) (r : Int32), wk_ki l y_LoopRanker_transitions (Cond.code y_LoopRanker_transitions b_LoopRanker_transitions 1 (some .int) :: BW) rm_LoopRanker_transitions D cls (kT cI cJ cS) nz [.ref lr] wr P1 r ∧ wk_ki l y_LoopRankerModel_transitions (Cond.code y_LoopRankerModel_transitions b_LoopRankerModel_transitions 1 (some .int) :: BW) rm_LoopRankerModel_transitions D cls (kT cI cJ cS) nz [.ref h] wm P2 r ∧ ∀ va vb, P1 va → P2 vb → lwI cI cJ cS lr sa po u1 u2 l1 l2 l3 l4 h m1 p1 q1 r1 w1 o1 f1 s1 va vb := by
  obtain ⟨nc, lu, lw, lf, lo, lc, ln, fs, bs, ds, x, y, fd, my, fp, fq, fr, up, sm, top, bot, lv, ol, fi, se, dn, rfl, rfl, hR, hQ, hmy⟩ := hI
  have hc : nc ≤ 6 := hR.2.1
  have hl : ds.length = 6 := by rw [← hR.2.2.1, List.length_map]; exact hR.1.1
  have hmy4 : ∀ t, t < nc → my t = nI (dn t) ∧ dn t ≤ 4 := fun t ht => ⟨hmy t ht, (hQ t ht).2.1⟩
  exact ⟨_, _, _, (c_LoopRanker_transitions lr sa po u1 u2 l1 l2 l3 l4 uS vS lu lw lf lo lc ln fs bs nc x y fd ds hR), (c_LoopRankerModel_transitions h m1 p1 q1 r1 w1 o1 f1 s1 nc my fp fq fr up sm top bot lv ol fi se x y fd), fun va vb ha hb => by
    obtain ⟨lu2, lw2, lf2, lo2, lc2, ln2, fs2, bs2, rfl, hR2⟩ := ha
    subst hb
    exact ⟨_, _, _, _, _, _, _, _, _, _, _, _, _, _, _, _, _, _, _, _, _, _, _, _, _, dn, rfl, rfl, hR2, hQ, hmy⟩⟩
set_option maxHeartbeats 4000000 in
set_option maxRecDepth 100000 in
theorem op_greatest {wr wm : va_W} (a b cc : Int32) (hI : lwI cI cJ cS lr sa po u1 u2 l1 l2 l3 l4 h m1 p1 q1 r1 w1 o1 f1 s1 wr wm) : ∃ (P1 P2 : va_W → Prop) (r : Int64), wk_kl l y_LoopRanker_greatest (Cond.code y_LoopRanker_greatest b_LoopRanker_greatest 5 (some .long) :: BW) rm_LoopRanker_greatest D cls (kT cI cJ cS) nz [.ref lr, .int a, .int b, .int cc] wr P1 r ∧ wk_kl l y_LoopRankerModel_greatest (Cond.code y_LoopRankerModel_greatest b_LoopRankerModel_greatest 4 (some .long) :: BW) rm_LoopRankerModel_greatest D cls (kT cI cJ cS) nz [.ref h, .int a, .int b, .int cc] wm P2 r ∧ ∀ va vb, P1 va → P2 vb → lwI cI cJ cS lr sa po u1 u2 l1 l2 l3 l4 h m1 p1 q1 r1 w1 o1 f1 s1 va vb := by
  obtain ⟨nc, lu, lw, lf, lo, lc, ln, fs, bs, ds, x, y, fd, my, fp, fq, fr, up, sm, top, bot, lv, ol, fi, se, dn, rfl, rfl, hR, hQ, hmy⟩ := hI
  have hc : nc ≤ 6 := hR.2.1
  have hl : ds.length = 6 := by rw [← hR.2.2.1, List.length_map]; exact hR.1.1
  have hmy4 : ∀ t, t < nc → my t = nI (dn t) ∧ dn t ≤ 4 := fun t ht => ⟨hmy t ht, (hQ t ht).2.1⟩
  by_cases hb0 : m_th nc a = 0
  · exact ⟨_, _, _, (c_LoopRanker_greatest_bad lr sa po u1 u2 l1 l2 l3 l4 uS vS lu lw lf lo lc ln fs bs nc x y fd a b cc ds hR hb0), (c_LoopRankerModel_greatest_bad h m1 p1 q1 r1 w1 o1 f1 s1 nc my fp fq fr up sm top bot lv ol fi se x y fd a b cc hb0), fun va vb ha hb => by
      obtain ⟨lu2, lw2, lf2, lo2, lc2, ln2, fs2, bs2, rfl, hR2⟩ := ha
      subst hb
      exact ⟨_, _, _, _, _, _, _, _, _, _, _, _, _, _, _, _, _, _, _, _, _, _, _, _, _, dn, rfl, rfl, hR2, hQ, hmy⟩⟩
  · obtain ⟨k, hk, rfl⟩ := m_th_nat hc hb0
    have hq := hQ k hk
    exact ⟨_, _, _, (wk_kl_r (q_gr hq b cc) (c_LoopRanker_greatest lr sa po u1 u2 l1 l2 l3 l4 uS vS lu lw lf lo lc ln fs bs nc x y fd k b cc ds hR hk)), (c_LoopRankerModel_greatest h m1 p1 q1 r1 w1 o1 f1 s1 nc my fp fq fr up sm top bot lv ol fi se x y fd k b cc (dn k) (hmy k hk) (by omega) hq.2.1 hk hc), fun va vb ha hb => by
      obtain ⟨lu2, lw2, lf2, lo2, lc2, ln2, fs2, bs2, rfl, hR2⟩ := ha
      obtain ⟨sm2, t2, b2, rfl⟩ := hb
      exact ⟨_, _, _, _, _, _, _, _, _, _, _, _, _, _, _, _, _, _, _, _, _, _, _, _, _, dn, rfl, rfl, hR2, hQ, hmy⟩⟩
set_option maxHeartbeats 4000000 in
set_option maxRecDepth 100000 in
theorem op_holds {wr wm : va_W} (a b cc d : Int32) (hI : lwI cI cJ cS lr sa po u1 u2 l1 l2 l3 l4 h m1 p1 q1 r1 w1 o1 f1 s1 wr wm) : ∃ (P1 P2 : va_W → Prop) (r : Int32), wk_ki l y_LoopRanker_holds (Cond.code y_LoopRanker_holds b_LoopRanker_holds 5 (some .boolean) :: BW) rm_LoopRanker_holds D cls (kT cI cJ cS) nz [.ref lr, .int a, .int b, .int cc, .int d] wr P1 r ∧ wk_ki l y_LoopRankerModel_holds (Cond.code y_LoopRankerModel_holds b_LoopRankerModel_holds 5 (some .boolean) :: BW) rm_LoopRankerModel_holds D cls (kT cI cJ cS) nz [.ref h, .int a, .int b, .int cc, .int d] wm P2 r ∧ ∀ va vb, P1 va → P2 vb → lwI cI cJ cS lr sa po u1 u2 l1 l2 l3 l4 h m1 p1 q1 r1 w1 o1 f1 s1 va vb := by
  obtain ⟨nc, lu, lw, lf, lo, lc, ln, fs, bs, ds, x, y, fd, my, fp, fq, fr, up, sm, top, bot, lv, ol, fi, se, dn, rfl, rfl, hR, hQ, hmy⟩ := hI
  have hc : nc ≤ 6 := hR.2.1
  have hl : ds.length = 6 := by rw [← hR.2.2.1, List.length_map]; exact hR.1.1
  have hmy4 : ∀ t, t < nc → my t = nI (dn t) ∧ dn t ≤ 4 := fun t ht => ⟨hmy t ht, (hQ t ht).2.1⟩
  by_cases hb0 : m_th nc a = 0
  · exact ⟨_, _, _, (c_LoopRanker_holds_bad lr sa po u1 u2 l1 l2 l3 l4 uS vS lu lw lf lo lc ln fs bs nc x y fd a b cc d ds hR hb0), (c_LoopRankerModel_holds_bad h m1 p1 q1 r1 w1 o1 f1 s1 nc my fp fq fr up sm top bot lv ol fi se x y fd a b cc d hb0), fun va vb ha hb => by
      obtain ⟨lu2, lw2, lf2, lo2, lc2, ln2, fs2, bs2, rfl, hR2⟩ := ha
      subst hb
      exact ⟨_, _, _, _, _, _, _, _, _, _, _, _, _, _, _, _, _, _, _, _, _, _, _, _, _, dn, rfl, rfl, hR2, hQ, hmy⟩⟩
  · obtain ⟨k, hk, rfl⟩ := m_th_nat hc hb0
    have hq := hQ k hk
    exact ⟨_, _, _, (wk_ki_r (q_ho hq b cc d) (c_LoopRanker_holds lr sa po u1 u2 l1 l2 l3 l4 uS vS lu lw lf lo lc ln fs bs nc x y fd k b cc d ds hR hk)), (c_LoopRankerModel_holds h m1 p1 q1 r1 w1 o1 f1 s1 nc my fp fq fr up sm top bot lv ol fi se x y fd k b cc d (dn k) (hmy k hk) (by omega) hq.2.1 hk hc), fun va vb ha hb => by
      obtain ⟨lu2, lw2, lf2, lo2, lc2, ln2, fs2, bs2, rfl, hR2⟩ := ha
      obtain ⟨sm2, t2, b2, rfl⟩ := hb
      exact ⟨_, _, _, _, _, _, _, _, _, _, _, _, _, _, _, _, _, _, _, _, _, _, _, _, _, dn, rfl, rfl, hR2, hQ, hmy⟩⟩
set_option maxHeartbeats 4000000 in
set_option maxRecDepth 100000 in
theorem op_levels {wr wm : va_W} (hI : lwI cI cJ cS lr sa po u1 u2 l1 l2 l3 l4 h m1 p1 q1 r1 w1 o1 f1 s1 wr wm) : ∃ (P1 P2 : va_W → Prop) (r : Int32), wk_ki l y_LoopRanker_levels (Cond.code y_LoopRanker_levels b_LoopRanker_levels 1 (some .int) :: BW) rm_LoopRanker_levels D cls (kT cI cJ cS) nz [.ref lr] wr P1 r ∧ wk_ki l y_LoopRankerModel_levels (Cond.code y_LoopRankerModel_levels b_LoopRankerModel_levels 1 (some .int) :: BW) rm_LoopRankerModel_levels D cls (kT cI cJ cS) nz [.ref h] wm P2 r ∧ ∀ va vb, P1 va → P2 vb → lwI cI cJ cS lr sa po u1 u2 l1 l2 l3 l4 h m1 p1 q1 r1 w1 o1 f1 s1 va vb := by
  obtain ⟨nc, lu, lw, lf, lo, lc, ln, fs, bs, ds, x, y, fd, my, fp, fq, fr, up, sm, top, bot, lv, ol, fi, se, dn, rfl, rfl, hR, hQ, hmy⟩ := hI
  have hc : nc ≤ 6 := hR.2.1
  have hl : ds.length = 6 := by rw [← hR.2.2.1, List.length_map]; exact hR.1.1
  have hmy4 : ∀ t, t < nc → my t = nI (dn t) ∧ dn t ≤ 4 := fun t ht => ⟨hmy t ht, (hQ t ht).2.1⟩
  exact ⟨_, _, _, (wk_ki_r (congrArg nI (fin_len uvS hQ hc ol)) (c_LoopRanker_levels lr sa po u1 u2 l1 l2 l3 l4 uS vS lu lw lf lo lc ln fs bs nc x y fd ds hR)), (c_LoopRankerModel_levels h m1 p1 q1 r1 w1 o1 f1 s1 nc my fp fq fr up sm top bot lv ol fi se x y fd dn hmy4 hc), fun va vb ha hb => by
    obtain ⟨lu2, lw2, lf2, lo2, lc2, ln2, fs2, bs2, rfl, hR2⟩ := ha
    obtain ⟨fi2, se2, sm2, t2, b2, rfl, -⟩ := hb
    exact ⟨_, _, _, _, _, _, _, _, _, _, _, _, _, _, _, _, _, _, _, _, _, _, _, _, _, dn, rfl, rfl, hR2, hQ, hmy⟩⟩
set_option maxHeartbeats 4000000 in
set_option maxRecDepth 100000 in
theorem op_proven {wr wm : va_W} (hI : lwI cI cJ cS lr sa po u1 u2 l1 l2 l3 l4 h m1 p1 q1 r1 w1 o1 f1 s1 wr wm) : ∃ (P1 P2 : va_W → Prop) (r : Int32), wk_ki l y_LoopRanker_proven (Cond.code y_LoopRanker_proven b_LoopRanker_proven 1 (some .boolean) :: BW) rm_LoopRanker_proven D cls (kT cI cJ cS) nz [.ref lr] wr P1 r ∧ wk_ki l y_LoopRankerModel_proven (Cond.code y_LoopRankerModel_proven b_LoopRankerModel_proven 1 (some .boolean) :: BW) rm_LoopRankerModel_proven D cls (kT cI cJ cS) nz [.ref h] wm P2 r ∧ ∀ va vb, P1 va → P2 vb → lwI cI cJ cS lr sa po u1 u2 l1 l2 l3 l4 h m1 p1 q1 r1 w1 o1 f1 s1 va vb := by
  obtain ⟨nc, lu, lw, lf, lo, lc, ln, fs, bs, ds, x, y, fd, my, fp, fq, fr, up, sm, top, bot, lv, ol, fi, se, dn, rfl, rfl, hR, hQ, hmy⟩ := hI
  have hc : nc ≤ 6 := hR.2.1
  have hl : ds.length = 6 := by rw [← hR.2.2.1, List.length_map]; exact hR.1.1
  have hmy4 : ∀ t, t < nc → my t = nI (dn t) ∧ dn t ≤ 4 := fun t ht => ⟨hmy t ht, (hQ t ht).2.1⟩
  have hr : (if c_lf (c_fin ds uS vS nc).1 nc 0 0 = 0 then (1 : Int32) else 0) = (if m_lf (FIN fp fq fr up dn nc ol).1 nc 0 0 = 0 then 1 else 0) := by rw [fin_lf uvS hQ hc ol]
  exact ⟨_, _, _, (wk_ki_r hr (c_LoopRanker_proven lr sa po u1 u2 l1 l2 l3 l4 uS vS lu lw lf lo lc ln fs bs nc x y fd ds hR)), (c_LoopRankerModel_proven h m1 p1 q1 r1 w1 o1 f1 s1 nc my fp fq fr up sm top bot lv ol fi se x y fd dn hmy4 hc), fun va vb ha hb => by
    obtain ⟨lu2, lw2, lf2, lo2, lc2, ln2, fs2, bs2, rfl, hR2⟩ := ha
    obtain ⟨fi2, se2, sm2, t2, b2, rfl, -⟩ := hb
    exact ⟨_, _, _, _, _, _, _, _, _, _, _, _, _, _, _, _, _, _, _, _, _, _, _, _, _, dn, rfl, rfl, hR2, hQ, hmy⟩⟩
set_option maxHeartbeats 4000000 in
set_option maxRecDepth 100000 in
theorem op_levelOf {wr wm : va_W} (a : Int32) (hI : lwI cI cJ cS lr sa po u1 u2 l1 l2 l3 l4 h m1 p1 q1 r1 w1 o1 f1 s1 wr wm) : ∃ (P1 P2 : va_W → Prop) (r : Int32), wk_ki l y_LoopRanker_levelOf (Cond.code y_LoopRanker_levelOf b_LoopRanker_levelOf 2 (some .int) :: BW) rm_LoopRanker_levelOf D cls (kT cI cJ cS) nz [.ref lr, .int a] wr P1 r ∧ wk_ki l y_LoopRankerModel_levelOf (Cond.code y_LoopRankerModel_levelOf b_LoopRankerModel_levelOf 2 (some .int) :: BW) rm_LoopRankerModel_levelOf D cls (kT cI cJ cS) nz [.ref h, .int a] wm P2 r ∧ ∀ va vb, P1 va → P2 vb → lwI cI cJ cS lr sa po u1 u2 l1 l2 l3 l4 h m1 p1 q1 r1 w1 o1 f1 s1 va vb := by
  obtain ⟨nc, lu, lw, lf, lo, lc, ln, fs, bs, ds, x, y, fd, my, fp, fq, fr, up, sm, top, bot, lv, ol, fi, se, dn, rfl, rfl, hR, hQ, hmy⟩ := hI
  have hc : nc ≤ 6 := hR.2.1
  have hl : ds.length = 6 := by rw [← hR.2.2.1, List.length_map]; exact hR.1.1
  have hmy4 : ∀ t, t < nc → my t = nI (dn t) ∧ dn t ≤ 4 := fun t ht => ⟨hmy t ht, (hQ t ht).2.1⟩
  by_cases hb0 : m_th nc a = 0
  · exact ⟨_, _, _, (c_LoopRanker_levelOf_bad lr sa po u1 u2 l1 l2 l3 l4 uS vS lu lw lf lo lc ln fs bs nc x y fd a ds hR hb0), (c_LoopRankerModel_levelOf_bad h m1 p1 q1 r1 w1 o1 f1 s1 nc my fp fq fr up sm top bot lv ol fi se x y fd a dn hmy4 hc hb0), fun va vb ha hb => by
      obtain ⟨lu2, lw2, lf2, lo2, lc2, ln2, fs2, bs2, rfl, hR2⟩ := ha
      obtain ⟨fi2, se2, sm2, t2, b2, rfl, -⟩ := hb
      exact ⟨_, _, _, _, _, _, _, _, _, _, _, _, _, _, _, _, _, _, _, _, _, _, _, _, _, dn, rfl, rfl, hR2, hQ, hmy⟩⟩
  · obtain ⟨k, hk, rfl⟩ := m_th_nat hc hb0
    have hq := hQ k hk
    exact ⟨_, _, _, (wk_ki_r ((fin_eq uvS hQ hc ol).1 k hk) (c_LoopRanker_levelOf lr sa po u1 u2 l1 l2 l3 l4 uS vS lu lw lf lo lc ln fs bs nc x y fd k ds hR hk)), (c_LoopRankerModel_levelOf h m1 p1 q1 r1 w1 o1 f1 s1 nc my fp fq fr up sm top bot lv ol fi se x y fd k dn hmy4 hc hk), fun va vb ha hb => by
      obtain ⟨lu2, lw2, lf2, lo2, lc2, ln2, fs2, bs2, rfl, hR2⟩ := ha
      obtain ⟨fi2, se2, sm2, t2, b2, rfl, -⟩ := hb
      exact ⟨_, _, _, _, _, _, _, _, _, _, _, _, _, _, _, _, _, _, _, _, _, _, _, _, _, dn, rfl, rfl, hR2, hQ, hmy⟩⟩
set_option maxHeartbeats 4000000 in
set_option maxRecDepth 100000 in
theorem op_coefficient {wr wm : va_W} (a b : Int32) (hI : lwI cI cJ cS lr sa po u1 u2 l1 l2 l3 l4 h m1 p1 q1 r1 w1 o1 f1 s1 wr wm) : ∃ (P1 P2 : va_W → Prop) (r : Int32), wk_ki l y_LoopRanker_coefficient (Cond.code y_LoopRanker_coefficient b_LoopRanker_coefficient 3 (some .int) :: BW) rm_LoopRanker_coefficient D cls (kT cI cJ cS) nz [.ref lr, .int a, .int b] wr P1 r ∧ wk_ki l y_LoopRankerModel_coefficient (Cond.code y_LoopRankerModel_coefficient b_LoopRankerModel_coefficient 3 (some .int) :: BW) rm_LoopRankerModel_coefficient D cls (kT cI cJ cS) nz [.ref h, .int a, .int b] wm P2 r ∧ ∀ va vb, P1 va → P2 vb → lwI cI cJ cS lr sa po u1 u2 l1 l2 l3 l4 h m1 p1 q1 r1 w1 o1 f1 s1 va vb := by
  obtain ⟨nc, lu, lw, lf, lo, lc, ln, fs, bs, ds, x, y, fd, my, fp, fq, fr, up, sm, top, bot, lv, ol, fi, se, dn, rfl, rfl, hR, hQ, hmy⟩ := hI
  have hc : nc ≤ 6 := hR.2.1
  have hl : ds.length = 6 := by rw [← hR.2.2.1, List.length_map]; exact hR.1.1
  have hmy4 : ∀ t, t < nc → my t = nI (dn t) ∧ dn t ≤ 4 := fun t ht => ⟨hmy t ht, (hQ t ht).2.1⟩
  by_cases hb0 : m_th (c_fin ds uS vS nc).2.length a = 0
  · have hb1 : a < 0 ∨ ¬ a < nI (FIN fp fq fr up dn nc ol).2.length := by rw [← fin_len uvS hQ hc ol]; exact th_bad hb0
    exact ⟨_, _, _, (c_LoopRanker_coefficient_bad lr sa po u1 u2 l1 l2 l3 l4 uS vS lu lw lf lo lc ln fs bs nc x y fd a b ds hR hb0), (c_LoopRankerModel_coefficient_bad h m1 p1 q1 r1 w1 o1 f1 s1 nc my fp fq fr up sm top bot lv ol fi se x y fd a b dn hmy4 hc hb1), fun va vb ha hb => by
      obtain ⟨lu2, lw2, lf2, lo2, lc2, ln2, fs2, bs2, rfl, hR2⟩ := ha
      obtain ⟨fi2, se2, sm2, t2, b2, rfl, -⟩ := hb
      exact ⟨_, _, _, _, _, _, _, _, _, _, _, _, _, _, _, _, _, _, _, _, _, _, _, _, _, dn, rfl, rfl, hR2, hQ, hmy⟩⟩
  · obtain ⟨k, hk, rfl⟩ := m_th_nat (c_fin_len ds uS vS nc) hb0
    have hk2 : k < (FIN fp fq fr up dn nc ol).2.length := by rw [← fin_len uvS hQ hc ol]; exact hk
    have hat := fin_at uvS hQ hc ol k
    have hr : (if b = 0 then ((c_fin ds uS vS nc).2.getD k (0, 0, 0)).1 else if b = 1 then ((c_fin ds uS vS nc).2.getD k (0, 0, 0)).2.1 else 0) = (if b = 0 then ((FIN fp fq fr up dn nc ol).2.getD k (0, 0)).1 else if b = 1 then ((FIN fp fq fr up dn nc ol).2.getD k (0, 0)).2 else 0) := by rw [hat]
    exact ⟨_, _, _, (wk_ki_r hr (c_LoopRanker_coefficient lr sa po u1 u2 l1 l2 l3 l4 uS vS lu lw lf lo lc ln fs bs nc x y fd k b ds hR hk)), (c_LoopRankerModel_coefficient h m1 p1 q1 r1 w1 o1 f1 s1 nc my fp fq fr up sm top bot lv ol fi se x y fd k b dn hmy4 hc hk2), fun va vb ha hb => by
      obtain ⟨lu2, lw2, lf2, lo2, lc2, ln2, fs2, bs2, rfl, hR2⟩ := ha
      obtain ⟨fi2, se2, sm2, t2, b2, rfl, -⟩ := hb
      exact ⟨_, _, _, _, _, _, _, _, _, _, _, _, _, _, _, _, _, _, _, _, _, _, _, _, _, dn, rfl, rfl, hR2, hQ, hmy⟩⟩
set_option maxHeartbeats 4000000 in
set_option maxRecDepth 100000 in
theorem op_floor {wr wm : va_W} (a : Int32) (hI : lwI cI cJ cS lr sa po u1 u2 l1 l2 l3 l4 h m1 p1 q1 r1 w1 o1 f1 s1 wr wm) : ∃ (P1 P2 : va_W → Prop) (r : Int64), wk_kl l y_LoopRanker_floor (Cond.code y_LoopRanker_floor b_LoopRanker_floor 2 (some .long) :: BW) rm_LoopRanker_floor D cls (kT cI cJ cS) nz [.ref lr, .int a] wr P1 r ∧ wk_kl l y_LoopRankerModel_floor (Cond.code y_LoopRankerModel_floor b_LoopRankerModel_floor 2 (some .long) :: BW) rm_LoopRankerModel_floor D cls (kT cI cJ cS) nz [.ref h, .int a] wm P2 r ∧ ∀ va vb, P1 va → P2 vb → lwI cI cJ cS lr sa po u1 u2 l1 l2 l3 l4 h m1 p1 q1 r1 w1 o1 f1 s1 va vb := by
  obtain ⟨nc, lu, lw, lf, lo, lc, ln, fs, bs, ds, x, y, fd, my, fp, fq, fr, up, sm, top, bot, lv, ol, fi, se, dn, rfl, rfl, hR, hQ, hmy⟩ := hI
  have hc : nc ≤ 6 := hR.2.1
  have hl : ds.length = 6 := by rw [← hR.2.2.1, List.length_map]; exact hR.1.1
  have hmy4 : ∀ t, t < nc → my t = nI (dn t) ∧ dn t ≤ 4 := fun t ht => ⟨hmy t ht, (hQ t ht).2.1⟩
  by_cases hb0 : m_th (c_fin ds uS vS nc).2.length a = 0
  · have hb1 : a < 0 ∨ ¬ a < nI (FIN fp fq fr up dn nc ol).2.length := by rw [← fin_len uvS hQ hc ol]; exact th_bad hb0
    exact ⟨_, _, _, (c_LoopRanker_floor_bad lr sa po u1 u2 l1 l2 l3 l4 uS vS lu lw lf lo lc ln fs bs nc x y fd a ds hR hb0), (c_LoopRankerModel_floor_bad h m1 p1 q1 r1 w1 o1 f1 s1 nc my fp fq fr up sm top bot lv ol fi se x y fd a dn hmy4 hc hb1), fun va vb ha hb => by
      obtain ⟨lu2, lw2, lf2, lo2, lc2, ln2, fs2, bs2, rfl, hR2⟩ := ha
      obtain ⟨fi2, se2, sm2, t2, b2, rfl, -⟩ := hb
      exact ⟨_, _, _, _, _, _, _, _, _, _, _, _, _, _, _, _, _, _, _, _, _, _, _, _, _, dn, rfl, rfl, hR2, hQ, hmy⟩⟩
  · obtain ⟨k, hk, rfl⟩ := m_th_nat (c_fin_len ds uS vS nc) hb0
    have hk2 : k < (FIN fp fq fr up dn nc ol).2.length := by rw [← fin_len uvS hQ hc ol]; exact hk
    have hat := fin_at uvS hQ hc ol k
    exact ⟨_, _, _, (wk_kl_r (fin_fl uvS hQ hc ol hk2) (c_LoopRanker_floor lr sa po u1 u2 l1 l2 l3 l4 uS vS lu lw lf lo lc ln fs bs nc x y fd k ds hR hk)), (c_LoopRankerModel_floor h m1 p1 q1 r1 w1 o1 f1 s1 nc my fp fq fr up sm top bot lv ol fi se x y fd k dn hmy4 hc hk2), fun va vb ha hb => by
      obtain ⟨lu2, lw2, lf2, lo2, lc2, ln2, fs2, bs2, rfl, hR2⟩ := ha
      obtain ⟨fi2, se2, sm2, t2, b2, rfl, -⟩ := hb
      exact ⟨_, _, _, _, _, _, _, _, _, _, _, _, _, _, _, _, _, _, _, _, _, _, _, _, _, dn, rfl, rfl, hR2, hQ, hmy⟩⟩
set_option maxHeartbeats 4000000 in
set_option maxRecDepth 100000 in
theorem op_rank {wr wm : va_W} (a : Int32) (hI : lwI cI cJ cS lr sa po u1 u2 l1 l2 l3 l4 h m1 p1 q1 r1 w1 o1 f1 s1 wr wm) : ∃ (P1 P2 : va_W → Prop) (r : Int64), wk_kl l y_LoopRanker_rank (Cond.code y_LoopRanker_rank b_LoopRanker_rank 2 (some .long) :: BW) rm_LoopRanker_rank D cls (kT cI cJ cS) nz [.ref lr, .int a] wr P1 r ∧ wk_kl l y_LoopRankerModel_rank (Cond.code y_LoopRankerModel_rank b_LoopRankerModel_rank 2 (some .long) :: BW) rm_LoopRankerModel_rank D cls (kT cI cJ cS) nz [.ref h, .int a] wm P2 r ∧ ∀ va vb, P1 va → P2 vb → lwI cI cJ cS lr sa po u1 u2 l1 l2 l3 l4 h m1 p1 q1 r1 w1 o1 f1 s1 va vb := by
  obtain ⟨nc, lu, lw, lf, lo, lc, ln, fs, bs, ds, x, y, fd, my, fp, fq, fr, up, sm, top, bot, lv, ol, fi, se, dn, rfl, rfl, hR, hQ, hmy⟩ := hI
  have hc : nc ≤ 6 := hR.2.1
  have hl : ds.length = 6 := by rw [← hR.2.2.1, List.length_map]; exact hR.1.1
  have hmy4 : ∀ t, t < nc → my t = nI (dn t) ∧ dn t ≤ 4 := fun t ht => ⟨hmy t ht, (hQ t ht).2.1⟩
  by_cases hb0 : m_th (c_fin ds uS vS nc).2.length a = 0
  · have hb1 : a < 0 ∨ ¬ a < nI (FIN fp fq fr up dn nc ol).2.length := by rw [← fin_len uvS hQ hc ol]; exact th_bad hb0
    exact ⟨_, _, _, (c_LoopRanker_rank_bad lr sa po u1 u2 l1 l2 l3 l4 uS vS lu lw lf lo lc ln fs bs nc x y fd a ds hR hb0), (c_LoopRankerModel_rank_bad h m1 p1 q1 r1 w1 o1 f1 s1 nc my fp fq fr up sm top bot lv ol fi se x y fd a dn hmy4 hc hb1), fun va vb ha hb => by
      obtain ⟨lu2, lw2, lf2, lo2, lc2, ln2, fs2, bs2, rfl, hR2⟩ := ha
      obtain ⟨fi2, se2, sm2, t2, b2, rfl, -⟩ := hb
      exact ⟨_, _, _, _, _, _, _, _, _, _, _, _, _, _, _, _, _, _, _, _, _, _, _, _, _, dn, rfl, rfl, hR2, hQ, hmy⟩⟩
  · obtain ⟨k, hk, rfl⟩ := m_th_nat (c_fin_len ds uS vS nc) hb0
    have hk2 : k < (FIN fp fq fr up dn nc ol).2.length := by rw [← fin_len uvS hQ hc ol]; exact hk
    have hat := fin_at uvS hQ hc ol k
    have hr : ((c_fin ds uS vS nc).2.getD k (0, 0, 0)).1.toInt64 * x + ((c_fin ds uS vS nc).2.getD k (0, 0, 0)).2.1.toInt64 * y = ((FIN fp fq fr up dn nc ol).2.getD k (0, 0)).1.toInt64 * x + ((FIN fp fq fr up dn nc ol).2.getD k (0, 0)).2.toInt64 * y := by rw [hat]
    exact ⟨_, _, _, (wk_kl_r hr (c_LoopRanker_rank lr sa po u1 u2 l1 l2 l3 l4 uS vS lu lw lf lo lc ln fs bs nc x y fd k ds hR hk)), (c_LoopRankerModel_rank h m1 p1 q1 r1 w1 o1 f1 s1 nc my fp fq fr up sm top bot lv ol fi se x y fd k dn hmy4 hc hk2), fun va vb ha hb => by
      obtain ⟨lu2, lw2, lf2, lo2, lc2, ln2, fs2, bs2, rfl, hR2⟩ := ha
      obtain ⟨fi2, se2, sm2, t2, b2, rfl, -⟩ := hb
      exact ⟨_, _, _, _, _, _, _, _, _, _, _, _, _, _, _, _, _, _, _, _, _, _, _, _, _, dn, rfl, rfl, hR2, hQ, hmy⟩⟩
set_option maxHeartbeats 4000000 in
set_option maxRecDepth 100000 in
theorem op_budget {wr wm : va_W} (hI : lwI cI cJ cS lr sa po u1 u2 l1 l2 l3 l4 h m1 p1 q1 r1 w1 o1 f1 s1 wr wm) : ∃ (P1 P2 : va_W → Prop) (r : Int64), wk_kl l y_LoopRanker_budget (Cond.code y_LoopRanker_budget b_LoopRanker_budget 1 (some .long) :: BW) rm_LoopRanker_budget D cls (kT cI cJ cS) nz [.ref lr] wr P1 r ∧ wk_kl l y_LoopRankerModel_budget (Cond.code y_LoopRankerModel_budget b_LoopRankerModel_budget 3 (some .long) :: BW) rm_LoopRankerModel_budget D cls (kT cI cJ cS) nz [.ref h] wm P2 r ∧ ∀ va vb, P1 va → P2 vb → lwI cI cJ cS lr sa po u1 u2 l1 l2 l3 l4 h m1 p1 q1 r1 w1 o1 f1 s1 va vb := by
  obtain ⟨nc, lu, lw, lf, lo, lc, ln, fs, bs, ds, x, y, fd, my, fp, fq, fr, up, sm, top, bot, lv, ol, fi, se, dn, rfl, rfl, hR, hQ, hmy⟩ := hI
  have hc : nc ≤ 6 := hR.2.1
  have hl : ds.length = 6 := by rw [← hR.2.2.1, List.length_map]; exact hR.1.1
  have hmy4 : ∀ t, t < nc → my t = nI (dn t) ∧ dn t ≤ 4 := fun t ht => ⟨hmy t ht, (hQ t ht).2.1⟩
  exact ⟨_, _, _, (wk_kl_r (fin_bud uvS hQ hc ol x y) (c_LoopRanker_budget lr sa po u1 u2 l1 l2 l3 l4 uS vS lu lw lf lo lc ln fs bs nc x y fd ds hR)), (c_LoopRankerModel_budget h m1 p1 q1 r1 w1 o1 f1 s1 nc my fp fq fr up sm top bot lv ol fi se x y fd dn hmy4 hc), fun va vb ha hb => by
    obtain ⟨lu2, lw2, lf2, lo2, lc2, ln2, fs2, bs2, rfl, hR2⟩ := ha
    obtain ⟨fi2, se2, sm2, t2, b2, rfl, -⟩ := hb
    exact ⟨_, _, _, _, _, _, _, _, _, _, _, _, _, _, _, _, _, _, _, _, _, _, _, _, _, dn, rfl, rfl, hR2, hQ, hmy⟩⟩
set_option maxHeartbeats 4000000 in
set_option maxRecDepth 100000 in
theorem op_value {wr wm : va_W} (a : Int32) (hI : lwI cI cJ cS lr sa po u1 u2 l1 l2 l3 l4 h m1 p1 q1 r1 w1 o1 f1 s1 wr wm) : ∃ (P1 P2 : va_W → Prop) (r : Int64), wk_kl l y_LoopRanker_value (Cond.code y_LoopRanker_value b_LoopRanker_value 2 (some .long) :: BW) rm_LoopRanker_value D cls (kT cI cJ cS) nz [.ref lr, .int a] wr P1 r ∧ wk_kl l y_LoopRankerModel_value (Cond.code y_LoopRankerModel_value b_LoopRankerModel_value 2 (some .long) :: BW) rm_LoopRankerModel_value D cls (kT cI cJ cS) nz [.ref h, .int a] wm P2 r ∧ ∀ va vb, P1 va → P2 vb → lwI cI cJ cS lr sa po u1 u2 l1 l2 l3 l4 h m1 p1 q1 r1 w1 o1 f1 s1 va vb := by
  obtain ⟨nc, lu, lw, lf, lo, lc, ln, fs, bs, ds, x, y, fd, my, fp, fq, fr, up, sm, top, bot, lv, ol, fi, se, dn, rfl, rfl, hR, hQ, hmy⟩ := hI
  have hc : nc ≤ 6 := hR.2.1
  have hl : ds.length = 6 := by rw [← hR.2.2.1, List.length_map]; exact hR.1.1
  have hmy4 : ∀ t, t < nc → my t = nI (dn t) ∧ dn t ≤ 4 := fun t ht => ⟨hmy t ht, (hQ t ht).2.1⟩
  exact ⟨_, _, _, (c_LoopRanker_value lr sa po u1 u2 l1 l2 l3 l4 uS vS lu lw lf lo lc ln fs bs nc x y fd a ds hR), (c_LoopRankerModel_value h m1 p1 q1 r1 w1 o1 f1 s1 nc my fp fq fr up sm top bot lv ol fi se x y fd a), fun va vb ha hb => by
    obtain ⟨lu2, lw2, lf2, lo2, lc2, ln2, fs2, bs2, rfl, hR2⟩ := ha
    subst hb
    exact ⟨_, _, _, _, _, _, _, _, _, _, _, _, _, _, _, _, _, _, _, _, _, _, _, _, _, dn, rfl, rfl, hR2, hQ, hmy⟩⟩
set_option maxHeartbeats 4000000 in
set_option maxRecDepth 100000 in
theorem op_fired {wr wm : va_W} (hI : lwI cI cJ cS lr sa po u1 u2 l1 l2 l3 l4 h m1 p1 q1 r1 w1 o1 f1 s1 wr wm) : ∃ (P1 P2 : va_W → Prop) (r : Int32), wk_ki l y_LoopRanker_fired (Cond.code y_LoopRanker_fired b_LoopRanker_fired 1 (some .int) :: BW) rm_LoopRanker_fired D cls (kT cI cJ cS) nz [.ref lr] wr P1 r ∧ wk_ki l y_LoopRankerModel_fired (Cond.code y_LoopRankerModel_fired b_LoopRankerModel_fired 1 (some .int) :: BW) rm_LoopRankerModel_fired D cls (kT cI cJ cS) nz [.ref h] wm P2 r ∧ ∀ va vb, P1 va → P2 vb → lwI cI cJ cS lr sa po u1 u2 l1 l2 l3 l4 h m1 p1 q1 r1 w1 o1 f1 s1 va vb := by
  obtain ⟨nc, lu, lw, lf, lo, lc, ln, fs, bs, ds, x, y, fd, my, fp, fq, fr, up, sm, top, bot, lv, ol, fi, se, dn, rfl, rfl, hR, hQ, hmy⟩ := hI
  have hc : nc ≤ 6 := hR.2.1
  have hl : ds.length = 6 := by rw [← hR.2.2.1, List.length_map]; exact hR.1.1
  have hmy4 : ∀ t, t < nc → my t = nI (dn t) ∧ dn t ≤ 4 := fun t ht => ⟨hmy t ht, (hQ t ht).2.1⟩
  exact ⟨_, _, _, (c_LoopRanker_fired lr sa po u1 u2 l1 l2 l3 l4 uS vS lu lw lf lo lc ln fs bs nc x y fd ds hR), (c_LoopRankerModel_fired h m1 p1 q1 r1 w1 o1 f1 s1 nc my fp fq fr up sm top bot lv ol fi se x y fd), fun va vb ha hb => by
    obtain ⟨lu2, lw2, lf2, lo2, lc2, ln2, fs2, bs2, rfl, hR2⟩ := ha
    subst hb
    exact ⟨_, _, _, _, _, _, _, _, _, _, _, _, _, _, _, _, _, _, _, _, _, _, _, _, _, dn, rfl, rfl, hR2, hQ, hmy⟩⟩
set_option maxHeartbeats 4000000 in
set_option maxRecDepth 100000 in
theorem op_start {wr wm : va_W} (a b : Int32) (hI : lwI cI cJ cS lr sa po u1 u2 l1 l2 l3 l4 h m1 p1 q1 r1 w1 o1 f1 s1 wr wm) : ∃ (P1 P2 : va_W → Prop) (r : Int32), wk_ki l y_LoopRanker_start (Cond.code y_LoopRanker_start b_LoopRanker_start 3 (some .boolean) :: BW) rm_LoopRanker_start D cls (kT cI cJ cS) nz [.ref lr, .int a, .int b] wr P1 r ∧ wk_ki l y_LoopRankerModel_start (Cond.code y_LoopRankerModel_start b_LoopRankerModel_start 3 (some .boolean) :: BW) rm_LoopRankerModel_start D cls (kT cI cJ cS) nz [.ref h, .int a, .int b] wm P2 r ∧ ∀ va vb, P1 va → P2 vb → lwI cI cJ cS lr sa po u1 u2 l1 l2 l3 l4 h m1 p1 q1 r1 w1 o1 f1 s1 va vb := by
  obtain ⟨nc, lu, lw, lf, lo, lc, ln, fs, bs, ds, x, y, fd, my, fp, fq, fr, up, sm, top, bot, lv, ol, fi, se, dn, rfl, rfl, hR, hQ, hmy⟩ := hI
  have hc : nc ≤ 6 := hR.2.1
  have hl : ds.length = 6 := by rw [← hR.2.2.1, List.length_map]; exact hR.1.1
  have hmy4 : ∀ t, t < nc → my t = nI (dn t) ∧ dn t ≤ 4 := fun t ht => ⟨hmy t ht, (hQ t ht).2.1⟩
  have e1 := qw_eq (k6 := 1000000) (k3 := 1000000) (K := 1000000) a rfl rfl rfl rfl
  have e2 := qw_eq (k6 := 1000000) (k3 := 1000000) (K := 1000000) b rfl rfl rfl rfl
  have hr : (if r_w a.toInt64 1000000 = 0 ∨ r_w b.toInt64 1000000 = 0 then (0 : Int32) else 1) = (if m_wi a 1000000 = 0 ∨ m_wi b 1000000 = 0 then 0 else 1) := by rw [e1, e2]
  refine ⟨_, _, _, wk_ki_r hr (c_LoopRanker_start lr sa po u1 u2 l1 l2 l3 l4 uS vS lu lw lf lo lc ln fs bs nc x y fd a b ds hR), (c_LoopRankerModel_start h m1 p1 q1 r1 w1 o1 f1 s1 nc my fp fq fr up sm top bot lv ol fi se x y fd a b), fun va vb ha hb => ?_⟩
  obtain ⟨lu2, lw2, lf2, lo2, lc2, ln2, fs2, bs2, ha, hR2⟩ := ha
  rw [e1, e2] at ha
  by_cases cz : m_wi a 1000000 = 0 ∨ m_wi b 1000000 = 0
  · rw [if_pos cz] at ha hb
    subst ha hb
    exact ⟨_, _, _, _, _, _, _, _, _, _, _, _, _, _, _, _, _, _, _, _, _, _, _, _, _, dn, rfl, rfl, hR2, hQ, hmy⟩
  · rw [if_neg cz] at ha hb
    subst ha hb
    exact ⟨_, _, _, _, _, _, _, _, _, _, _, _, _, _, _, _, _, _, _, _, _, _, _, _, _, dn, rfl, rfl, hR2, hQ, hmy⟩
set_option maxHeartbeats 4000000 in
set_option maxRecDepth 100000 in
theorem op_fire {wr wm : va_W} (a : Int32) (hI : lwI cI cJ cS lr sa po u1 u2 l1 l2 l3 l4 h m1 p1 q1 r1 w1 o1 f1 s1 wr wm) : ∃ (P1 P2 : va_W → Prop) (r : Int32), wk_ki l y_LoopRanker_fire (Cond.code y_LoopRanker_fire b_LoopRanker_fire 6 (some .boolean) :: BW) rm_LoopRanker_fire D cls (kT cI cJ cS) nz [.ref lr, .int a] wr P1 r ∧ wk_ki l y_LoopRankerModel_fire (Cond.code y_LoopRankerModel_fire b_LoopRankerModel_fire 7 (some .boolean) :: BW) rm_LoopRankerModel_fire D cls (kT cI cJ cS) nz [.ref h, .int a] wm P2 r ∧ ∀ va vb, P1 va → P2 vb → lwI cI cJ cS lr sa po u1 u2 l1 l2 l3 l4 h m1 p1 q1 r1 w1 o1 f1 s1 va vb := by
  obtain ⟨nc, lu, lw, lf, lo, lc, ln, fs, bs, ds, x, y, fd, my, fp, fq, fr, up, sm, top, bot, lv, ol, fi, se, dn, rfl, rfl, hR, hQ, hmy⟩ := hI
  have hc : nc ≤ 6 := hR.2.1
  have hl : ds.length = 6 := by rw [← hR.2.2.1, List.length_map]; exact hR.1.1
  have hmy4 : ∀ t, t < nc → my t = nI (dn t) ∧ dn t ≤ 4 := fun t ht => ⟨hmy t ht, (hQ t ht).2.1⟩
  by_cases hb0 : m_th nc a = 0
  · exact ⟨_, _, _, (c_LoopRanker_fire_bad lr sa po u1 u2 l1 l2 l3 l4 uS vS lu lw lf lo lc ln fs bs nc x y fd a ds hR hb0), (c_LoopRankerModel_fire_bad h m1 p1 q1 r1 w1 o1 f1 s1 nc my fp fq fr up sm top bot lv ol fi se x y fd a hb0), fun va vb ha hb => by
      obtain ⟨lu2, lw2, lf2, lo2, lc2, ln2, fs2, bs2, rfl, hR2⟩ := ha
      subst hb
      exact ⟨_, _, _, _, _, _, _, _, _, _, _, _, _, _, _, _, _, _, _, _, _, _, _, _, _, dn, rfl, rfl, hR2, hQ, hmy⟩⟩
  · obtain ⟨k, hk, rfl⟩ := m_th_nat hc hb0
    have hq := hQ k hk
    have hr := q_fr hq x y
    refine ⟨_, _, _, wk_ki_r hr (c_LoopRanker_fire lr sa po u1 u2 l1 l2 l3 l4 uS vS lu lw lf lo lc ln fs bs nc x y fd k ds hR hk), (c_LoopRankerModel_fire h m1 p1 q1 r1 w1 o1 f1 s1 nc my fp fq fr up sm top bot lv ol fi se x y fd k (dn k) (hmy k hk) hk hc hq.2.1), fun va vb ha hb => ?_⟩
    obtain ⟨lu2, lw2, lf2, lo2, lc2, ln2, fs2, bs2, ha, hR2⟩ := ha
    rw [hr, q_nx hq x y, q_ny hq x y] at ha
    by_cases cz : m_fr fp fq fr up k (dn k) x y = 0
    · rw [if_pos cz] at ha hb
      subst ha hb
      exact ⟨_, _, _, _, _, _, _, _, _, _, _, _, _, _, _, _, _, _, _, _, _, _, _, _, _, dn, rfl, rfl, hR2, hQ, hmy⟩
    · rw [if_neg cz] at ha hb
      subst ha hb
      exact ⟨_, _, _, _, _, _, _, _, _, _, _, _, _, _, _, _, _, _, _, _, _, _, _, _, _, dn, rfl, rfl, hR2, hQ, hmy⟩
end OPS
