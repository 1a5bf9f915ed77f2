theorem al_at (K : Nat → Int32) (Dd : Nat → bDt) (u v : Int32) (lc : Nat) : ∀ (k t : Nat) (z : cZ) (j : Nat), (c_al K Dd u v lc k t z).1 j = if (t ≤ j ∧ j < t + k) ∧ z.1 j = -1 ∧ K j = 2 then nI lc else z.1 j := by
  intro k
  induction k with
  | zero => intro t z j; rw [if_neg (by rintro ⟨⟨a, b⟩, -⟩; omega)]; rfl
  | succ k ih =>
    intro t z j
    show (c_al K Dd u v lc k (t + 1) (c_as K Dd u v lc t z)).1 j = _
    rw [ih]
    by_cases e : j = t
    · subst e
      rw [if_neg (by rintro ⟨⟨a, b⟩, -⟩; omega)]
      unfold c_as
      by_cases c0 : z.1 j = -1
      · rw [if_pos c0]
        by_cases c1 : K j = 2
        · rw [if_pos c1, if_pos (show (j ≤ j ∧ j < j + (k + 1)) ∧ z.1 j = -1 ∧ K j = 2 from ⟨⟨by omega, by omega⟩, c0, c1⟩)]
          exact pk_us
        · rw [if_neg c1, if_neg (fun z => c1 z.2.2)]
      · rw [if_neg c0, if_neg (fun z => c0 z.2.1)]
    · have e1 : (c_as K Dd u v lc t z).1 j = z.1 j := by
        unfold c_as
        split
        · split
          · exact pk_un e
          · rfl
        · rfl
      rw [e1]
      by_cases c : ((t + 1) ≤ j ∧ j < t + 1 + k) ∧ z.1 j = -1 ∧ K j = 2
      · rw [if_pos c, if_pos ⟨⟨by omega, by omega⟩, c.2⟩]
      · rw [if_neg c, if_neg (fun z => c ⟨⟨by omega, by omega⟩, z.2⟩)]
def FR (w : Int64) (y : Int32 × Int64) : Prop := (w = 4611686018427387904 ∧ y = (0, 0)) ∨ (y.1 = 1 ∧ w = y.2 ∧ ∃ Z : Int, v64 w Z 213841)
theorem FR_end {w : Int64} {y : Int32 × Int64} (h : FR w y) : c_flo w = y.2 := by
  unfold c_flo
  rcases h with ⟨a, b⟩ | ⟨-, b, Z, hZ⟩
  · rw [if_pos a, b]
  · rw [if_neg (fun z => ?_), b]
    rw [z] at hZ
    have h1 := hZ.1
    have h2 := hZ.2
    have h3 : (4611686018427387904 : Int64).toInt = 4611686018427387904 := rfl
    rw [h3] at h1
    omega
theorem al_fl {K lo ol' : Nat → Int32} {Dd : Nat → bDt} {u v : Int32} {lc nc : Nat} {E : Nat → Int32} {Lo : Nat → Int64} {lev : Int32} (h1 : ∀ t, t < nc → ((lo t = -1 ∧ K t = 2) ↔ ol' t = lev)) (h2 : ∀ t, t < nc → ((Dd t).2.1.2 = 0 ↔ E t = 0)) (h3 : ∀ t, t < nc → K t = 2 → (Dd t).2.1.2 = 0 → c_fl (Dd t) u v = Lo t ∧ ∃ Z : Int, v64 (c_fl (Dd t) u v) Z 213841) : ∀ (k t : Nat) (z : cZ) (y : Int32 × Int64), t + k ≤ nc → (∀ j, t ≤ j → z.1 j = lo j) → FR z.2.2 y → FR (c_al K Dd u v lc k t z).2.2 (m_ff E Lo ol' lev k t y) := by
  intro k
  induction k with
  | zero => intro t z y _ _ h; exact h
  | succ k ih =>
    intro t z y ht hz h
    refine ih (t + 1) _ _ (by omega) (fun j hj => ?_) ?_
    · unfold c_as
      split
      · split
        · show upd z.1 t (nI lc) j = lo j
          rw [pk_un (by omega)]
          exact hz j (by omega)
        · exact hz j (by omega)
      · exact hz j (by omega)
    · have e1 := h1 t (by omega)
      have e2 := h2 t (by omega)
      have e3 := h3 t (by omega)
      have ez := hz t (Nat.le_refl _)
      unfold c_as m_fs
      rw [ez]
      by_cases c1 : lo t = -1
      · rw [if_pos c1]
        by_cases c2 : K t = 2
        · rw [if_pos c2, if_pos (e1.mp ⟨c1, c2⟩)]
          show FR (if (Dd t).2.1.2 = 0 then (if c_fl (Dd t) u v < z.2.2 then c_fl (Dd t) u v else z.2.2) else z.2.2) _
          by_cases c3 : (Dd t).2.1.2 = 0
          · rw [if_pos c3, if_pos (e2.mp c3)]
            obtain ⟨a, Z, hZ⟩ := e3 c2 c3
            rcases h with ⟨b1, b2⟩ | ⟨b1, b2, Z', hZ'⟩
            · have hl : c_fl (Dd t) u v < z.2.2 := by
                rw [b1, Int64.lt_iff_toInt_lt, hZ.1]
                have := hZ.2
                have h3 : (4611686018427387904 : Int64).toInt = 4611686018427387904 := rfl
                rw [h3]
                omega
              rw [if_pos hl, b2, if_pos rfl]
              exact Or.inr ⟨rfl, a, Z, hZ⟩
            · have hy : ¬ y.1 = 0 := by rw [b1]; decide
              rw [if_neg hy, ← a, ← b2]
              by_cases c4 : c_fl (Dd t) u v < z.2.2
              · rw [if_pos c4]
                exact Or.inr ⟨rfl, rfl, Z, hZ⟩
              · rw [if_neg c4]
                exact Or.inr ⟨rfl, rfl, Z', hZ'⟩
          · rw [if_neg c3, if_neg (fun w => c3 (e2.mpr w))]
            exact h
        · rw [if_neg c2, if_neg (fun w => c2 (e1.mpr w).2)]
          exact h
      · rw [if_neg c1, if_neg (fun w => c1 (e1.mpr w).1)]
        exact h
theorem ff_cg {E : Nat → Int32} {Lo : Nat → Int64} {ol ol' : Nat → Int32} {lev : Int32} {nc : Nat} (h : ∀ t, t < nc → (ol t = lev ↔ ol' t = lev)) : ∀ (k t : Nat) (y : Int32 × Int64), t + k ≤ nc → m_ff E Lo ol lev k t y = m_ff E Lo ol' lev k t y := by
  intro k
  induction k with
  | zero => intro t y _; rfl
  | succ k ih =>
    intro t y ht
    show m_ff E Lo ol lev k (t + 1) (m_fs E Lo ol lev t y) = m_ff E Lo ol' lev k (t + 1) (m_fs E Lo ol' lev t y)
    have e : m_fs E Lo ol lev t y = m_fs E Lo ol' lev t y := by
      have e1 := h t (by omega)
      unfold m_fs
      by_cases c : ol t = lev
      · rw [if_pos c, if_pos (e1.mp c)]
      · rw [if_neg c, if_neg (fun z => c (e1.mpr z))]
    rw [e, ih _ _ (by omega)]
abbrev cLM (L : cL) : List (Int32 × Int32) := L.map (fun e => (e.1, e.2.1))
theorem getD_app {α : Type} (L : List α) (x d : α) {j : Nat} (h : j < (L ++ [x]).length) : (j < L.length ∧ (L ++ [x]).getD j d = L.getD j d) ∨ (j = L.length ∧ (L ++ [x]).getD j d = x) := by
  rw [List.length_append, List.length_singleton] at h
  by_cases c : j < L.length
  · exact Or.inl ⟨c, by rw [List.getD_eq_getElem?_getD, List.getElem?_append_left c, List.getD_eq_getElem?_getD]⟩
  · have e : j = L.length := by omega
    subst e
    exact Or.inr ⟨rfl, by rw [List.getD_eq_getElem?_getD, List.getElem?_append_right (Nat.le_refl _), Nat.sub_self]; rfl⟩
def flOK (fp fq fr : Nat → Int32) (dn : Nat → Nat) (ol : Nat → Int32) (nc : Nat) (L : cL) : Prop := ∀ j, j < L.length → (L.getD j (0, 0, 0)).2.2 = m_flo fp fq fr dn ol nc j (L.getD j (0, 0, 0)).1 (L.getD j (0, 0, 0)).2.1
set_option maxHeartbeats 2000000 in
theorem ab_eq {ds : List bDt} {fp fq fr up us vs : Nat → Int32} {dn : Nat → Nat} {nc : Nat} (huv : uvOK us vs) (hQ : QR ds fp fq fr up dn nc) : ∀ (k : Nat) (lo ol : Nat → Int32) (L : cL), (∀ t, t < nc → lo t = ol t) → gdL ol nc L.length → L.length + m_lf ol nc 0 0 ≤ 6 → m_lf ol nc 0 0 ≤ k → flOK fp fq fr dn ol nc L →
    (∀ t, t < nc → (c_ab (dAt ds) us vs nc k lo L).1 t = (m_ab (m_H fp fq fr up dn) nc (k + 1) ol (cLM L)).1 t) ∧ (m_ab (m_H fp fq fr up dn) nc (k + 1) ol (cLM L)).2 = cLM (c_ab (dAt ds) us vs nc k lo L).2 ∧ flOK fp fq fr dn (m_ab (m_H fp fq fr up dn) nc (k + 1) ol (cLM L)).1 nc (c_ab (dAt ds) us vs nc k lo L).2 ∧ gdL (m_ab (m_H fp fq fr up dn) nc (k + 1) ol (cLM L)).1 nc 6 := by
  intro k
  induction k with
  | zero =>
    intro lo ol L h1 h2 h3 h4 h5
    have e : m_ab (m_H fp fq fr up dn) nc (0 + 1) ol (cLM L) = (ol, cLM L) := by
      simp only [m_ab]
      rw [if_pos (by omega)]
    rw [e]
    refine ⟨h1, rfl, h5, fun t ht => ?_⟩
    rcases h2 t ht with z | ⟨j, hj, z⟩
    · exact Or.inl z
    · exact Or.inr ⟨j, by omega, z⟩
  | succ k ih =>
    intro lo ol L h1 h2 h3 h4 h5
    have hlen : L.length ≤ 6 := by omega
    have hneg : ∀ t, t < nc → (lo t = -1 ↔ ol t < 0) := fun t ht => by rw [h1 t ht]; exact gd_neg h2 hlen ht
    have hlf := lf_eq hneg nc 0 0 (by omega)
    have hgd6 : gdL ol nc 6 := fun t ht => by
      rcases h2 t ht with z | ⟨j, hj, z⟩
      · exact Or.inl z
      · exact Or.inr ⟨j, by omega, z⟩
    have hC : ∀ f, f < 80 → c_cr lo (fun t => dKind (dAt ds t) (us f) (vs f)) nc 0 0 = m_RR ol (m_H fp fq fr up dn) nc (us f) (vs f) := by
      intro f hf
      obtain ⟨hu, hv⟩ := uv_4 huv hf
      have e := cr_eq (lo := lo) (ol := ol) (K := fun t => dKind (dAt ds t) (us f) (vs f)) (hs := fun t w => m_H fp fq fr up dn t (us f) (vs f) w) hneg (fun t ht => kd_v (hQ t ht) hu hv) nc 0 0 (by omega)
      rw [e]
      unfold m_RR
      have hne := (huv.1 f hf).2
      by_cases c1 : us f = 0
      · rw [if_pos c1, if_neg (fun z => hne ⟨c1, z⟩)]
      · rw [if_neg c1]
    have hbest : c_best (dAt ds) us vs lo nc = (c_bf (fun f => m_RR ol (m_H fp fq fr up dn) nc (us f) (vs f)) 80 0 (-1, 0)).1 := by
      unfold c_best
      rw [c_bf_cg hC 80 0 _ (by omega)]
    have hb := best_eq huv (R := m_RR ol (m_H fp fq fr up dn) nc) (by unfold m_RR; rw [if_pos rfl, if_pos rfl]) 0 0
    rw [← hbest] at hb
    have em : m_ab (m_H fp fq fr up dn) nc (k + 1 + 1) ol (cLM L) = if m_lf ol nc 0 0 = 0 then (ol, cLM L) else if (m_B ol (m_H fp fq fr up dn) nc 0 0).1 = 0 then (ol, cLM L) else m_ab (m_H fp fq fr up dn) nc (k + 1) (m_lvl ol (m_H fp fq fr up dn) nc (cLM L).length (m_B ol (m_H fp fq fr up dn) nc 0 0)) (cLM L ++ [((m_B ol (m_H fp fq fr up dn) nc 0 0).2.1, (m_B ol (m_H fp fq fr up dn) nc 0 0).2.2)]) := rfl
    have ec : c_ab (dAt ds) us vs nc (k + 1) lo L = if c_lf lo nc 0 0 = 0 then (lo, L) else if c_best (dAt ds) us vs lo nc = -1 then (lo, L) else
        c_ab (dAt ds) us vs nc k (c_step (dAt ds) us vs lo nc L.length (c_best (dAt ds) us vs lo nc).toNatClampNeg).1 (L ++ [(us (c_best (dAt ds) us vs lo nc).toNatClampNeg, vs (c_best (dAt ds) us vs lo nc).toNatClampNeg, c_flo (c_step (dAt ds) us vs lo nc L.length (c_best (dAt ds) us vs lo nc).toNatClampNeg).2.2)]) := rfl
    rw [em, ec, hlf]
    by_cases c1 : m_lf ol nc 0 0 = 0
    · rw [if_pos c1, if_pos c1]
      exact ⟨h1, rfl, h5, hgd6⟩
    · rw [if_neg c1, if_neg c1]
      have hBdef : m_B ol (m_H fp fq fr up dn) nc 0 0 = m_bo (m_RR ol (m_H fp fq fr up dn) nc) 9 0 (0, 0, 0) := rfl
      rw [← hBdef] at hb
      rcases hb with ⟨b1, b2⟩ | ⟨g, hg, b1, b2, b3⟩
      · rw [if_pos b1, if_pos b2]
        exact ⟨h1, rfl, h5, hgd6⟩
      · have hB1 : ¬ (m_B ol (m_H fp fq fr up dn) nc 0 0).1 = 0 := by rw [b2]; show ¬ m_RR ol (m_H fp fq fr up dn) nc (us g) (vs g) = 0; omega
        have hcb : ¬ c_best (dAt ds) us vs lo nc = -1 := fun z => by
          rw [b1] at z
          exact absurd (show nI g < 0 by rw [z]; decide) (nI_pos (by omega))
        have hcl : (c_best (dAt ds) us vs lo nc).toNatClampNeg = g := by rw [b1]; exact nI_clamp (by omega)
        have hlt := m_lvl_lt ol (m_H fp fq fr up dn) nc (cLM L).length (by rw [List.length_map]; omega) hB1
        rw [if_neg hB1, if_neg hcb, hcl]
        rw [b2] at hlt ⊢
        have hll : (cLM L).length = L.length := List.length_map _
        rw [hll] at hlt ⊢
        obtain ⟨hu, hv⟩ := uv_4 huv hg
        -- the transitions that are left are kept from rising
        have hrm : m_rm ol (fun t w => m_H fp fq fr up dn t (us g) (vs g) w) nc 0 0 = m_RR ol (m_H fp fq fr up dn) nc (us g) (vs g) := by
          unfold m_RR
          have hne := (huv.1 g hg).2
          by_cases c1 : us g = 0
          · rw [if_pos c1, if_neg (fun z => hne ⟨c1, z⟩)]
          · rw [if_neg c1]
        have hall : ∀ t, t < nc → ol t < 0 → (dKind (dAt ds t) (us g) (vs g) = 2 ↔ ¬ m_H fp fq fr up dn t (us g) (vs g) 1 = 0 ∧ ¬ m_H fp fq fr up dn t (us g) (vs g) 2 = 0) := by
          intro t ht hn
          have hp := rm_pos nc 0 0 (show ¬ m_rm ol (fun t w => m_H fp fq fr up dn t (us g) (vs g) w) nc 0 0 = 0 by rw [hrm]; omega) t (by omega) (by omega) hn
          exact (kd_v (hQ t ht) hu hv).2 hp
        have hol : ∀ t, t < nc → (m_lvl ol (m_H fp fq fr up dn) nc L.length (m_RR ol (m_H fp fq fr up dn) nc (us g) (vs g), us g, vs g)) t = if ol t < 0 ∧ dKind (dAt ds t) (us g) (vs g) = 2 then nI L.length else ol t := by
          intro t ht
          unfold m_lvl
          rw [if_neg (show ¬ m_RR ol (m_H fp fq fr up dn) nc (us g) (vs g) = 0 by omega), m_ol_at]
          by_cases c : ol t < 0 ∧ dKind (dAt ds t) (us g) (vs g) = 2
          · have c2 := (hall t ht c.1).mp c.2
            rw [if_pos c, if_pos ⟨⟨by omega, by omega⟩, c.1, c2.1, c2.2⟩]
          · rw [if_neg c, if_neg (fun z => c ⟨z.2.1, (hall t ht z.2.1).mpr z.2.2⟩)]
        have hlo : ∀ t, t < nc → (c_step (dAt ds) us vs lo nc L.length g).1 t = if ol t < 0 ∧ dKind (dAt ds t) (us g) (vs g) = 2 then nI L.length else ol t := by
          intro t ht
          unfold c_step
          rw [al_at]
          show (if (0 ≤ t ∧ t < 0 + nc) ∧ lo t = -1 ∧ dKind (dAt ds t) (us g) (vs g) = 2 then nI L.length else lo t) = _
          by_cases c : ol t < 0 ∧ dKind (dAt ds t) (us g) (vs g) = 2
          · rw [if_pos c, if_pos ⟨⟨by omega, by omega⟩, (hneg t ht).mpr c.1, c.2⟩]
          · rw [if_neg c, if_neg (fun z => c ⟨(hneg t ht).mp z.2.1, z.2.2⟩), h1 t ht]
        have hnll : ∀ t, t < nc → ¬ ol t = nI L.length := fun t ht z => by
          rcases h2 t ht with w | ⟨j, hj, w⟩
          · rw [w] at z
            exact absurd (show nI L.length < 0 by rw [← z]; decide) (nI_pos (by omega))
          · rw [w] at z
            have := (nI_eq (by omega) (by omega)).mp z
            omega
        have hfl : c_flo (c_step (dAt ds) us vs lo nc L.length g).2.2 = m_flo fp fq fr dn (m_lvl ol (m_H fp fq fr up dn) nc L.length (m_RR ol (m_H fp fq fr up dn) nc (us g) (vs g), us g, vs g)) nc L.length (us g) (vs g) := by
          refine FR_end ?_
          unfold c_step
          refine al_fl (lo := lo) (fun t ht => ?_) (fun t ht => q_emp (hQ t ht)) (fun t ht hk he => ?_) nc 0 _ (0, 0) (by omega) (fun j _ => rfl) (Or.inl ⟨rfl, rfl⟩)
          · rw [hol t ht]
            by_cases c : ol t < 0 ∧ dKind (dAt ds t) (us g) (vs g) = 2
            · rw [if_pos c]
              exact ⟨fun _ => rfl, fun _ => ⟨(hneg t ht).mpr c.1, c.2⟩⟩
            · rw [if_neg c]
              exact ⟨fun z => absurd ⟨(hneg t ht).mp z.1, z.2⟩ c, fun z => absurd z (hnll t ht)⟩
          · have hk : dKind (dAt ds t) (us g) (vs g) = 2 := hk
            have kv := kd_v (hQ t ht) hu hv
            have h0 : ¬ m_has fp fq fr up t (dn t) (us g) (vs g) 0 = 0 := fun z => by
              have := kv.1.mpr z
              rw [hk] at this
              exact absurd this (by decide)
            exact q_fl (hQ t ht) hu hv he ((kv.2 h0).mp hk).2
        have hcl2 : cLM L ++ [(us g, vs g)] = cLM (L ++ [(us g, vs g, c_flo (c_step (dAt ds) us vs lo nc L.length g).2.2)]) := by
          show _ = List.map _ _
          rw [List.map_append]
          rfl
        show (∀ t, t < nc → (c_ab (dAt ds) us vs nc k (c_step (dAt ds) us vs lo nc L.length g).1 (L ++ [(us g, vs g, c_flo (c_step (dAt ds) us vs lo nc L.length g).2.2)])).1 t = (m_ab (m_H fp fq fr up dn) nc (k + 1) (m_lvl ol (m_H fp fq fr up dn) nc L.length (m_RR ol (m_H fp fq fr up dn) nc (us g) (vs g), us g, vs g)) (cLM L ++ [(us g, vs g)])).1 t) ∧ (m_ab (m_H fp fq fr up dn) nc (k + 1) (m_lvl ol (m_H fp fq fr up dn) nc L.length (m_RR ol (m_H fp fq fr up dn) nc (us g) (vs g), us g, vs g)) (cLM L ++ [(us g, vs g)])).2 = cLM (c_ab (dAt ds) us vs nc k (c_step (dAt ds) us vs lo nc L.length g).1 (L ++ [(us g, vs g, c_flo (c_step (dAt ds) us vs lo nc L.length g).2.2)])).2 ∧ flOK fp fq fr dn (m_ab (m_H fp fq fr up dn) nc (k + 1) (m_lvl ol (m_H fp fq fr up dn) nc L.length (m_RR ol (m_H fp fq fr up dn) nc (us g) (vs g), us g, vs g)) (cLM L ++ [(us g, vs g)])).1 nc (c_ab (dAt ds) us vs nc k (c_step (dAt ds) us vs lo nc L.length g).1 (L ++ [(us g, vs g, c_flo (c_step (dAt ds) us vs lo nc L.length g).2.2)])).2 ∧ gdL (m_ab (m_H fp fq fr up dn) nc (k + 1) (m_lvl ol (m_H fp fq fr up dn) nc L.length (m_RR ol (m_H fp fq fr up dn) nc (us g) (vs g), us g, vs g)) (cLM L ++ [(us g, vs g)])).1 nc 6
        rw [hcl2]
        refine ih _ _ _ (fun t ht => by rw [hlo t ht, hol t ht]) (fun t ht => ?_) ?_ (by omega) (fun j hj => ?_)
        · rw [List.length_append, List.length_singleton, hol t ht]
          by_cases c : ol t < 0 ∧ dKind (dAt ds t) (us g) (vs g) = 2
          · rw [if_pos c]; exact Or.inr ⟨L.length, by omega, rfl⟩
          · rw [if_neg c]
            rcases h2 t ht with z | ⟨j, hj, z⟩
            · exact Or.inl z
            · exact Or.inr ⟨j, by omega, z⟩
        · rw [List.length_append, List.length_singleton]; omega
        · rcases getD_app L (us g, vs g, c_flo (c_step (dAt ds) us vs lo nc L.length g).2.2) (0, 0, 0) hj with ⟨z1, z2⟩ | ⟨z1, z2⟩
          · rw [z2, h5 j z1]
            unfold m_flo
            refine congrArg Prod.snd (ff_cg (nc := nc) (fun t ht => ?_) nc 0 _ (by omega))
            rw [hol t ht]
            by_cases c : ol t < 0 ∧ dKind (dAt ds t) (us g) (vs g) = 2
            · rw [if_pos c]
              constructor
              · intro w
                rw [w] at c
                exact absurd c.1 (nI_pos (by omega))
              · intro w
                have := (nI_eq (by omega) (by omega)).mp w
                omega
            · rw [if_neg c]
          · rw [z2, z1]
            exact hfl
