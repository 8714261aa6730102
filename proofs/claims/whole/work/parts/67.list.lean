/-! the tree in the reference's arrays -/
def zkd (σ : ze_S) (pl b : Nat) : Nat := (σ.1 51 (4 * pl + b)).toNatClampNeg
def zRM (D : zD) (σ : ze_S) (mk : Nat) (P : Nat → List Nat) : Nat → (Nat → Nat) → Nat → List Nat → zTr → Prop
  | 0, w, pl, p, T => (pl < mk ∧ P pl = p ∧ σ.1 54 pl = nI (T.2 []) ∧ T.2 [] < 3 ∧ zrw σ pl D.2.1 w) ∧ (T.1 [] = none ∧ σ.1 49 pl = -1)
  | f + 1, w, pl, p, T => (pl < mk ∧ P pl = p ∧ σ.1 54 pl = nI (T.2 []) ∧ T.2 [] < 3 ∧ zrw σ pl D.2.1 w) ∧ ((T.1 [] = none ∧ σ.1 49 pl = -1) ∨
    ∃ a t, T.1 [] = some (a, t) ∧ a < D.1 ∧ zth D a t ∧ σ.1 49 pl = nI a ∧ σ.1 50 pl = t ∧
      ∀ b, b < zm_nb (D.2.2.1 a) → σ.1 51 (4 * pl + b) = nI (zkd σ pl b) ∧ pl < zkd σ pl b ∧ zRM D σ mk P f (zsd D a t w b) (zkd σ pl b) (p ++ [b]) (zsub T b))
theorem zRM_hd {D : zD} {σ : ze_S} {mk : Nat} {P : Nat → List Nat} {f : Nat} {w : Nat → Nat} {pl : Nat} {p : List Nat} {T : zTr} (h : zRM D σ mk P f w pl p T) : pl < mk ∧ P pl = p ∧ σ.1 54 pl = nI (T.2 []) ∧ T.2 [] < 3 ∧ zrw σ pl D.2.1 w := by
  cases f with
  | zero => exact h.1
  | succ f => exact h.1
theorem zRM_eq {D : zD} {σ τ : ze_S} {mk : Nat} {P R : Nat → List Nat} (hd : zdok D) : ∀ {f : Nat} {w : Nat → Nat} {pl : Nat} {p : List Nat} {T : zTr}, zRM D σ mk P f w pl p T → (∀ q, q < mk → p <+: P q → zsmr σ τ q ∧ R q = P q) → zRM D τ mk R f w pl p T
  | 0, w, pl, p, T, h, hs => by
    have h24 := hd.2.1
    obtain ⟨s, r⟩ := hs pl h.1.1 (by rw [h.1.2.1]; exact List.prefix_refl _)
    exact ⟨⟨h.1.1, by rw [r]; exact h.1.2.1, by rw [s.2.2.2.2.1]; exact h.1.2.2.1, h.1.2.2.2.1, fun i hi => by rw [s.2.2.2.2.2.2 i (by omega)]; exact h.1.2.2.2.2 i hi⟩, h.2.1, by rw [s.1]; exact h.2.2⟩
  | f + 1, w, pl, p, T, h, hs => by
    have h24 := hd.2.1
    obtain ⟨s, r⟩ := hs pl h.1.1 (by rw [h.1.2.1]; exact List.prefix_refl _)
    refine ⟨⟨h.1.1, by rw [r]; exact h.1.2.1, by rw [s.2.2.2.2.1]; exact h.1.2.2.1, h.1.2.2.2.1, fun i hi => by rw [s.2.2.2.2.2.2 i (by omega)]; exact h.1.2.2.2.2 i hi⟩, ?_⟩
    rcases h.2 with ⟨e, e2⟩ | ⟨a, t, c1, c2, c3, c4, c5, c6⟩
    · exact Or.inl ⟨e, by rw [s.1]; exact e2⟩
    · refine Or.inr ⟨a, t, c1, c2, c3, by rw [s.1]; exact c4, by rw [s.2.1]; exact c5, fun b hb => ?_⟩
      have hn := znb4 hd c2
      have e51 := s.2.2.2.2.2.1 b (by omega)
      have ek : zkd τ pl b = zkd σ pl b := by unfold zkd; rw [e51]
      obtain ⟨d1, d2, d3⟩ := c6 b hb
      rw [ek, e51]
      exact ⟨d1, d2, zRM_eq hd d3 (fun q hm hq => hs q hm ((List.prefix_append p [b]).trans hq))⟩
def zprm (D : zD) (σ : ze_S) : Nat → Nat → zTr → List Nat
  | 0, pl, _ => [pl]
  | f + 1, pl, T => pl :: (match T.1 [] with
    | none => []
    | some q => zcat (fun b => zprm D σ f (zkd σ pl b) (zsub T b)) (zm_nb (D.2.2.1 q.1)))
theorem zprm_hd (D : zD) (σ : ze_S) (f pl : Nat) (T : zTr) : ∃ l, zprm D σ f pl T = pl :: l := by
  cases f with
  | zero => exact ⟨[], rfl⟩
  | succ f => exact ⟨_, rfl⟩
theorem zprm_len {D : zD} {σ : ze_S} {mk : Nat} {P : Nat → List Nat} (hd : zdok D) : ∀ {f : Nat} {w : Nat → Nat} {pl : Nat} {p : List Nat} {T : zTr}, zRM D σ mk P f w pl p T → (zprm D σ f pl T).length ≤ zN f ∧ 1 ≤ (zprm D σ f pl T).length
  | 0, w, pl, p, T, h => ⟨Nat.le_refl _, Nat.le_refl _⟩
  | f + 1, w, pl, p, T, h => by
    show (pl :: (match T.1 [] with | none => [] | some q => zcat (fun b => zprm D σ f (zkd σ pl b) (zsub T b)) (zm_nb (D.2.2.1 q.1)))).length ≤ 1 + 4 * zN f ∧ _ ≤ (pl :: (match T.1 [] with | none => [] | some q => zcat (fun b => zprm D σ f (zkd σ pl b) (zsub T b)) (zm_nb (D.2.2.1 q.1)))).length
    rw [List.length_cons]
    refine ⟨?_, by omega⟩
    rcases h.2 with ⟨e, e2⟩ | ⟨a, t, c1, c2, c3, c4, c5, c6⟩
    · rw [e]
      show 0 + 1 ≤ _
      omega
    · rw [c1]
      show (zcat (fun b => zprm D σ f (zkd σ pl b) (zsub T b)) (zm_nb (D.2.2.1 a))).length + 1 ≤ _
      have hn := znb4 hd c2
      have := zcat_len (g := fun b => zprm D σ f (zkd σ pl b) (zsub T b)) (c := zN f) (n := zm_nb (D.2.2.1 a)) (fun b hb => (zprm_len hd (c6 b hb).2.2).1)
      have h2 : zm_nb (D.2.2.1 a) * zN f ≤ 4 * zN f := Nat.mul_le_mul_right _ hn.2
      omega
theorem zprm_eq {D : zD} {σ τ : ze_S} (h : τ.1 51 = σ.1 51) : ∀ (f pl : Nat) (T : zTr), zprm D τ f pl T = zprm D σ f pl T
  | 0, _, _ => rfl
  | f + 1, pl, T => by
    show pl :: (match T.1 [] with | none => [] | some q => zcat (fun b => zprm D τ f (zkd τ pl b) (zsub T b)) (zm_nb (D.2.2.1 q.1))) = pl :: (match T.1 [] with | none => [] | some q => zcat (fun b => zprm D σ f (zkd σ pl b) (zsub T b)) (zm_nb (D.2.2.1 q.1)))
    have ek : ∀ b, zkd τ pl b = zkd σ pl b := fun b => by unfold zkd; rw [h]
    congr 1
    cases T.1 [] with
    | none => rfl
    | some q => exact zcat_eq (fun b _ => by rw [ek b]; exact zprm_eq h f _ _)
/-- a subtree that waits to be listed -/
abbrev zWs : Type := Nat × (Nat → Nat) × Nat × List Nat × zTr
def zws (D : zD) (σ : ze_S) (mk : Nat) (P : Nat → List Nat) (s : zWs) : Prop := zRM D σ mk P s.1 s.2.1 s.2.2.1 s.2.2.2.1 s.2.2.2.2
def zcc (D : zD) (σ : ze_S) : List zWs → List Nat
  | [] => []
  | s :: S => zprm D σ s.1 s.2.2.1 s.2.2.2.2 ++ zcc D σ S
def zpd (τ : ze_S) : List zWs → Prop
  | [] => True
  | s :: S => τ.1 59 S.length = nI s.2.2.1 ∧ zpd τ S
theorem zpd_up {τ τ' : ze_S} : ∀ {S : List zWs}, zpd τ S → (∀ i, i < S.length → τ'.1 59 i = τ.1 59 i) → zpd τ' S
  | [], _, _ => trivial
  | s :: S, h, g => ⟨by rw [g S.length (by simp)]; exact h.1, zpd_up h.2 (fun i hi => g i (by simp; omega))⟩
theorem zcc_len {D : zD} {σ : ze_S} {mk : Nat} {P : Nat → List Nat} (hd : zdok D) : ∀ {S : List zWs}, (∀ s, s ∈ S → zws D σ mk P s) → S.length ≤ (zcc D σ S).length
  | [], _ => Nat.le_refl _
  | s :: S, h => by
    have h1 := zcc_len hd (S := S) (fun s hs => h s (List.mem_cons_of_mem _ hs))
    have h2 := (zprm_len hd (h s List.mem_cons_self)).2
    show S.length + 1 ≤ (zprm D σ s.1 s.2.2.1 s.2.2.2.2 ++ zcc D σ S).length
    rw [List.length_append]
    omega
/-- the last i of the kids -/
def zks (σ : ze_S) (D : zD) (f : Nat) (w : Nat → Nat) (pl a : Nat) (t : Int32) (p : List Nat) (T : zTr) (nb : Nat) : Nat → List zWs
  | 0 => []
  | i + 1 => (f, zsd D a t w (nb - (i + 1)), zkd σ pl (nb - (i + 1)), p ++ [nb - (i + 1)], zsub T (nb - (i + 1))) :: zks σ D f w pl a t p T nb i
theorem zks_len (σ : ze_S) (D : zD) (f : Nat) (w : Nat → Nat) (pl a : Nat) (t : Int32) (p : List Nat) (T : zTr) (nb : Nat) : ∀ i, (zks σ D f w pl a t p T nb i).length = i
  | 0 => rfl
  | i + 1 => by
    show (zks σ D f w pl a t p T nb i).length + 1 = i + 1
    rw [zks_len]
theorem zcc_app (D : zD) (σ : ze_S) : ∀ (S S' : List zWs), zcc D σ (S ++ S') = zcc D σ S ++ zcc D σ S'
  | [], S' => rfl
  | s :: S, S' => by
    show zprm D σ s.1 s.2.2.1 s.2.2.2.2 ++ zcc D σ (S ++ S') = zprm D σ s.1 s.2.2.1 s.2.2.2.2 ++ zcc D σ S ++ zcc D σ S'
    rw [zcc_app D σ S S', List.append_assoc]
theorem zks_cc (σ : ze_S) (D : zD) (f : Nat) (w : Nat → Nat) (pl a : Nat) (t : Int32) (p : List Nat) (T : zTr) (nb : Nat) : ∀ i, i ≤ nb → zcat (fun b => zprm D σ f (zkd σ pl b) (zsub T b)) (nb - i) ++ zcc D σ (zks σ D f w pl a t p T nb i) = zcat (fun b => zprm D σ f (zkd σ pl b) (zsub T b)) nb
  | 0, _ => by
    show _ ++ [] = _
    rw [List.append_nil, Nat.sub_zero]
  | i + 1, h => by
    have ih := zks_cc σ D f w pl a t p T nb i (by omega)
    rw [show nb - i = (nb - (i + 1)) + 1 by omega] at ih
    show zcat (fun b => zprm D σ f (zkd σ pl b) (zsub T b)) (nb - (i + 1)) ++ (zprm D σ f (zkd σ pl (nb - (i + 1))) (zsub T (nb - (i + 1))) ++ zcc D σ (zks σ D f w pl a t p T nb i)) = _
    rw [← ih]
    show _ = (zcat (fun b => zprm D σ f (zkd σ pl b) (zsub T b)) (nb - (i + 1)) ++ zprm D σ f (zkd σ pl (nb - (i + 1))) (zsub T (nb - (i + 1)))) ++ _
    rw [List.append_assoc]
theorem zks_ws {D : zD} {σ : ze_S} {mk : Nat} {P : Nat → List Nat} {f : Nat} {w : Nat → Nat} {pl a : Nat} {t : Int32} {p : List Nat} {T : zTr} {nb : Nat} (h : ∀ b, b < nb → zRM D σ mk P f (zsd D a t w b) (zkd σ pl b) (p ++ [b]) (zsub T b)) : ∀ i, i ≤ nb → ∀ s, s ∈ zks σ D f w pl a t p T nb i → zws D σ mk P s
  | 0, _, s, hs => by cases hs
  | i + 1, hi, s, hs => by
    rcases List.mem_cons.1 hs with e | e
    · subst e
      exact h (nb - (i + 1)) (by omega)
    · exact zks_ws h i (by omega) s e
def zLs (τ : ze_S) (L : List Nat) : Prop := τ.1 64 23 = nI L.length ∧ ∀ k x, L[k]? = some x → τ.1 58 k = nI x
set_option maxRecDepth 20000 in
set_option maxHeartbeats 2000000 in
theorem r_list {d : Nat} {D : zD} {σ : ze_S} {mk : Nat} {P : Nat → List Nat} {f : Nat} {w : Nat → Nat} {pl : Nat} {p : List Nat} {T : zTr} (hd : zdok D) (hB : zBn σ D) (hmk : mk ≤ 85) (hf : f ≤ 3) (hR : zRM D σ mk P f w pl p T) :
    zM (d + 2) m_M_list [.ref 64, .int (nI pl)] σ (fun v τ => v = none ∧ zy [58, 59] [23] σ τ ∧ zLs τ (zprm D σ f pl T)) := by
  have hpl := (zRM_hd hR).1
  have hlen := zprm_len hd hR
  have hN : zN f ≤ 85 := by
    have : ∀ f, f ≤ 3 → zN f ≤ 85 := by decide
    exact this f hf
  refine zM_in t_M_list [some (.ref 64), some (.int (nI pl)), none, none, none] rfl rfl ?_
  have main : ∀ N (S : List zWs) (dn : List Nat) τ o3 o4, (zcc D σ S).length ≤ N → (∀ s, s ∈ S → zws D σ mk P s) → zpd τ S → zy [58, 59] [23] σ τ → zLs τ dn → dn.length + (zcc D σ S).length ≤ 85 → dn ++ zcc D σ S = zprm D σ f pl T →
      zE (d + 1) t_M_list (fun v τ => v = none ∧ zy [58, 59] [23] σ τ ∧ zLs τ (zprm D σ f pl T)) (14, [some (.ref 64), some (.int (nI pl)), some (.int (nI S.length)), o3, o4], [], τ) := by
    intro N
    induction N with
    | zero =>
      intro S dn τ o3 o4 hN2 hS hp hy hl hb he
      cases S with
      | nil =>
        refine ze_go1 rfl ?_
        refine ze_brT rfl (by decide) ?_
        refine ze_rt1 rfl trivial ⟨rfl, hy, ?_⟩
        rw [← he]
        show zLs τ (dn ++ [])
        rw [List.append_nil]
        exact hl
      | cons s S =>
        have h1 := zcc_len hd hS
        rw [List.length_cons] at h1
        omega
    | succ N ih =>
      intro S dn τ o3 o4 hN2 hS hp hy hl hb he
      cases S with
      | nil =>
        refine ze_go1 rfl ?_
        refine ze_brT rfl (by decide) ?_
        refine ze_rt1 rfl trivial ⟨rfl, hy, ?_⟩
        rw [← he]
        show zLs τ (dn ++ [])
        rw [List.append_nil]
        exact hl
      | cons s S =>
        obtain ⟨fs, ws, ps, qs, Ts⟩ := s
        have hs : zRM D σ mk P fs ws ps qs Ts := hS _ List.mem_cons_self
        have hS' : ∀ s, s ∈ S → zws D σ mk P s := fun s h => hS s (List.mem_cons_of_mem _ h)
        have hps := (zRM_hd hs).1
        obtain ⟨l, el⟩ := zprm_hd D σ fs ps Ts
        have ecc : zcc D σ ((fs, ws, ps, qs, Ts) :: S) = zprm D σ fs ps Ts ++ zcc D σ S := rfl
        have hSl := zcc_len hd hS'
        rw [ecc, el, List.length_append, List.length_cons] at hN2 hb
        rw [ecc] at he
        have hp1 : τ.1 59 S.length = nI ps := hp.1
        rw [List.length_cons]
        refine ze_go1 rfl ?_
        refine ze_brF rfl (nI_nle (by omega) (by omega)) ?_
        iterate 2 (refine ze_go1 rfl ?_)
        refine ze_go2 rfl rfl ?_
        refine ze_go1 rfl ?_
        rw [show nI (S.length + 1) + (-1) = nI S.length by rw [show nI (S.length + 1) = nI S.length + 1 from (nI_1 _).symm, Int32.add_assoc, show (1 : Int32) + (-1) = 0 from rfl, Int32.add_zero]]
        refine ze_go2 rfl ⟨rfl, vp_in_nI (N := 96) (n := S.length) (by omega) (by omega)⟩ ?_
        rw [nI_clamp (n := S.length) (by omega), hp1]
        iterate 2 (refine ze_go1 rfl ?_)
        refine ze_go2 rfl rfl ?_
        refine ze_go1 rfl ?_
        refine ze_go2 rfl rfl ?_
        refine ze_go1 rfl ?_
        rw [hl.1]
        refine ze_go2 rfl ⟨rfl, vp_in_nI (N := 96) (n := dn.length) (by omega) (by omega)⟩ ?_
        rw [nI_clamp (n := dn.length) (by omega)]
        refine ze_go1 rfl ?_
        iterate 2 (refine ze_go2 rfl rfl ?_)
        iterate 2 (refine ze_go1 rfl ?_)
        refine ze_go2 rfl rfl ?_
        refine ze_go1 rfl ?_
        refine ze_go2 rfl rfl ?_
        refine ze_go1 rfl ?_
        rw [show (ze_ui τ 58 dn.length (nI ps)).1 64 23 = nI dn.length by rw [zui_o _ _ _ _ (by decide)]; exact hl.1, show nI dn.length + 1 = nI (dn.length + 1) from nI_1 _]
        have y2 : zy [58, 59] [23] σ (ze_ui (ze_ui τ 58 dn.length (nI ps)) 64 23 (nI (dn.length + 1))) := zy_tr hy (zy_tr (zy_ui (by simp) (by decide) _ _ _) (zy_uo (by simp) _ _))
        have l2 : zLs (ze_ui (ze_ui τ 58 dn.length (nI ps)) 64 23 (nI (dn.length + 1))) (dn ++ [ps]) := by
          refine ⟨by rw [zui, List.length_append]; rfl, fun k x hk => ?_⟩
          rw [zui_o _ _ _ _ (by decide)]
          by_cases e : k = dn.length
          · subst e
            rw [zui]
            rw [List.getElem?_append_right (Nat.le_refl _), Nat.sub_self] at hk
            have : ps = x := by simpa using hk
            rw [this]
          · rw [zui_n _ _ _ _ e]
            have hkl : k < dn.length := by
              have : k < (dn ++ [ps]).length := by
                rcases Nat.lt_or_ge k (dn ++ [ps]).length with h | h
                · exact h
                · rw [List.getElem?_eq_none h] at hk; cases hk
              rw [List.length_append, List.length_cons, List.length_nil] at this
              omega
            rw [List.getElem?_append_left hkl] at hk
            exact hl.2 k x hk
        have p2 : zpd (ze_ui (ze_ui τ 58 dn.length (nI ps)) 64 23 (nI (dn.length + 1))) S := zpd_up hp.2 (fun i _ => by rw [zui_o _ _ _ _ (by decide), zui_o _ _ _ _ (by decide)])
        generalize ze_ui (ze_ui τ 58 dn.length (nI ps)) 64 23 (nI (dn.length + 1)) = τ2 at y2 l2 p2
        have hB2 : zBn τ2 D := zBn_y hB y2 (by simp) (by simp)
        have e49 : τ2.1 49 = σ.1 49 := (y2.1 49 (by simp) (by decide)).1
        have e51 : τ2.1 51 = σ.1 51 := (y2.1 51 (by simp) (by decide)).1
        refine ze_go2 rfl ⟨rfl, vp_in_nI (N := 96) (n := ps) (by omega) (by omega)⟩ ?_
        rw [nI_clamp (n := ps) (by omega), e49]
        have ll : (dn ++ [ps]).length = dn.length + 1 := by rw [List.length_append]; rfl
        have leaf : Ts.1 [] = none → σ.1 49 ps = -1 → zprm D σ fs ps Ts = [ps] → zE (d + 1) t_M_list (fun v τ => v = none ∧ zy [58, 59] [23] σ τ ∧ zLs τ (zprm D σ f pl T)) (54, [some (.ref 64), some (.int (nI pl)), some (.int (nI S.length)), some (.int (nI ps)), o4], [.int (σ.1 49 ps)], τ2) := by
          intro _ e49' epr
          rw [e49']
          refine ze_brF rfl (by decide) ?_
          iterate 4 (refine ze_go1 rfl ?_)
          refine ze_brT rfl (by decide) ?_
          refine ze_go1 rfl ?_
          rw [el] at epr
          have ell : l = [] := by simpa using epr
          subst ell
          rw [el] at he
          refine ih S (dn ++ [ps]) τ2 _ _ (by rw [List.length_nil] at hN2; omega) hS' p2 y2 l2 (by rw [ll]; rw [List.length_nil] at hb; omega) ?_
          rw [List.append_assoc]
          exact he
        cases fs with
        | zero => exact leaf hs.2.1 hs.2.2 rfl
        | succ fs =>
          rcases hs.2 with ⟨e, e2⟩ | ⟨a, t, c1, c2, c3, c4, c5, c6⟩
          · exact leaf e e2 (by show ps :: (match Ts.1 [] with | none => [] | some q => _) = _; rw [e])
          · have hn := znb4 hd c2
            have h4 := hd.1
            have epr : l = zcat (fun b => zprm D σ fs (zkd σ ps b) (zsub Ts b)) (zm_nb (D.2.2.1 a)) := by
              have : ps :: (match Ts.1 [] with | none => [] | some q => zcat (fun b => zprm D σ fs (zkd σ ps b) (zsub Ts b)) (zm_nb (D.2.2.1 q.1))) = ps :: l := el
              rw [c1] at this
              exact (List.cons.inj this).2.symm
            rw [c4]
            refine ze_brT rfl (nI_pos' (by omega)) ?_
            iterate 2 (refine ze_go1 rfl ?_)
            refine ze_go2 rfl rfl ?_
            refine ze_go1 rfl ?_
            refine ze_go2 rfl ⟨rfl, vp_in_nI (N := 96) (n := ps) (by omega) (by omega)⟩ ?_
            rw [nI_clamp (n := ps) (by omega), e49, c4]
            refine ze_ca1 rfl ⟨rfl, rfl⟩ (ze_M_le (r_branches (d := 0) hd hB2 c2) (by omega)) (fun v ρ q => ?_)
            obtain ⟨rfl, rfl⟩ := q
            have inner : ∀ j i τ3, i + j = zm_nb (D.2.2.1 a) → zy [58, 59] [23] σ τ3 → zLs τ3 (dn ++ [ps]) → zpd τ3 (zks σ D fs ws ps a t qs Ts (zm_nb (D.2.2.1 a)) i ++ S) → zE (d + 1) t_M_list (fun v τ => v = none ∧ zy [58, 59] [23] σ τ ∧ zLs τ (zprm D σ f pl T)) (75, [some (.ref 64), some (.int (nI pl)), some (.int (nI (i + S.length))), some (.int (nI ps)), some (.int (nI j - 1))], [], τ3) := by
              intro j
              induction j with
              | zero =>
                intro i τ3 hi y3 l3 p3
                have ei : i = zm_nb (D.2.2.1 a) := by omega
                subst ei
                refine ze_go1 rfl ?_
                refine ze_brT rfl (by decide) ?_
                refine ze_go1 rfl ?_
                have hcc : zcc D σ (zks σ D fs ws ps a t qs Ts (zm_nb (D.2.2.1 a)) (zm_nb (D.2.2.1 a)) ++ S) = l ++ zcc D σ S := by
                  rw [zcc_app, epr, ← zks_cc σ D fs ws ps a t qs Ts (zm_nb (D.2.2.1 a)) (zm_nb (D.2.2.1 a)) (Nat.le_refl _), Nat.sub_self]
                  rfl
                have h := ih (zks σ D fs ws ps a t qs Ts (zm_nb (D.2.2.1 a)) (zm_nb (D.2.2.1 a)) ++ S) (dn ++ [ps]) τ3 (some (.int (nI ps))) (some (.int (nI 0 - 1))) (by rw [hcc, List.length_append]; omega) (fun s h => (List.mem_append.1 h).elim (zks_ws (fun b hb => (c6 b hb).2.2) _ (Nat.le_refl _) s) (hS' s)) p3 y3 l3 (by rw [hcc, ll, List.length_append]; omega) (by rw [hcc, List.append_assoc, ← he, el]; rfl)
                rw [List.length_append, zks_len] at h
                exact h
              | succ j ihj =>
                intro i τ3 hi y3 l3 p3
                obtain ⟨d1, d2, d3⟩ := c6 j (by omega)
                have hkl := (zRM_hd d3).1
                have e51' : τ3.1 51 = σ.1 51 := (y3.1 51 (by simp) (by decide)).1
                have ilen : i + S.length < 96 := by
                  have := hlen
                  omega
                refine ze_go1 rfl ?_
                rw [nI_pred]
                refine ze_brF rfl (nI_pos (by omega)) ?_
                refine ze_go1 rfl ?_
                refine ze_go2 rfl rfl ?_
                iterate 2 (refine ze_go1 rfl ?_)
                refine ze_go2 rfl rfl ?_
                iterate 5 (refine ze_go1 rfl ?_)
                rw [zi4']
                refine ze_go2 rfl ⟨rfl, vp_in_nI (N := 384) (n := 4 * ps + j) (by omega) (by omega)⟩ ?_
                rw [nI_clamp (n := 4 * ps + j) (by omega), e51', d1]
                refine ze_go2 rfl ⟨rfl, vp_in_nI (N := 96) (n := i + S.length) (by omega) (by omega)⟩ ?_
                rw [nI_clamp (n := i + S.length) (by omega)]
                iterate 3 (refine ze_go1 rfl ?_)
                have h := ihj (i + 1) (ze_ui τ3 59 (i + S.length) (nI (zkd σ ps j))) (by omega) (zy_tr y3 (zy_ui (by simp) (by decide) _ _ _)) ⟨by rw [zui_o _ _ _ _ (by decide)]; exact l3.1, fun k x hk => by rw [zui_o _ _ _ _ (by decide)]; exact l3.2 k x hk⟩ ⟨?_, ?_⟩
                · rw [show i + 1 + S.length = i + S.length + 1 by omega, ← show nI (i + S.length) + 1 = nI (i + S.length + 1) from nI_1 _] at h
                  rw [show nI j + (-1) = nI j - 1 from (Int32.sub_eq_add_neg _ _).symm]
                  exact h
                · show (ze_ui τ3 59 (i + S.length) (nI (zkd σ ps j))).1 59 (zks σ D fs ws ps a t qs Ts (zm_nb (D.2.2.1 a)) i ++ S).length = nI (zkd σ ps (zm_nb (D.2.2.1 a) - (i + 1)))
                  rw [List.length_append, zks_len, zui, show zm_nb (D.2.2.1 a) - (i + 1) = j by omega]
                · exact zpd_up p3 (fun i' hi' => zui_n _ _ _ _ (by have hi' : i' < (zks σ D fs ws ps a t qs Ts (zm_nb (D.2.2.1 a)) i ++ S).length := hi'; rw [List.length_append, zks_len] at hi'; omega))
            iterate 3 (refine ze_go1 rfl ?_)
            have h := inner (zm_nb (D.2.2.1 a)) 0 ρ (by omega) y2 l2 p2
            rw [Nat.zero_add] at h
            exact h
  iterate 4 (refine ze_go1 rfl ?_)
  refine ze_go2 rfl rfl ?_
  refine ze_go1 rfl ?_
  refine ze_go2 rfl rfl ?_
  iterate 2 (refine ze_go1 rfl ?_)
  refine ze_go2 rfl ⟨rfl, vp_in_nI (N := 96) (n := 0) (by omega) (by omega)⟩ ?_
  rw [sb_cl0]
  have h := main (zprm D σ f pl T).length [(f, w, pl, p, T)] [] (ze_ui (ze_ui σ 64 23 0) 59 0 (nI pl)) none none (by show (zprm D σ f pl T ++ []).length ≤ _; rw [List.append_nil]; exact Nat.le_refl _) (fun s hs => by
      have : s = (f, w, pl, p, T) := by simpa using hs
      subst this
      exact hR) ⟨zui _ _ _ _, trivial⟩ (zy_tr (zy_uo (by simp) _ _) (zy_ui (by simp) (by decide) _ _ _)) ⟨by rw [zui_o _ _ _ _ (by decide), zui]; rfl, fun k x hk => by simp at hk⟩ (by show 0 + (zprm D σ f pl T ++ []).length ≤ 85; rw [List.append_nil]; omega) (by show [] ++ (zprm D σ f pl T ++ []) = _; rw [List.append_nil]; rfl)
  exact h
