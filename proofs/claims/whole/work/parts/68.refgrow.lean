theorem zIG_RM {D : zD} {m : Nat} {σ : ze_S} {G : zGh} {mk : Nat} (hd : zdok D) (h : zIG D m σ G mk mk) : ∀ (f q : Nat), q < mk → zgF G q = f → zRM D σ mk (zgP G) f (zgW G q) q (zgP G q) (zgw D m f (zgW G q) (zgC G q) (zgT G q))
  | 0, q, hq, hF => by
    obtain ⟨s1, s2, s3, s4⟩ := h.2.2.2.2.1 q hq
    have hty := zty_lt D (zgW G q) s3
    refine ⟨⟨hq, rfl, s1, hty, s2⟩, rfl, ?_⟩
    rcases s4 with s4 | ⟨a, t, f, g1, -⟩
    · exact s4.2
    · omega
  | f + 1, q, hq, hF => by
    obtain ⟨s1, s2, s3, s4⟩ := h.2.2.2.2.1 q hq
    have hty := zty_lt D (zgW G q) s3
    have hmk := zIG_mk h
    have e : zgw D m (f + 1) (zgW G q) (zgC G q) (zgT G q) = match zgt D (zgW G q) m (zgC G q) with
      | none => zmk none (zty D (zgW G q) (zgT G q)) (fun _ => zlf)
      | some r => zmk (some r) (zty D (zgW G q) (zgT G q)) (fun b => zgw D m f (zsd D r.1 r.2 (zgW G q) b) (zcm D r.1 (zgC G q)) (zty D (zgW G q) (zgT G q))) := rfl
    rcases s4 with s4 | ⟨a, t, f', g1, g2, g3, g4, g5⟩
    · have e0 : zgt D (zgW G q) m (zgC G q) = none := s4.1.elim (fun z => by omega) id
      rw [e, e0]
      exact ⟨⟨hq, rfl, s1, hty, s2⟩, Or.inl ⟨rfl, s4.2⟩⟩
    · have ef : f' = f := by omega
      subst ef
      have hch : zchs D (zgW G q) m (zgC G q) = some (a, t) := by
        unfold zgt at g2
        split at g2
        · cases g2
        · exact g2
      obtain ⟨-, ha, hth, -⟩ := zchs_some hd hch
      rw [e, g2]
      refine ⟨⟨hq, rfl, s1, hty, s2⟩, Or.inr ⟨a, t, rfl, ha, hth, g3, g4, fun b hb => ?_⟩⟩
      obtain ⟨k, k1, k2, k3, k4⟩ := g5 b hb
      have ek : zkd σ q b = k := by unfold zkd; rw [k1, zcl (by omega)]
      rw [ek]
      refine ⟨k1, k2, ?_⟩
      have ih := zIG_RM hd h f' k k3 (congrArg (·.2.2.2.2.1) k4)
      rw [show zgW G k = _ from congrArg (·.1) k4, show zgC G k = _ from congrArg (·.2.1) k4, show zgT G k = _ from congrArg (·.2.2.1) k4, show zgP G k = _ from congrArg (·.2.2.2.2.2) k4] at ih
      rw [zsub_mk]
      exact ih
theorem zpp_k {D E : zD} (h : E.2.2.1 = D.2.2.1) : ∀ (f : Nat) (p : List Nat) (T : zTr), zpp E f p T = zpp D f p T
  | 0, _, _ => rfl
  | f + 1, p, T => by
    show p :: (match T.1 [] with | none => [] | some q => zcatp (fun b => zpp E f (p ++ [b]) (zsub T b)) (zm_nb (E.2.2.1 q.1))) = p :: (match T.1 [] with | none => [] | some q => zcatp (fun b => zpp D f (p ++ [b]) (zsub T b)) (zm_nb (D.2.2.1 q.1)))
    congr 1
    cases T.1 [] with
    | none => rfl
    | some q =>
      show zcatp (fun b => zpp E f (p ++ [b]) (zsub T b)) (zm_nb (E.2.2.1 q.1)) = zcatp (fun b => zpp D f (p ++ [b]) (zsub T b)) (zm_nb (D.2.2.1 q.1))
      rw [h]
      congr 1
      funext b
      exact zpp_k h f _ _
theorem zprm_map {D : zD} {σ : ze_S} {mk : Nat} {P : Nat → List Nat} : ∀ {f : Nat} {w : Nat → Nat} {pl : Nat} {p : List Nat} {T : zTr}, zRM D σ mk P f w pl p T → (zprm D σ f pl T).map P = zpp D f p T
  | 0, w, pl, p, T, h => by
    show [P pl] = [p]
    rw [h.1.2.1]
  | f + 1, w, pl, p, T, h => by
    show (pl :: (match T.1 [] with | none => [] | some q => zcat (fun b => zprm D σ f (zkd σ pl b) (zsub T b)) (zm_nb (D.2.2.1 q.1)))).map P = p :: (match T.1 [] with | none => [] | some q => zcatp (fun b => zpp D f (p ++ [b]) (zsub T b)) (zm_nb (D.2.2.1 q.1)))
    rw [List.map_cons, h.1.2.1]
    rcases h.2 with ⟨e, -⟩ | ⟨a, t, e, -, -, -, -, c6⟩
    · rw [e]; rfl
    · rw [e]
      show p :: (zcat (fun b => zprm D σ f (zkd σ pl b) (zsub T b)) (zm_nb (D.2.2.1 a))).map P = p :: zcatp (fun b => zpp D f (p ++ [b]) (zsub T b)) (zm_nb (D.2.2.1 a))
      rw [zcat_map (fun b hb => zprm_map (c6 b hb).2.2)]
theorem zag_RM {n : Nat} {D E : zD} (h : zag n D E) (hE : E.2.1 = D.2.1) {σ : ze_S} {mk : Nat} {P : Nat → List Nat} : ∀ {f : Nat} {w : Nat → Nat} {pl : Nat} {p : List Nat} {T : zTr}, zz n w → zRM D σ mk P f w pl p T → zRM E σ mk P f w pl p T
  | 0, w, pl, p, T, hw, hR => ⟨⟨hR.1.1, hR.1.2.1, hR.1.2.2.1, hR.1.2.2.2.1, by rw [hE]; exact hR.1.2.2.2.2⟩, hR.2⟩
  | f + 1, w, pl, p, T, hw, hR => by
    refine ⟨⟨hR.1.1, hR.1.2.1, hR.1.2.2.1, hR.1.2.2.2.1, by rw [hE]; exact hR.1.2.2.2.2⟩, ?_⟩
    rcases hR.2 with c | ⟨a, t, c1, c2, c3, c4, c5, c6⟩
    · exact Or.inl c
    · refine Or.inr ⟨a, t, c1, by rw [h.1]; exact c2, by unfold zth; rw [h.2.1]; exact c3, c4, c5, fun b hb => ?_⟩
      rw [h.2.1] at hb
      rw [zag_sd h hw]
      exact ⟨(c6 b hb).1, (c6 b hb).2.1, zag_RM h hE (zz_sd hw _ _ _) (c6 b hb).2.2⟩
/-- the reference holds a tree -/
def zTM (D : zD) (σ : ze_S) (n : Nat) (T : zTr) : Prop := σ.1 64 6 = nI n ∧ ∃ mk P, σ.1 64 7 = nI mk ∧ 1 ≤ mk ∧ mk ≤ 85 ∧ zRM (ztr D n) σ mk P 3 (zw0 n) 0 [] T
def zMR (σ : ze_S) (S : zSt) : Prop := zdok S.1 ∧ zBn σ S.1 ∧ σ.1 64 2 = nI S.1.2.1 ∧ (∀ c, c < 3 → σ.1 63 c = nI (S.2.2 c)) ∧ match S.2.1 with
  | none => σ.1 64 5 = 0
  | some q => σ.1 64 5 = 1 ∧ 1 ≤ q.1 ∧ q.1 ≤ S.1.2.1 ∧ zTM S.1 σ q.1 q.2
theorem ztr_ok {D : zD} (hd : zdok D) {n : Nat} (hn : n ≤ D.2.1) : zdok (ztr D n) := ⟨hd.1, Nat.le_trans hn hd.2.1, hd.2.2.1, fun i hi => hd.2.2.2.1 i (Nat.lt_of_lt_of_le hi hn), fun i hi => hd.2.2.2.2 i (Nat.lt_of_lt_of_le hi hn)⟩
theorem ztr_Bn {σ : ze_S} {D : zD} (h : zBn σ D) {n : Nat} (hn : n ≤ D.2.1) : zBn σ (ztr D n) := ⟨h.1, h.2.1, fun i hi => h.2.2.1 i (Nat.lt_of_lt_of_le hi hn), fun i hi => h.2.2.2 i (Nat.lt_of_lt_of_le hi hn)⟩
theorem zTM_z {D : zD} {σ τ : ze_S} {n : Nat} {T : zTr} (hd : zdok D) (hn : n ≤ D.2.1) (h : zTM D σ n T) (h6 : τ.1 64 6 = σ.1 64 6) (h7 : τ.1 64 7 = σ.1 64 7) (hs : ∀ q, q < 85 → zsmr σ τ q) : zTM D τ n T := by
  obtain ⟨g1, mk, P, g2, g3, g4, g5⟩ := h
  exact ⟨by rw [h6]; exact g1, mk, P, by rw [h7]; exact g2, g3, g4, zRM_eq (ztr_ok hd hn) g5 (fun q hq _ => ⟨hs q (by omega), rfl⟩)⟩
theorem zMR_z {σ τ : ze_S} {S : zSt} (h : zMR σ S) (hB : zBn τ S.1) (h63 : τ.1 63 = σ.1 63) (h2 : τ.1 64 2 = σ.1 64 2) (h5 : τ.1 64 5 = σ.1 64 5) (h6 : τ.1 64 6 = σ.1 64 6) (h7 : τ.1 64 7 = σ.1 64 7) (hs : ∀ q, q < 85 → zsmr σ τ q) : zMR τ S := by
  obtain ⟨g1, g2, g3, g4, g5⟩ := h
  refine ⟨g1, hB, by rw [h2]; exact g3, by rw [h63]; exact g4, ?_⟩
  cases e : S.2.1 with
  | none =>
    rw [e] at g5
    show τ.1 64 5 = 0
    rw [h5]; exact g5
  | some r =>
    rw [e] at g5
    exact ⟨by rw [h5]; exact g5.1, g5.2.1, g5.2.2.1, zTM_z g1 g5.2.2.1 g5.2.2.2 h6 h7 hs⟩
theorem zMR_y {σ τ : ze_S} {S : zSt} {l m : List Nat} (h : zMR σ S) (hy : zy l m σ τ) (hl : ∀ k, k ∈ l → 56 ≤ k ∧ k ≤ 62) (hm : ∀ k, k ∈ m → 8 ≤ k) : zMR τ S := by
  have g : ∀ j, j < 8 → τ.1 64 j = σ.1 64 j := fun j hj => hy.2 j (fun z => by have := hm j z; omega)
  exact zMR_z h (zBn_y h.2.1 hy (fun k hk => by have := hl k hk; omega) (fun z => by have := hm 0 z; omega)) (hy.1 63 (fun z => by have := hl 63 z; omega) (by decide)).1 (g 2 (by decide)) (g 5 (by decide)) (g 6 (by decide)) (g 7 (by decide)) (fun q _ => zsmr_y hy (fun k hk => by have := hl k hk; omega) q)
theorem zy46 {l m : List Nat} {σ τ : ze_S} (h : zy l m σ τ) (hl : ∀ k, k ∈ l → 46 ≤ k) : zxp (fun k => 46 ≤ k) σ τ := fun k hk => h.1 k (fun z => hk (hl k z)) (fun z => hk (by omega))
def zOm (σ : ze_S) (r : Int32) (S : zSt) : ze_P := fun v τ => v = some (.int r) ∧ zMR τ S ∧ zxp (fun k => 46 ≤ k) σ τ
def zOmL (σ : ze_S) (r : Int64) (S : zSt) : ze_P := fun v τ => v = some (.long r) ∧ zMR τ S ∧ zxp (fun k => 46 ≤ k) σ τ
theorem r_nodes {d : Nat} {σ : ze_S} {S : zSt} (h : zMR σ S) : zM (d + 3) m_M_nodes [.ref 64] σ (fun v τ => v = some (.int (zn_nodes S)) ∧ zy [58, 59] [23] σ τ ∧ ∀ q, S.2.1 = some q → zLs τ (zprm (ztr S.1 q.1) σ 3 0 q.2)) := by
  refine zM_in t_M_nodes [some (.ref 64)] rfl rfl ?_
  obtain ⟨hd, hB, g3, g4, g5⟩ := h
  refine ze_go1 rfl ?_
  refine ze_go2 rfl rfl ?_
  unfold zn_nodes
  cases e : S.2.1 with
  | none =>
    rw [e] at g5
    rw [show σ.1 64 5 = 0 from g5]
    refine ze_brF rfl (by decide) ?_
    refine ze_go1 rfl ?_
    exact ze_rt1 rfl trivial ⟨rfl, zy_rf _ _ _, fun q hq => by cases hq⟩
  | some r =>
    rw [e] at g5
    obtain ⟨g5, g6, g7, g8, mk, P, g9, g10, g11, hR⟩ := g5
    rw [g5]
    refine ze_brT rfl (by decide) ?_
    iterate 2 (refine ze_go1 rfl ?_)
    refine ze_ca1 rfl ⟨rfl, rfl⟩ (ze_M_le (r_list (d := 0) (pl := 0) (ztr_ok hd g7) (ztr_Bn hB g7) g11 (Nat.le_refl _) hR) (by omega)) (fun v τ q => ?_)
    obtain ⟨rfl, y1, l1⟩ := q
    refine ze_go1 rfl ?_
    refine ze_go2 rfl rfl ?_
    rw [l1.1]
    refine ze_rt1 rfl trivial ⟨?_, y1, fun q hq => by cases hq; exact l1⟩
    have := congrArg List.length (zprm_map hR)
    rw [List.length_map] at this
    rw [this, zpp_k (D := S.1) (E := ztr S.1 r.1) rfl]
set_option maxRecDepth 20000 in
set_option maxHeartbeats 2000000 in
theorem r_grow {d : Nat} {σ : ze_S} {S : zSt} {x : Int32} (h : zMR σ S) : zM (d + 10) m_M_grow [.ref 64, .int x] σ (zOm σ (zn_grow S x).1 (zn_grow S x).2) := by
  have hM := h
  obtain ⟨hd, hB, g3, g4, g5⟩ := h
  have h24 := hd.2.1
  refine zM_in t_M_grow [some (.ref 64), some (.int x), none] rfl rfl ?_
  have bad : (x < 1 ∨ 5 < x) → zE (d + 9) t_M_grow (zOm σ (zn_grow S x).1 (zn_grow S x).2) (10, [some (.ref 64), some (.int x), none], [], σ) := by
    intro hb
    refine ze_go1 rfl ?_
    unfold zn_grow
    rw [if_pos hb]
    exact ze_rt1 rfl trivial ⟨rfl, hM, zxp_rf _ _⟩
  iterate 2 (refine ze_go1 rfl ?_)
  refine ze_br1 rfl (fun c => bad (Or.inl c)) (fun c => ?_)
  iterate 2 (refine ze_go1 rfl ?_)
  by_cases c2 : 5 < x
  · refine ze_brF rfl (fun q => Int32.not_lt.2 q c2) ?_
    exact bad (Or.inr c2)
  · refine ze_brT rfl (Int32.not_lt.1 c2) ?_
    have hx : ¬ (x < 1 ∨ 5 < x) := fun q => q.elim c c2
    refine ze_go1 rfl ?_
    refine ze_go2 rfl rfl ?_
    rw [g3]
    unfold zn_grow
    rw [if_neg hx]
    by_cases hc : S.1.2.1 = 0
    · refine ze_brF rfl (by rw [hc]; decide) ?_
      refine ze_go1 rfl ?_
      rw [if_pos hc]
      exact ze_rt1 rfl trivial ⟨rfl, hM, zxp_rf _ _⟩
    · refine ze_brT rfl (nI_ne0 (by omega) (by omega)) ?_
      obtain ⟨m, em, hm⟩ := zn_le (n := 5) (by decide) (zn_n0 c) c2
      have hm1 : 1 ≤ m := by
        subst em
        exact Nat.le_of_not_lt (fun q => c (nI_lt q (by decide)))
      rw [if_neg hc, em, zcl (show m < 2 ^ 31 by omega)]
      iterate 2 (refine ze_go1 rfl ?_)
      refine ze_go2 rfl ⟨rfl, by first | exact Or.inl rfl | exact Or.inr rfl⟩ ?_
      iterate 2 (refine ze_go1 rfl ?_)
      iterate 2 (refine ze_go2 rfl rfl ?_)
      iterate 2 (refine ze_go1 rfl ?_)
      refine ze_go2 rfl rfl ?_
      refine ze_go1 rfl ?_
      refine ze_go2 rfl rfl ?_
      iterate 2 (refine ze_go1 rfl ?_)
      rw [zui_n _ _ _ _ (by decide), g3]
      refine ze_go2 rfl ⟨rfl, vp_in_nI (N := 96) (n := 0) (by omega) (by omega)⟩ ?_
      refine ze_go1 rfl ?_
      refine ze_go2 rfl rfl ?_
      iterate 2 (refine ze_go1 rfl ?_)
      refine ze_go2 rfl ⟨rfl, vp_in_nI (N := 96) (n := 0) (by omega) (by omega)⟩ ?_
      rw [sb_cl0]
      have y1 : zy [52, 53] [5, 6, 7] σ (ze_ui (ze_ui (ze_ui (ze_ui (ze_ui σ 64 5 1) 64 6 (nI S.1.2.1)) 64 7 1) 52 0 0) 53 0 0) := zy_tr (zy_tr (zy_tr (zy_tr (zy_uo (by simp) _ _) (zy_uo (by simp) _ _)) (zy_uo (by simp) _ _)) (zy_ui (by simp) (by decide) _ _ _)) (zy_ui (by simp) (by decide) _ _ _)
      have a5 : (ze_ui (ze_ui (ze_ui (ze_ui (ze_ui σ 64 5 1) 64 6 (nI S.1.2.1)) 64 7 1) 52 0 0) 53 0 0).1 64 5 = 1 := rfl
      have a6 : (ze_ui (ze_ui (ze_ui (ze_ui (ze_ui σ 64 5 1) 64 6 (nI S.1.2.1)) 64 7 1) 52 0 0) 53 0 0).1 64 6 = nI S.1.2.1 := rfl
      have a7 : (ze_ui (ze_ui (ze_ui (ze_ui (ze_ui σ 64 5 1) 64 6 (nI S.1.2.1)) 64 7 1) 52 0 0) 53 0 0).1 64 7 = nI 1 := rfl
      have a53 : (ze_ui (ze_ui (ze_ui (ze_ui (ze_ui σ 64 5 1) 64 6 (nI S.1.2.1)) 64 7 1) 52 0 0) 53 0 0).1 53 0 = nI 0 := rfl
      generalize ze_ui (ze_ui (ze_ui (ze_ui (ze_ui σ 64 5 1) 64 6 (nI S.1.2.1)) 64 7 1) 52 0 0) 53 0 0 = τ1 at y1 a5 a6 a7 a53
      have fin : ∀ τ, zy [49, 50, 51, 52, 53, 54, 55, 56, 57] [5, 6, 7, 17, 18, 21, 22] σ τ → τ.1 64 5 = 1 → zTM S.1 τ S.1.2.1 (zgw S.1 m 3 (zw0 S.1.2.1) 0 0) → zMR τ (S.1, some (S.1.2.1, zgw S.1 m 3 (zw0 S.1.2.1) 0 0), S.2.2) := by
        intro τ hy e5 hT
        exact ⟨hd, zBn_y hB hy (by simp) (by simp), by rw [hy.2 2 (by simp)]; exact g3, by rw [(hy.1 63 (by simp) (by decide)).1]; exact g4, e5, by show 1 ≤ S.1.2.1; omega, Nat.le_refl _, hT⟩
      have loop2 : ∀ N n mk G τ, 85 - n ≤ N → zIG S.1 m τ G n mk → G 0 = (zw0 S.1.2.1, 0, 0, [], 3, []) → 1 ≤ mk → zy [49, 50, 51, 52, 53, 54, 55, 56, 57] [5, 6, 7, 17, 18, 21, 22] σ τ → τ.1 64 5 = 1 →
          zE (d + 9) t_M_grow (zOm σ (nI (zpp S.1 3 [] (zgw S.1 m 3 (zw0 S.1.2.1) 0 0)).length) (S.1, some (S.1.2.1, zgw S.1 m 3 (zw0 S.1.2.1) 0 0), S.2.2)) (79, [some (.ref 64), some (.int (nI m)), some (.int (nI n))], [], τ) := by
        intro N
        have last : ∀ mk G τ, zIG S.1 m τ G mk mk → G 0 = (zw0 S.1.2.1, 0, 0, [], 3, []) → 1 ≤ mk → zy [49, 50, 51, 52, 53, 54, 55, 56, 57] [5, 6, 7, 17, 18, 21, 22] σ τ → τ.1 64 5 = 1 →
            zE (d + 9) t_M_grow (zOm σ (nI (zpp S.1 3 [] (zgw S.1 m 3 (zw0 S.1.2.1) 0 0)).length) (S.1, some (S.1.2.1, zgw S.1 m 3 (zw0 S.1.2.1) 0 0), S.2.2)) (79, [some (.ref 64), some (.int (nI m)), some (.int (nI mk))], [], τ) := by
          intro mk G τ hI hG h1 hy e5
          have hmk := zIG_mk hI
          iterate 2 (refine ze_go1 rfl ?_)
          refine ze_go2 rfl rfl ?_
          rw [hI.2.2.1]
          refine ze_brT rfl (Int32.le_refl _) ?_
          have hR := zIG_RM hd hI 3 0 (by omega) (by show (G 0).2.2.2.2.1 = 3; rw [hG])
          rw [show zgW G 0 = zw0 S.1.2.1 from congrArg (·.1) hG, show zgC G 0 = 0 from congrArg (·.2.1) hG, show zgT G 0 = 0 from congrArg (·.2.2.1) hG, show zgP G 0 = [] from congrArg (·.2.2.2.2.2) hG] at hR
          have hMR := fin τ hy e5 ⟨hI.2.1, mk, zgP G, hI.2.2.1, h1, hmk, hR⟩
          refine ze_go1 rfl ?_
          refine ze_ca1 rfl ⟨rfl, rfl⟩ (ze_M_le (r_nodes (d := 0) hMR) (by omega)) (fun v τ2 q => ?_)
          obtain ⟨rfl, y2, -⟩ := q
          exact ze_rt1 rfl trivial ⟨rfl, zMR_y hMR y2 (by simp) (by simp), zxp_tr (zy46 hy (by simp)) (zy46 y2 (by simp))⟩
        induction N with
        | zero =>
          intro n mk G τ hN hI hG h1 hy e5
          have hmk := zIG_mk hI
          have := hI.2.2.2.1
          have en : n = mk := by omega
          subst en
          exact last n G τ hI hG h1 hy e5
        | succ N ih =>
          intro n mk G τ hN hI hG h1 hy e5
          have hmk := zIG_mk hI
          have hle := hI.2.2.2.1
          by_cases en : n = mk
          · subst en
            exact last n G τ hI hG h1 hy e5
          · iterate 2 (refine ze_go1 rfl ?_)
            refine ze_go2 rfl rfl ?_
            rw [hI.2.2.1]
            refine ze_brF rfl (nI_ge (by omega) (by omega)) ?_
            iterate 3 (refine ze_go1 rfl ?_)
            refine ze_ca1 rfl ⟨rfl, rfl⟩ (ze_M_le (r_settle (d := 0) hd hm1 hm hI (by omega)) (by omega)) (fun v τ2 q => ?_)
            obtain ⟨rfl, y2, G', mk', hI', hG', hmm⟩ := q
            iterate 2 (refine ze_go1 rfl ?_)
            have h := ih (n + 1) mk' G' τ2 (by omega) hI' (by rw [hG' 0 (by omega)]; exact hG) (by omega) (zy_tr hy (zy_wk y2 (by unfold zgl'; simp) (by unfold zgm'; simp))) (by rw [y2.2 5 (by unfold zgm'; simp)]; exact e5)
            rw [← show nI n + 1 = nI (n + 1) from nI_1 _] at h
            exact h
      have loop1 : ∀ n j τ, j + n = 24 → zy [52, 53, 55] [5, 6, 7] σ τ → (∀ i, i < j → τ.1 55 i = nI 720) → τ.1 64 5 = 1 → τ.1 64 6 = nI S.1.2.1 → τ.1 64 7 = nI 1 → τ.1 53 0 = nI 0 → zE (d + 9) t_M_grow (zOm σ (nI (zpp S.1 3 [] (zgw S.1 m 3 (zw0 S.1.2.1) 0 0)).length) (S.1, some (S.1.2.1, zgw S.1 m 3 (zw0 S.1.2.1) 0 0), S.2.2)) (56, [some (.ref 64), some (.int (nI m)), some (.int (nI j))], [], τ) := by
        intro n
        induction n with
        | zero =>
          intro j τ hj hy hw e5 e6 e7 e53
          have ej : j = 24 := by omega
          subst ej
          iterate 2 (refine ze_go1 rfl ?_)
          refine ze_brT rfl (by decide) ?_
          iterate 2 (refine ze_go1 rfl ?_)
          refine loop2 85 0 1 (fun _ => (zw0 S.1.2.1, 0, 0, [], 3, [])) τ (by omega) ⟨zBn_y hB hy (by simp) (by simp), e6, e7, by omega, fun q hq => by omega, fun q hq hq2 => ?_, (by decide : 0 + zm_s (fun _ => zN 3) 1 ≤ 85)⟩ rfl (Nat.le_refl _) (zy_wk hy (by simp) (by simp)) e5
          have eq0 : q = 0 := by omega
          subst eq0
          refine ⟨fun i hi => ?_, fun i _ => zw0_le _ i, Nat.le_refl _, e53, rfl, rfl, fun a _ => ⟨fun z => ?_, fun z => ?_⟩, by show 0 < 3; omega, fun _ => ?_, fun z => by omega⟩
          · rw [Nat.mul_zero, Nat.zero_add, hw i (by omega)]
            show nI 720 = nI (if i < S.1.2.1 then 720 else 0)
            rw [if_pos hi]
          · have z : (0 : Nat).testBit a = true := z
            rw [Nat.zero_testBit] at z
            cases z
          · have := z.1
            cases this
          · show 0 < zm_s (zcw S.1 (zw0 S.1.2.1)) 3
            rw [zcw_sum hd, zm_s_eq (f := zw0 S.1.2.1) (g := fun _ => 720) (fun i hi => if_pos hi), zm_s_c]
            omega
        | succ n ih =>
          intro j τ hj hy hw e5 e6 e7 e53
          iterate 2 (refine ze_go1 rfl ?_)
          refine ze_brF rfl (nI_ge (b := 24) (by omega) (by omega)) ?_
          refine ze_go1 rfl ?_
          refine ze_go2 rfl rfl ?_
          iterate 2 (refine ze_go1 rfl ?_)
          refine ze_go2 rfl ⟨rfl, vp_in_nI (N := 4632) (n := j) (by omega) (by omega)⟩ ?_
          rw [nI_clamp (n := j) (by omega)]
          iterate 2 (refine ze_go1 rfl ?_)
          have h := ih (j + 1) (ze_ui τ 55 j 720) (by omega) (zy_tr hy (zy_ui (by simp) (by decide) _ _ _)) (fun i hi => by
            by_cases e : i = j
            · subst e; rw [zui]; rfl
            · rw [zui_n _ _ _ _ e]; exact hw i (by omega)) (by rw [zui_o _ _ _ _ (by decide)]; exact e5) (by rw [zui_o _ _ _ _ (by decide)]; exact e6) (by rw [zui_o _ _ _ _ (by decide)]; exact e7) (by rw [zui_o _ _ _ _ (by decide)]; exact e53)
          rw [← show nI j + 1 = nI (j + 1) from nI_1 _] at h
          exact h
      iterate 2 (refine ze_go1 rfl ?_)
      exact loop1 24 0 τ1 rfl (zy_wk y1 (by simp) (by simp)) (fun i hi => by omega) a5 a6 a7 a53
