def zw0 (n : Nat) : Nat → Nat := fun i => if i < n then 720 else 0
theorem zw0_le (n i : Nat) : zw0 n i ≤ 720 := by
  unfold zw0
  split <;> omega
theorem zrt_id {D : zD} {σ : ze_S} {P : Nat → List Nat} : ∀ {f : Nat} {w : Nat → Nat} {pl : Nat} {p : List Nat} {T : zTr}, zRC D σ P f w pl p T → zrt D f w T = T
  | 0, w, pl, p, T, h => by
    rw [zrt_none h.2.1]
    have e := zmk_eta T
    rw [h.2.1, h.1.2.2.2.2.2] at e
    exact e
  | f + 1, w, pl, p, T, h => by
    rcases h.2 with ⟨e, -⟩ | ⟨a, t, e, ha, -, -, -, -, -, c8⟩
    · rw [zrt_none e]
      have e2 := zmk_eta T
      rw [e, h.1.2.2.2.2.2] at e2
      exact e2
    · have e1 : zrt D (f + 1) w T = zmk (some (a, t)) (zty D w (T.2 [])) (fun b => if b < zm_nb (D.2.2.1 a) then zrt D f (zsd D a t w b) (zsub T b) else zsub T b) := by
        show (match T.1 [] with | none => _ | some q => _) = _
        rw [e]
      have e2 := zmk_eta T
      rw [e, h.1.2.2.2.2.2] at e2
      rw [e1]
      have e3 : (fun b => if b < zm_nb (D.2.2.1 a) then zrt D f (zsd D a t w b) (zsub T b) else zsub T b) = zsub T := by
        funext b
        by_cases hb : b < zm_nb (D.2.2.1 a)
        · rw [if_pos hb]; exact zrt_id (c8 b hb).2
        · rw [if_neg hb]
      rw [e3]
      exact e2
theorem e_numberNodes {d : Nat} {D : zD} {σ : ze_S} {P : Nat → List Nat} {w : Nat → Nat} {T : zTr} (hd : zdok D) (hR : zRC D σ P 3 w 0 [] T) :
    zM (d + 6) m_Tr_numberNodes [.ref 29] σ (fun v τ => v = none ∧ zx [22, 23, 29] σ τ ∧ τ.1 29 9 = σ.1 29 9 ∧ τ.1 29 11 = σ.1 29 11 ∧ τ.1 29 10 = nI (zpre D σ 3 0 T).length ∧ zNb τ 0 (zpre D σ 3 0 T)) := by
  refine zM_in t_Tr_numberNodes [some (.ref 29)] rfl rfl ?_
  iterate 2 (refine ze_go1 rfl ?_)
  refine ze_go2 rfl rfl ?_
  iterate 3 (refine ze_go1 rfl ?_)
  have x0 : zx [29] σ (ze_ui σ 29 10 0) := zx_ui (by simp) _ _ _
  have e0 : (ze_ui σ 29 10 0).1 29 10 = nI 0 := zui _ _ _ _
  refine ze_ca1 rfl ⟨rfl, rfl⟩ (ze_M_le (e_number hd 3 0 rfl (ze_ui σ 29 10 0) P w 0 [] T 0 (zRC_x hd hR x0 (by simp)) e0 (by decide)) (by omega)) (fun v τ h => ?_)
  obtain ⟨rfl, y1, y2, y3, y4, y5, -, -⟩ := h
  rw [zpre_eq (x0 21 (by simp)).1, Nat.zero_add] at y4
  rw [zpre_eq (x0 21 (by simp)).1] at y5
  refine ze_rt1 rfl trivial ⟨rfl, zx_tr (zx_wk x0 (by simp)) y1, ?_, ?_, y4, y5⟩
  · rw [y2, zui_n _ _ _ _ (by decide)]
  · rw [y3, zui_n _ _ _ _ (by decide)]
/-- the class holds a tree with its numbers -/
def zTC (D : zD) (σ : ze_S) (n : Nat) (T : zTr) : Prop := σ.1 29 11 = nI n ∧ (∃ P, zRC D σ P 3 (zw0 n) 0 [] T) ∧ σ.1 29 10 = nI (zpre D σ 3 0 T).length ∧ zNb σ 0 (zpre D σ 3 0 T)
def zVS (k : Nat) : Prop := (3 ≤ k ∧ k ≤ 24) ∨ k = 29 ∨ k = 32 ∨ k = 33 ∨ (35 ≤ k ∧ k < 43)
set_option maxRecDepth 20000 in
set_option maxHeartbeats 1000000 in
theorem e_plant {d : Nat} {D : zD} {σ : ze_S} {m : Nat} (hd : zdok D) (hB : zB σ D) (hm1 : 1 ≤ m) (hm5 : m ≤ 5) :
    zM (d + 9) m_Gr_plant [.ref 32, .int (nI m)] σ (fun v τ => v = none ∧ zxp zVS σ τ ∧ zTC D τ D.2.1 (zgw D m 3 (zw0 D.2.1) 0 0)) := by
  have h24 := hd.2.1
  refine zM_in t_Gr_plant [some (.ref 32), some (.int (nI m))] rfl rfl ?_
  iterate 2 (refine ze_go1 rfl ?_)
  refine ze_go2 rfl rfl ?_
  refine ze_go1 rfl ?_
  refine ze_go2 rfl rfl ?_
  refine ze_go1 rfl ?_
  refine ze_go2 rfl rfl ?_
  refine ze_go1 rfl ?_
  refine ze_go2 rfl rfl ?_
  refine ze_go1 rfl ?_
  iterate 3 (refine ze_go2 rfl rfl ?_)
  refine ze_go1 rfl ?_
  refine ze_go2 rfl rfl ?_
  refine ze_go1 rfl ?_
  iterate 2 (refine ze_go2 rfl rfl ?_)
  have x0 : zx [29, 32] σ (ze_ui (ze_ui (ze_ui σ 32 4 (nI m)) 29 9 0) 29 11 ((ze_ui (ze_ui σ 32 4 (nI m)) 29 9 0).1 28 4)) := zx_tr (zx_tr (zx_ui (by simp) _ _ _) (zx_ui (by simp) _ _ _)) (zx_ui (by simp) _ _ _)
  have e28 : (ze_ui (ze_ui (ze_ui σ 32 4 (nI m)) 29 9 0) 29 11 ((ze_ui (ze_ui σ 32 4 (nI m)) 29 9 0).1 28 4)).1 28 4 = nI D.2.1 := by rw [(x0 28 (by simp)).1]; exact hB.2.1
  have a9 : (ze_ui (ze_ui (ze_ui σ 32 4 (nI m)) 29 9 0) 29 11 ((ze_ui (ze_ui σ 32 4 (nI m)) 29 9 0).1 28 4)).1 29 9 = nI 0 := by rw [zui_n _ _ _ _ (by decide), zui]; rfl
  have a11 : (ze_ui (ze_ui (ze_ui σ 32 4 (nI m)) 29 9 0) 29 11 ((ze_ui (ze_ui σ 32 4 (nI m)) 29 9 0).1 28 4)).1 29 11 = nI D.2.1 := by rw [zui, zui_o _ _ _ _ (by decide), zui_o _ _ _ _ (by decide)]; exact hB.2.1
  have a32 : (ze_ui (ze_ui (ze_ui σ 32 4 (nI m)) 29 9 0) 29 11 ((ze_ui (ze_ui σ 32 4 (nI m)) 29 9 0).1 28 4)).1 32 4 = nI m := by rw [zui_o _ _ _ _ (by decide), zui_o _ _ _ _ (by decide), zui]
  rw [e28]
  generalize ze_ui (ze_ui (ze_ui σ 32 4 (nI m)) 29 9 0) 29 11 ((ze_ui (ze_ui σ 32 4 (nI m)) 29 9 0).1 28 4) = τ0 at x0 e28 a9 a11 a32
  refine ze_ca1 rfl ⟨rfl, rfl⟩ (ze_M_le (e_start (d := 0) h24) (by omega)) (fun v τ1 h => ?_)
  obtain ⟨rfl, x1, f1⟩ := h
  iterate 2 (refine ze_go1 rfl ?_)
  refine ze_go2 rfl rfl ?_
  refine ze_go1 rfl ?_
  refine ze_ca1 rfl ⟨rfl, rfl⟩ (ze_M_le (e_makeNode (d := 0) (pl := 0) (x := 0) (by decide) (by rw [(x1 29 (by simp)).1]; exact a9)) (by omega)) (fun v τ2 h => ?_)
  obtain ⟨rfl, hτ2⟩ := h
  have x2 : zx [15, 16, 17, 18, 29] τ1 τ2 := by
    rw [hτ2]
    exact zx_tr (zx_tr (zx_tr (zx_tr (zx_ui (by simp) _ _ _) (zx_ui (by simp) _ _ _)) (zx_ui (by simp) _ _ _)) (zx_ui (by simp) _ _ _)) (zx_ui (by simp) _ _ _)
  have b15 : τ2.1 15 0 = -1 := by rw [hτ2, zui_o _ _ _ _ (by decide), zui_o _ _ _ _ (by decide), zui]
  have b16 : τ2.1 16 0 = -1 := by rw [hτ2, zui_o _ _ _ _ (by decide), zui]
  have b17 : τ2.1 17 0 = 0 := by rw [hτ2, zui]
  have b18 : τ2.1 18 0 = nI 0 := by rw [hτ2, zui_o _ _ _ _ (by decide), zui_o _ _ _ _ (by decide), zui_o _ _ _ _ (by decide), zui]; rfl
  have b9 : τ2.1 29 9 = nI 1 := by rw [hτ2, zui_o _ _ _ _ (by decide), zui_o _ _ _ _ (by decide), zui_o _ _ _ _ (by decide), zui_o _ _ _ _ (by decide), zui]
  have b11 : τ2.1 29 11 = nI D.2.1 := by rw [hτ2, zui_o _ _ _ _ (by decide), zui_o _ _ _ _ (by decide), zui_o _ _ _ _ (by decide), zui_o _ _ _ _ (by decide), zui_n _ _ _ _ (by decide), (x1 29 (by simp)).1]; exact a11
  clear hτ2
  have x02 : zx [10, 15, 16, 17, 18, 29, 32] σ τ2 := zx_tr (zx_tr (zx_wk x0 (by simp)) (zx_wk x1 (by simp))) (zx_wk x2 (by simp))
  have hB2 : zB τ2 D := zB_x hB x02 (by decide)
  iterate 2 (refine ze_go1 rfl ?_)
  refine ze_ca1 rfl ⟨rfl, rfl⟩ (ze_M_le (e_growFrom hd hm1 hm5 3 0 rfl τ2 0 [] (zw0 D.2.1) 0 0 1 (fun q => if q = 0 then [] else [99]) hB2 (by rw [(x2 32 (by simp)).1, (x1 32 (by simp)).1]; exact a32) (fun i hi => by rw [(x2 10 (by simp)).1]; exact f1 i (by omega)) (fun i _ => zw0_le _ i) (by decide) (by decide) b9 (if_pos rfl) (fun q hq => if_neg (by omega)) (fun b hb => by cases hb) b18 (by decide) b15 b16 b17 (by decide)) (by omega)) (fun v τ3 h => ?_)
  obtain ⟨rfl, y1, y2, y3, mk', R, -, -, -, -, -, -, -, y4⟩ := h
  refine ze_go1 rfl ?_
  refine ze_go2 rfl rfl ?_
  refine ze_ca1 rfl ⟨rfl, rfl⟩ (ze_M_le (e_numberNodes (d := 0) hd y4) (by omega)) (fun v τ4 h => ?_)
  obtain ⟨rfl, z1, z2, z3, z4, z5⟩ := h
  refine ze_rt1 rfl trivial ⟨rfl, zxp_tr (zxp_of x02 (fun k hk => by simp at hk; unfold zVS; omega)) (zxp_tr (zxp_wk y1 (fun k hk => by unfold zGS at hk; unfold zVS; omega)) (zxp_of z1 (fun k hk => by simp at hk; unfold zVS; omega))), ?_, ⟨R, zRC_x hd y4 z1 (by simp)⟩, ?_, ?_⟩
  · rw [z3, y3]; exact b11
  · rw [zpre_eq (z1 21 (by simp)).1]; exact z4
  · rw [zpre_eq (z1 21 (by simp)).1]; exact z5
set_option maxRecDepth 20000 in
set_option maxHeartbeats 1000000 in
theorem e_pruneAll {d : Nat} {D : zD} {σ : ze_S} {n ch : Nat} {T : zTr} (hd : zdok D) (hB : zB σ D) (hn : n ≤ D.2.1) (hT : zTC D σ n T) (hc : ch ≤ 2000) :
    zM (d + 10) m_Pr_pruneAll [.ref 33, .int (nI ch)] σ (fun v τ => v = none ∧ zxp zVS σ τ ∧ zTC D τ n (zpn D ch 3 (zw0 n) T)) := by
  have h24 := hd.2.1
  obtain ⟨t11, ⟨P, hR⟩, -, -⟩ := hT
  refine zM_in t_Pr_pruneAll [some (.ref 33), some (.int (nI ch))] rfl rfl ?_
  iterate 2 (refine ze_go1 rfl ?_)
  refine ze_go2 rfl rfl ?_
  refine ze_go1 rfl ?_
  refine ze_go2 rfl rfl ?_
  refine ze_go1 rfl ?_
  iterate 2 (refine ze_go2 rfl rfl ?_)
  have x0 : zx [33] σ (ze_ui σ 33 2 (nI ch)) := zx_ui (by simp) _ _ _
  have c0 : (ze_ui σ 33 2 (nI ch)).1 33 2 = nI ch := zui _ _ _ _
  generalize ze_ui σ 33 2 (nI ch) = τ0 at x0 c0
  rw [(x0 29 (by simp)).1, t11]
  refine ze_ca1 rfl ⟨rfl, rfl⟩ (ze_M_le (e_start (d := 0) (n := n) (by omega)) (by omega)) (fun v τ1 h => ?_)
  obtain ⟨rfl, x1, f1⟩ := h
  have x01 : zx [10, 33] σ τ1 := zx_tr (zx_wk x0 (by simp)) (zx_wk x1 (by simp))
  have hB1 : zB τ1 D := zB_x hB x01 (by decide)
  have hR1 : zRC D τ1 P 3 (zw0 n) 0 [] T := zRC_x hd hR x01 (by simp)
  have hw1 : zrow τ1 0 D.2.1 (zw0 n) := fun i hi => f1 i (by omega)
  have c1 : τ1.1 33 2 = nI ch := by rw [(x1 33 (by simp)).1]; exact c0
  iterate 4 (refine ze_go1 rfl ?_)
  refine ze_ca1 rfl ⟨rfl, rfl⟩ (ze_M_le (e_send (kp := true) (ch := ch) hd hc 3 0 (by decide) τ1 P (zw0 n) 0 [] T hB1 hw1 (fun i _ => zw0_le n i) (zRC_S hR1) c1) (by omega)) (fun v τ2 h => ?_)
  obtain ⟨rfl, y1, -, y3⟩ := h
  have y3 := y3 rfl
  rw [zrt_id hR1] at y3
  obtain ⟨hB2, hw2, e33, e29, -⟩ := zSS_keep (by decide) y1 hB1 hw1
  refine ze_go2 rfl rfl ?_
  iterate 3 (refine ze_go1 rfl ?_)
  refine ze_ca1 rfl ⟨rfl, rfl⟩ (ze_M_le (e_prune (ch := ch) hd hc 3 0 (by decide) τ2 P (zw0 n) 0 [] T hB2 hw2 (fun i _ => zw0_le n i) y3 (by rw [e33]; exact c1)) (by omega)) (fun v τ3 h => ?_)
  obtain ⟨rfl, z1, R, -, -, z4⟩ := h
  refine ze_go2 rfl rfl ?_
  refine ze_go1 rfl ?_
  refine ze_go2 rfl rfl ?_
  refine ze_ca1 rfl ⟨rfl, rfl⟩ (ze_M_le (e_numberNodes (d := 0) hd z4) (by omega)) (fun v τ4 h => ?_)
  obtain ⟨rfl, u1, u2, u3, u4, u5⟩ := h
  refine ze_rt1 rfl trivial ⟨rfl, zxp_tr (zxp_of x01 (fun k hk => by simp at hk; unfold zVS; omega)) (zxp_tr (zxp_wk y1 (fun k hk => by unfold zSS at hk; unfold zVS; omega)) (zxp_tr (zxp_wk z1 (fun k hk => by unfold zPS at hk; unfold zVS; omega)) (zxp_of u1 (fun k hk => by simp at hk; unfold zVS; omega)))), ?_, ⟨R, zRC_x hd z4 u1 (by simp)⟩, ?_, ?_⟩
  · rw [u3, (z1 29 (by unfold zPS; omega)).1, e29, (x01 29 (by simp)).1]; exact t11
  · rw [zpre_eq (u1 21 (by simp)).1]; exact u4
  · rw [zpre_eq (u1 21 (by simp)).1]; exact u5
