theorem zi3m (b : Nat) : nI b * 3 = nI (3 * b) := by have := zi3 b 0; rwa [show nI 0 = 0 from rfl, Int32.add_zero] at this
theorem zi4m (b : Nat) : nI b * 4 = nI (4 * b) := by have := zi4 b 0; rwa [show nI 0 = 0 from rfl, Int32.add_zero] at this
theorem zc4 : (4 : Int32).toNatClampNeg = 4 := rfl
theorem zc3 : (3 : Int32).toNatClampNeg = 3 := rfl
theorem e_has {d : Nat} {σ : ze_S} {s : Nat} {x : Int32} (hs : σ.1 29 10 = nI s) :
    zM (d + 1) m_Tr_has [.ref 29, .int x] σ (fun v τ => v = some (.int (if ¬ x < 0 ∧ ¬ nI s ≤ x then 1 else 0)) ∧ τ = σ) := by
  refine zM_in t_Tr_has [some (.ref 29), some (.int x)] rfl rfl ?_
  refine ze_go1 rfl ?_
  refine ze_br1 rfl (fun h => ?_) (fun h => ?_)
  · refine ze_go1 rfl ?_
    refine ze_rt1 rfl (Or.inl rfl) ⟨?_, rfl⟩
    rw [if_neg (fun q => q.1 h)]
  · iterate 2 (refine ze_go1 rfl ?_)
    refine ze_go2 rfl rfl ?_
    rw [hs]
    refine ze_br1 rfl (fun h2 => ?_) (fun h2 => ?_)
    · refine ze_go1 rfl ?_
      refine ze_rt1 rfl (Or.inl rfl) ⟨?_, rfl⟩
      rw [if_neg (fun q => q.2 h2)]
    · iterate 2 (refine ze_go1 rfl ?_)
      refine ze_rt1 rfl (Or.inr rfl) ⟨?_, rfl⟩
      rw [if_pos ⟨h, h2⟩]
theorem e_isLeaf {d : Nat} {σ : ze_S} {pl nb : Nat} (hp : pl < 85) (hb : σ.1 17 pl = nI nb) (hn : nb ≤ 4) :
    zM (d + 1) m_Tr_isLeaf [.ref 29, .int (nI pl)] σ (fun v τ => v = some (.int (if nb = 0 then 1 else 0)) ∧ τ = σ) := by
  refine zM_in t_Tr_isLeaf [some (.ref 29), some (.int (nI pl))] rfl rfl ?_
  refine ze_go1 rfl ?_
  refine ze_go2 rfl rfl ?_
  refine ze_go1 rfl ?_
  refine ze_go2 rfl ⟨rfl, vp_in_nI (N := 85) hp (by decide)⟩ ?_
  rw [nI_clamp (n := pl) (by omega), hb]
  by_cases c : nb = 0
  · refine ze_brF rfl (by rw [c]; exact fun q => q rfl) ?_
    iterate 2 (refine ze_go1 rfl ?_)
    refine ze_rt1 rfl (Or.inr rfl) ⟨?_, rfl⟩
    rw [if_pos c]
  · refine ze_brT rfl (nI_ne0 (by omega) (by omega)) ?_
    refine ze_go1 rfl ?_
    refine ze_rt1 rfl (Or.inl rfl) ⟨?_, rfl⟩
    rw [if_neg c]
theorem e_below {d : Nat} {σ : ze_S} {pl b : Nat} (hp : pl < 85) (hb : b < 4) :
    zM (d + 1) m_Tr_below [.ref 29, .int (nI pl), .int (nI b)] σ (fun v τ => v = some (.int (σ.1 21 (4 * pl + b))) ∧ τ = σ) := by
  refine zM_in t_Tr_below [some (.ref 29), some (.int (nI pl)), some (.int (nI b))] rfl rfl ?_
  refine ze_go1 rfl ?_
  refine ze_go2 rfl rfl ?_
  iterate 5 (refine ze_go1 rfl ?_)
  rw [zi4]
  refine ze_go2 rfl ⟨rfl, vp_in_nI (N := 340) (by omega) (by decide)⟩ ?_
  rw [nI_clamp (n := 4 * pl + b) (by omega)]
  exact ze_rt1 rfl trivial ⟨rfl, rfl⟩
theorem e_total {d : Nat} {σ : ze_S} {pl : Nat} {f : Nat → Nat} (hp : pl < 85) (hf : ∀ c, c < 3 → σ.1 19 (3 * pl + c) = nI (f c)) :
    zM (d + 2) m_Tr_totalWeight [.ref 29, .int (nI pl)] σ (fun v τ => v = some (.int (nI (zm_s f 3))) ∧ τ = σ) := by
  refine zM_in t_Tr_totalWeight [some (.ref 29), some (.int (nI pl))] rfl rfl ?_
  refine ze_go1 rfl ?_
  refine ze_go2 rfl rfl ?_
  iterate 4 (refine ze_go1 rfl ?_)
  rw [zi3m]
  refine ze_ca1 rfl rfl (e_sum (k := 19) (a := 3 * pl) (n := 3) (f := f) rfl (by show 3 * pl + 3 ≤ 255; omega) hf) (fun v τ h => ?_)
  obtain ⟨rfl, rfl⟩ := h
  exact ze_rt1 rfl trivial ⟨rfl, rfl⟩
theorem e_becomeLeaf {d : Nat} {σ : ze_S} {pl : Nat} (hp : pl < 85) :
    zM (d + 1) m_Tr_becomeLeaf [.ref 29, .int (nI pl)] σ (fun v τ => v = none ∧ τ = ze_ui (ze_ui (ze_ui σ 15 pl (-1)) 16 pl (-1)) 17 pl 0) := by
  refine zM_in t_Tr_becomeLeaf [some (.ref 29), some (.int (nI pl))] rfl rfl ?_
  refine ze_go1 rfl ?_
  refine ze_go2 rfl rfl ?_
  iterate 2 (refine ze_go1 rfl ?_)
  refine ze_go2 rfl ⟨rfl, vp_in_nI (N := 85) hp (by decide)⟩ ?_
  refine ze_go1 rfl ?_
  refine ze_go2 rfl rfl ?_
  iterate 2 (refine ze_go1 rfl ?_)
  refine ze_go2 rfl ⟨rfl, vp_in_nI (N := 85) hp (by decide)⟩ ?_
  refine ze_go1 rfl ?_
  refine ze_go2 rfl rfl ?_
  iterate 2 (refine ze_go1 rfl ?_)
  refine ze_go2 rfl ⟨rfl, vp_in_nI (N := 85) hp (by decide)⟩ ?_
  rw [nI_clamp (n := pl) (by omega)]
  exact ze_rt1 rfl trivial ⟨rfl, rfl⟩
theorem e_makeNode {d : Nat} {σ : ze_S} {pl : Nat} {x : Int32} (hp : pl < 85) (hm : σ.1 29 9 = nI pl) :
    zM (d + 2) m_Tr_makeNode [.ref 29, .int x] σ (fun v τ => v = some (.int (nI pl)) ∧ τ = ze_ui (ze_ui (ze_ui (ze_ui (ze_ui σ 29 9 (nI (pl + 1))) 18 pl x) 15 pl (-1)) 16 pl (-1)) 17 pl 0) := by
  refine zM_in t_Tr_makeNode [some (.ref 29), some (.int x), none] rfl rfl ?_
  refine ze_go1 rfl ?_
  refine ze_go2 rfl rfl ?_
  iterate 2 (refine ze_go1 rfl ?_)
  iterate 2 (refine ze_go2 rfl rfl ?_)
  iterate 2 (refine ze_go1 rfl ?_)
  refine ze_go2 rfl rfl ?_
  refine ze_go1 rfl ?_
  refine ze_go2 rfl rfl ?_
  iterate 2 (refine ze_go1 rfl ?_)
  rw [hm]
  refine ze_go2 rfl ⟨rfl, vp_in_nI (N := 85) hp (by decide)⟩ ?_
  rw [nI_clamp (n := pl) (by omega), show nI pl + 1 = nI (pl + 1) from nI_1 _]
  iterate 2 (refine ze_go1 rfl ?_)
  refine ze_ca1 rfl ⟨rfl, rfl⟩ (e_becomeLeaf hp) (fun v τ h => ?_)
  obtain ⟨rfl, rfl⟩ := h
  refine ze_go1 rfl ?_
  exact ze_rt1 rfl trivial ⟨rfl, rfl⟩
set_option maxRecDepth 20000 in
theorem e_keepTest {d : Nat} {σ : ze_S} {pl dp : Nat} (hp : pl < 85) (hdp : dp < 4) :
    zM (d + 1) m_Tr_keepTest [.ref 29, .int (nI pl), .ref (39 + dp)] σ (fun v τ => v = none ∧ τ = ze_uf (ze_ui (ze_ui (ze_ui σ 15 pl (σ.1 (39 + dp) 1)) 16 pl (σ.1 (39 + dp) 2)) 17 pl (σ.1 (39 + dp) 3)) 20 (va_cpy (σ.1 (6 + dp)) (σ.1 20) 0 (4 * pl) 4)) := by
  have hkf : ze_cl (39 + dp) = 3 := zk_fo (by omega)
  obtain ⟨hI, hlen⟩ := zk_fp (k := 6 + dp) (by omega)
  refine zM_in t_Tr_keepTest [some (.ref 29), some (.int (nI pl)), some (.ref (39 + dp))] rfl rfl ?_
  refine ze_go1 rfl ?_
  refine ze_go2 rfl (by first | rfl | exact hkf) ?_
  iterate 2 (refine ze_go1 rfl ?_)
  refine ze_go2 rfl (by first | rfl | exact hkf) ?_
  refine ze_go2 rfl ⟨rfl, vp_in_nI (N := 85) hp (by decide)⟩ ?_
  refine ze_go1 rfl ?_
  refine ze_go2 rfl (by first | rfl | exact hkf) ?_
  iterate 2 (refine ze_go1 rfl ?_)
  refine ze_go2 rfl (by first | rfl | exact hkf) ?_
  refine ze_go2 rfl ⟨rfl, vp_in_nI (N := 85) hp (by decide)⟩ ?_
  refine ze_go1 rfl ?_
  refine ze_go2 rfl (by first | rfl | exact hkf) ?_
  iterate 2 (refine ze_go1 rfl ?_)
  refine ze_go2 rfl (by first | rfl | exact hkf) ?_
  refine ze_go2 rfl ⟨rfl, vp_in_nI (N := 85) hp (by decide)⟩ ?_
  rw [nI_clamp (n := pl) (by omega)]
  refine ze_go1 rfl ?_
  refine ze_go2 rfl (by first | rfl | exact hkf) ?_
  iterate 2 (refine ze_go1 rfl ?_)
  refine ze_go2 rfl (by first | rfl | exact hkf) ?_
  iterate 4 (refine ze_go1 rfl ?_)
  rw [show 39 + dp - 33 = 6 + dp by omega, zi4m]
  refine ze_go2 rfl ⟨by decide, hI, rfl, by decide, nI_pos (by omega), by decide, by rw [hlen]; decide, by rw [nI_clamp (n := 4 * pl) (by omega)]; show 4 * pl + 4 ≤ 340; omega⟩ ?_
  refine ze_rt1 rfl trivial ⟨rfl, ?_⟩
  rw [nI_clamp (n := 4 * pl) (by omega), sb_cl0, zc4]
  simp only [zui_o _ _ _ _ (show 39 + dp ≠ 15 by omega), zui_o _ _ _ _ (show 39 + dp ≠ 16 by omega), zui_o _ _ _ _ (show 39 + dp ≠ 17 by omega), zui_o _ _ _ _ (show 6 + dp ≠ 15 by omega), zui_o _ _ _ _ (show 6 + dp ≠ 16 by omega), zui_o _ _ _ _ (show 6 + dp ≠ 17 by omega), zui_o _ _ _ _ (show (20 : Nat) ≠ 15 by decide), zui_o _ _ _ _ (show (20 : Nat) ≠ 16 by decide), zui_o _ _ _ _ (show (20 : Nat) ≠ 17 by decide)]
set_option maxRecDepth 20000 in
set_option maxHeartbeats 1000000 in
theorem e_readTest {d : Nat} {σ : ze_S} {pl dp a nb : Nat} {t : Int32} {p : Nat → Nat} (hp : pl < 85) (hdp : dp < 4) (h1 : σ.1 15 pl = nI a) (h2 : σ.1 16 pl = t) (h3 : σ.1 17 pl = nI nb) (h4 : ∀ b, b < 4 → σ.1 20 (4 * pl + b) = nI (p b)) (hpb : ∀ b, b < 4 → p b < 2 ^ 31) :
    zM (d + 3) m_Tr_readTest [.ref 29, .int (nI pl), .ref (39 + dp)] σ (fun v τ => v = none ∧ zx [39 + dp, 6 + dp] σ τ ∧ zFk τ dp a t nb p) := by
  have hkf : ze_cl (39 + dp) = 3 := zk_fo (by omega)
  obtain ⟨hI, hlen⟩ := zk_fp (k := 6 + dp) (by omega)
  refine zM_in t_Tr_readTest [some (.ref 29), some (.int (nI pl)), some (.ref (39 + dp))] rfl rfl ?_
  iterate 2 (refine ze_go1 rfl ?_)
  refine ze_go2 rfl rfl ?_
  refine ze_go1 rfl ?_
  refine ze_go2 rfl ⟨rfl, vp_in_nI (N := 85) hp (by decide)⟩ ?_
  refine ze_go1 rfl ?_
  refine ze_go2 rfl rfl ?_
  refine ze_go1 rfl ?_
  refine ze_go2 rfl ⟨rfl, vp_in_nI (N := 85) hp (by decide)⟩ ?_
  refine ze_go1 rfl ?_
  refine ze_go2 rfl rfl ?_
  refine ze_go1 rfl ?_
  refine ze_go2 rfl ⟨rfl, vp_in_nI (N := 85) hp (by decide)⟩ ?_
  rw [nI_clamp (n := pl) (by omega), h1, h2, h3]
  refine ze_ca1 rfl ⟨rfl, hkf⟩ (e_setTest hdp) (fun v τ1 h => ?_)
  obtain ⟨rfl, x1, f1, f2, f3, -⟩ := h
  refine ze_go1 rfl ?_
  refine ze_go2 rfl (by first | rfl | exact hkf) ?_
  iterate 4 (refine ze_go1 rfl ?_)
  refine ze_go2 rfl (by first | rfl | exact hkf) ?_
  iterate 2 (refine ze_go1 rfl ?_)
  rw [show 39 + dp - 33 = 6 + dp by omega, zi4m]
  refine ze_go2 rfl ⟨Nat.le_of_ble_eq_true rfl, rfl, hI, nI_pos (by omega), by decide, by decide, by rw [nI_clamp (n := 4 * pl) (by omega)]; show 4 * pl + 4 ≤ 340; omega, by rw [hlen]; decide⟩ ?_
  rw [nI_clamp (n := 4 * pl) (by omega), sb_cl0, zc4]
  refine ze_go1 rfl ?_
  have hpp : ∀ b, b < 4 → (ze_uf τ1 (6 + dp) (va_cpy (τ1.1 20) (τ1.1 (6 + dp)) (4 * pl) 0 4)).1 (6 + dp) b = nI (p b) := fun b hb => by
    rw [zuf, pk_cpy_in (Nat.zero_le _) (by omega), (x1 20 (by simp <;> omega)).1, Nat.sub_zero]
    exact h4 b hb
  have e39 : (ze_uf τ1 (6 + dp) (va_cpy (τ1.1 20) (τ1.1 (6 + dp)) (4 * pl) 0 4)).1 (39 + dp) = τ1.1 (39 + dp) := zuf_o _ _ _ (by omega)
  refine ze_ca1 rfl ⟨rfl, hkf⟩ (e_settle hdp hpp hpb) (fun v τ2 h => ?_)
  obtain ⟨rfl, x2, g1, g2, g3, g4, g5⟩ := h
  refine ze_rt1 rfl trivial ⟨rfl, zx_tr (zx_tr x1 (zx_uf (by simp) _ _)) (zx_wk x2 (by simp)), ?_, ?_, ?_, g4, g5, fun b hb => ?_⟩
  · rw [g1, e39, f1]
  · rw [g2, e39, f2]
  · rw [g3, e39, f3]
  · rw [(x2 (6 + dp) (by simp <;> omega)).1]
    exact hpp b hb
set_option maxRecDepth 20000 in
theorem e_keepWeights {d : Nat} {σ : ze_S} {pl : Nat} {f : Nat → Nat} (hp : pl < 85) (hf : ∀ c, c < 3 → σ.1 14 c = nI (f c)) (hfb : zm_s f 3 ≤ 17280) :
    zM (d + 3) m_Tr_keepWeights [.ref 29, .int (nI pl), .ref 14] σ (fun v τ => v = none ∧ τ = if zm_s f 3 = 0 then ze_uf σ 19 (va_cpy (σ.1 14) (σ.1 19) 0 (3 * pl) 3) else ze_ui (ze_uf σ 19 (va_cpy (σ.1 14) (σ.1 19) 0 (3 * pl) 3)) 18 pl (nI (zm_fg f 3))) := by
  refine zM_in t_Tr_keepWeights [some (.ref 29), some (.int (nI pl)), some (.ref 14)] rfl rfl ?_
  iterate 3 (refine ze_go1 rfl ?_)
  refine ze_go2 rfl rfl ?_
  iterate 4 (refine ze_go1 rfl ?_)
  rw [zi3m]
  refine ze_go2 rfl ⟨by decide, rfl, rfl, by decide, nI_pos (by omega), by decide, by decide, by rw [nI_clamp (n := 3 * pl) (by omega)]; show 3 * pl + 3 ≤ 255; omega⟩ ?_
  rw [nI_clamp (n := 3 * pl) (by omega), sb_cl0, zc3]
  iterate 2 (refine ze_go1 rfl ?_)
  refine ze_ca1 rfl ⟨rfl, rfl⟩ (e_total hp (f := f) (fun c hc => by
    rw [zuf, pk_cpy_in (by omega) (by omega), show 0 + (3 * pl + c - 3 * pl) = c by omega]
    exact hf c hc)) (fun v τ h => ?_)
  obtain ⟨rfl, rfl⟩ := h
  by_cases c : zm_s f 3 = 0
  · refine ze_brT rfl (by rw [c]; exact Int32.le_refl _) ?_
    refine ze_rt1 rfl trivial ⟨rfl, ?_⟩
    rw [if_pos c]
  · refine ze_brF rfl (nI_nle (by omega) (by omega)) ?_
    refine ze_go1 rfl ?_
    refine ze_go2 rfl rfl ?_
    iterate 4 (refine ze_go1 rfl ?_)
    refine ze_ca1 rfl rfl (e_fg (k := 14) (a := 0) (n := 3) (f := f) (by decide) rfl (by decide) (fun i hi => by rw [Nat.zero_add, zuf_o _ _ _ (by decide)]; exact hf i hi) (fun i hi => by have := zm_s_pos (f := f) hi; omega)) (fun v τ h => ?_)
    obtain ⟨rfl, rfl⟩ := h
    refine ze_go2 rfl ⟨rfl, vp_in_nI (N := 85) hp (by decide)⟩ ?_
    rw [nI_clamp (n := pl) (by omega)]
    refine ze_rt1 rfl trivial ⟨rfl, ?_⟩
    rw [if_neg c]
def zmv (σ : ze_S) (fr to : Nat) : ze_S := ze_uf (ze_uf (ze_uf (ze_ui (ze_ui (ze_ui (ze_ui σ 15 to (σ.1 15 fr)) 16 to (σ.1 16 fr)) 17 to (σ.1 17 fr)) 18 to (σ.1 18 fr)) 19 (va_cpy (σ.1 19) (σ.1 19) (3 * fr) (3 * to) 3)) 20 (va_cpy (σ.1 20) (σ.1 20) (4 * fr) (4 * to) 4)) 21 (va_cpy (σ.1 21) (σ.1 21) (4 * fr) (4 * to) 4)
set_option maxRecDepth 20000 in
set_option maxHeartbeats 1000000 in
theorem e_moveNode {d : Nat} {σ : ze_S} {fr to : Nat} (hf : fr < 85) (ht : to < 85) :
    zM (d + 1) m_Tr_moveNode [.ref 29, .int (nI fr), .int (nI to)] σ (fun v τ => v = none ∧ τ = zmv σ fr to) := by
  have cf : (nI fr).toNatClampNeg = fr := nI_clamp (by omega)
  have ct : (nI to).toNatClampNeg = to := nI_clamp (by omega)
  have g : ∀ q, q < 85 → vp_in (nI q) (ze_len 15) ∧ vp_in (nI q) (ze_len 16) ∧ vp_in (nI q) (ze_len 17) ∧ vp_in (nI q) (ze_len 18) := fun q hq => ⟨vp_in_nI (N := 85) hq (by decide), vp_in_nI (N := 85) hq (by decide), vp_in_nI (N := 85) hq (by decide), vp_in_nI (N := 85) hq (by decide)⟩
  refine zM_in t_Tr_moveNode [some (.ref 29), some (.int (nI fr)), some (.int (nI to))] rfl rfl ?_
  refine ze_go1 rfl ?_
  refine ze_go2 rfl rfl ?_
  iterate 2 (refine ze_go1 rfl ?_)
  refine ze_go2 rfl rfl ?_
  refine ze_go1 rfl ?_
  refine ze_go2 rfl ⟨rfl, (g fr hf).1⟩ ?_
  refine ze_go2 rfl ⟨rfl, (g to ht).1⟩ ?_
  refine ze_go1 rfl ?_
  refine ze_go2 rfl rfl ?_
  iterate 2 (refine ze_go1 rfl ?_)
  refine ze_go2 rfl rfl ?_
  refine ze_go1 rfl ?_
  refine ze_go2 rfl ⟨rfl, (g fr hf).2.1⟩ ?_
  refine ze_go2 rfl ⟨rfl, (g to ht).2.1⟩ ?_
  refine ze_go1 rfl ?_
  refine ze_go2 rfl rfl ?_
  iterate 2 (refine ze_go1 rfl ?_)
  refine ze_go2 rfl rfl ?_
  refine ze_go1 rfl ?_
  refine ze_go2 rfl ⟨rfl, (g fr hf).2.2.1⟩ ?_
  refine ze_go2 rfl ⟨rfl, (g to ht).2.2.1⟩ ?_
  refine ze_go1 rfl ?_
  refine ze_go2 rfl rfl ?_
  iterate 2 (refine ze_go1 rfl ?_)
  refine ze_go2 rfl rfl ?_
  refine ze_go1 rfl ?_
  refine ze_go2 rfl ⟨rfl, (g fr hf).2.2.2⟩ ?_
  refine ze_go2 rfl ⟨rfl, (g to ht).2.2.2⟩ ?_
  rw [cf, ct]
  refine ze_go1 rfl ?_
  refine ze_go2 rfl rfl ?_
  iterate 4 (refine ze_go1 rfl ?_)
  refine ze_go2 rfl rfl ?_
  iterate 4 (refine ze_go1 rfl ?_)
  rw [zi3m, zi3m]
  refine ze_go2 rfl ⟨by decide, rfl, rfl, nI_pos (by omega), nI_pos (by omega), by decide, by rw [nI_clamp (n := 3 * fr) (by omega)]; show 3 * fr + 3 ≤ 255; omega, by rw [nI_clamp (n := 3 * to) (by omega)]; show 3 * to + 3 ≤ 255; omega⟩ ?_
  refine ze_go1 rfl ?_
  refine ze_go2 rfl rfl ?_
  iterate 4 (refine ze_go1 rfl ?_)
  refine ze_go2 rfl rfl ?_
  iterate 4 (refine ze_go1 rfl ?_)
  rw [zi4m, zi4m]
  refine ze_go2 rfl ⟨by decide, rfl, rfl, nI_pos (by omega), nI_pos (by omega), by decide, by rw [nI_clamp (n := 4 * fr) (by omega)]; show 4 * fr + 4 ≤ 340; omega, by rw [nI_clamp (n := 4 * to) (by omega)]; show 4 * to + 4 ≤ 340; omega⟩ ?_
  refine ze_go1 rfl ?_
  refine ze_go2 rfl rfl ?_
  iterate 4 (refine ze_go1 rfl ?_)
  refine ze_go2 rfl rfl ?_
  iterate 4 (refine ze_go1 rfl ?_)
  rw [zi4m, zi4m]
  refine ze_go2 rfl ⟨by decide, rfl, rfl, nI_pos (by omega), nI_pos (by omega), by decide, by rw [nI_clamp (n := 4 * fr) (by omega)]; show 4 * fr + 4 ≤ 340; omega, by rw [nI_clamp (n := 4 * to) (by omega)]; show 4 * to + 4 ≤ 340; omega⟩ ?_
  refine ze_rt1 rfl trivial ⟨rfl, ?_⟩
  rw [nI_clamp (n := 3 * fr) (by omega), nI_clamp (n := 3 * to) (by omega), nI_clamp (n := 4 * fr) (by omega), nI_clamp (n := 4 * to) (by omega), zc3, zc4]
  rfl
