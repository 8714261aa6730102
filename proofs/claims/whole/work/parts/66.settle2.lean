theorem zmsk_cons {D : zD} {L : List Nat} {C a : Nat} (h : zmsk D L C) : zmsk D (a :: L) (zcm D a C) := by
  intro x hx
  unfold zcm
  by_cases ha : D.2.2.1 a = 0
  · rw [if_pos ha, h x hx, List.mem_cons]
    exact ⟨fun q => ⟨Or.inr q.1, q.2⟩, fun q => ⟨q.1.elim (fun e => absurd (e ▸ ha) q.2) id, q.2⟩⟩
  · rw [if_neg ha, Nat.testBit_or, Nat.testBit_two_pow, Bool.or_eq_true, h x hx, List.mem_cons, decide_eq_true_iff]
    constructor
    · intro q
      rcases q with q | q
      · exact ⟨Or.inr q.1, q.2⟩
      · subst q; exact ⟨Or.inl rfl, ha⟩
    · intro q
      rcases q.1 with e | e
      · exact Or.inr e.symm
      · exact Or.inl ⟨e, q.2⟩
theorem zgt_none1 {D : zD} {w : Nat → Nat} {m c : Nat} (h : zm_s (zcw D w) 3 < 1440 * m ∨ zcw D w (zm_fg (zcw D w) 3) = zm_s (zcw D w) 3) : zgt D w m c = none := if_pos h
theorem z1440 (m : Nat) : 1440 * nI m = nI (1440 * m) := by
  rw [show (1440 : Int32) = nI 1440 from rfl, pk_mul]
theorem zIG_fork {D : zD} {m : Nat} {σ τ : ze_S} {G : zGh} {n mk a f : Nat} {t : Int32} (hd : zdok D) (h : zIG D m σ G n mk) (hn : n < mk) (hF : zgF G n = f + 1) (ht : zgt D (zgW G n) m (zgC G n) = some (a, t)) (hy : zy zgl' zgm' σ τ) (h7 : τ.1 64 7 = nI (mk + zm_nb (D.2.2.1 a))) (hs : ∀ q, q < mk → q ≠ n → zsmr σ τ q)
    (h54 : τ.1 54 n = nI (zty D (zgW G n) (zgT G n))) (h49 : τ.1 49 n = nI a) (h50 : τ.1 50 n = t) (h52 : τ.1 52 n = σ.1 52 n) (h55 : ∀ i, i < 24 → τ.1 55 (24 * n + i) = σ.1 55 (24 * n + i))
    (hk : ∀ b, b < zm_nb (D.2.2.1 a) → τ.1 51 (4 * n + b) = nI (mk + b) ∧ τ.1 52 (mk + b) = nI n ∧ τ.1 53 (mk + b) = nI (3 - f) ∧ zrw τ (mk + b) D.2.1 (zsd D a t (zgW G n) b)) :
    ∃ G' mk', zIG D m τ G' (n + 1) mk' ∧ (∀ q, q < mk → G' q = G q) ∧ mk ≤ mk' := by
  have h24 := hd.2.1
  have hmk := zIG_mk h
  obtain ⟨g1, g2, g3, g4, g5, g6, g7⟩ := h
  have hp := g6 n (Nat.le_refl _) hn
  have hch : zchs D (zgW G n) m (zgC G n) = some (a, t) := by
    unfold zgt at ht
    split at ht
    · cases ht
    · exact ht
  have ha := (zchs_some hd hch).2.1
  have hnb := znb4 hd ha
  have h4 := hd.1
  obtain ⟨p1, p2, p3, p4, p5, p6, p7, p8, -, p9⟩ := hp
  generalize hG' : (fun q => if mk ≤ q then (zsd D a t (zgW G n) (q - mk), zcm D a (zgC G n), zty D (zgW G n) (zgT G n), a :: zgL G n, f, zgP G n ++ [q - mk]) else G q : zGh) = G'
  have eo : ∀ q, q < mk → G' q = G q := fun q hq => by rw [← hG']; exact if_neg (by omega)
  have en : ∀ b, G' (mk + b) = (zsd D a t (zgW G n) b, zcm D a (zgC G n), zty D (zgW G n) (zgT G n), a :: zgL G n, f, zgP G n ++ [b]) := fun b => by
    rw [← hG']
    show (if mk ≤ mk + b then _ else _) = _
    rw [if_pos (by omega), show mk + b - mk = b by omega]
  refine ⟨G', mk + zm_nb (D.2.2.1 a), ⟨zBn_y g1 hy (by unfold zgl'; simp) (by unfold zgm'; simp), by rw [hy.2 6 (by unfold zgm'; simp)]; exact g2, h7, by omega, fun q hq => ?_, fun q hq hq2 => ?_, ?_⟩, eo, by omega⟩
  · by_cases e : q = n
    · subst e
      have eW : zgW G' q = zgW G q := congrArg (·.1) (eo q hn)
      have eC : zgC G' q = zgC G q := congrArg (·.2.1) (eo q hn)
      have eT : zgT G' q = zgT G q := congrArg (·.2.2.1) (eo q hn)
      have eL : zgL G' q = zgL G q := congrArg (·.2.2.2.1) (eo q hn)
      have eF : zgF G' q = zgF G q := congrArg (·.2.2.2.2.1) (eo q hn)
      have eP : zgP G' q = zgP G q := congrArg (·.2.2.2.2.2) (eo q hn)
      unfold zSe
      rw [eW, eC, eT, eL, eF, eP]
      refine ⟨h54, fun i hi => by rw [h55 i (by omega)]; exact p1 i hi, p8, Or.inr ⟨a, t, f, hF, ht, h49, h50, fun b hb => ⟨mk + b, (hk b hb).1, by omega, by omega, en b⟩⟩⟩
    · exact zSe_eq hd (g5 q (by omega)) (hs q (by omega) e) eo (by omega) (by omega)
  · by_cases e : q < mk
    · exact zPe_eq hd (g6 q (by omega) e) (hs q e (by omega)) (fun u hu => hs u (by omega) (by omega)) (eo q e) (Nat.le_succ _)
    · obtain ⟨b, eb⟩ : ∃ b, q = mk + b := ⟨q - mk, by omega⟩
      subst eb
      have hb : b < zm_nb (D.2.2.1 a) := by omega
      obtain ⟨k1, k2, k3, k4⟩ := hk b hb
      have eW : zgW G' (mk + b) = zsd D a t (zgW G n) b := congrArg (·.1) (en b)
      have eC : zgC G' (mk + b) = zcm D a (zgC G n) := congrArg (·.2.1) (en b)
      have eT : zgT G' (mk + b) = zty D (zgW G n) (zgT G n) := congrArg (·.2.2.1) (en b)
      have eL : zgL G' (mk + b) = a :: zgL G n := congrArg (·.2.2.2.1) (en b)
      have eF : zgF G' (mk + b) = f := congrArg (·.2.2.2.2.1) (en b)
      unfold zPe
      rw [eW, eC, eT, eL, eF]
      refine ⟨k4, fun i hi => Nat.le_trans zsd_le (p2 i hi), by omega, k3, ⟨by omega, by omega, n, k2, by omega, by omega, h49, by omega, zanN_eq (Nat.le_succ _) (fun u hu => hs u (by omega) (by omega)) h52 p5⟩, ?_, zmsk_cons p7, zty_lt _ _ p8, fun z => by omega, fun _ => ⟨n, by omega, k2, h54⟩⟩
      rw [List.length_cons, p6, hF]
      have p3' : f + 1 ≤ 3 := by rw [← hF]; exact p3
      clear p9
      omega
  · rw [show mk - n = (mk - (n + 1)) + 1 by omega, zm_s_sh] at g7
    have e0 : zN (zgF G (n + 0)) = 1 + 4 * zN f := by rw [Nat.add_zero, hF]; rfl
    rw [e0] at g7
    rw [show mk + zm_nb (D.2.2.1 a) - (n + 1) = (mk - (n + 1)) + zm_nb (D.2.2.1 a) by omega, zm_s_app]
    have e1 : zm_s (fun i => zN (zgF G' (n + 1 + i))) (mk - (n + 1)) = zm_s (fun i => zN (zgF G (n + (i + 1)))) (mk - (n + 1)) := zm_s_eq (fun i hi => by
      rw [show zgF G' (n + 1 + i) = zgF G (n + 1 + i) from congrArg (·.2.2.2.2.1) (eo _ (by omega)), show n + 1 + i = n + (i + 1) by omega])
    have e2 : zm_s (fun i => zN (zgF G' (n + 1 + (mk - (n + 1) + i)))) (zm_nb (D.2.2.1 a)) = zm_s (fun _ => zN f) (zm_nb (D.2.2.1 a)) := zm_s_eq (fun i hi => by
      rw [show n + 1 + (mk - (n + 1) + i) = mk + i by omega, show zgF G' (mk + i) = f from congrArg (·.2.2.2.2.1) (en i)])
    rw [e1, e2, zm_s_c]
    have : zN f * zm_nb (D.2.2.1 a) ≤ zN f * 4 := Nat.mul_le_mul_left _ hnb.2
    omega
set_option maxRecDepth 20000 in
set_option maxHeartbeats 2000000 in
theorem r_settle {d : Nat} {σ : ze_S} {D : zD} {m : Nat} {G : zGh} {n mk : Nat} (hd : zdok D) (hm1 : 1 ≤ m) (hm5 : m ≤ 5) (h : zIG D m σ G n mk) (hn : n < mk) :
    zM (d + 9) m_M_settle [.ref 64, .int (nI n), .int (nI m)] σ (fun v τ => v = none ∧ zy zgl' zgm' σ τ ∧ ∃ G' mk', zIG D m τ G' (n + 1) mk' ∧ (∀ q, q < mk → G' q = G q) ∧ mk ≤ mk') := by
  have hmk := zIG_mk h
  have h24 := hd.2.1
  have h4 := hd.1
  have hI := h
  obtain ⟨g1, g2, g3, g4, g5, g6, g7⟩ := h
  obtain ⟨p1, p2, p3, p4, p5, p6, p7, p8, p8', p9⟩ := g6 n (Nat.le_refl _) hn
  have hwl := zcw_le hd p2
  refine zM_in t_M_settle [some (.ref 64), some (.int (nI n)), some (.int (nI m)), none, none, none] rfl rfl ?_
  iterate 3 (refine ze_go1 rfl ?_)
  refine ze_go2 rfl rfl ?_
  rw [g2]
  refine ze_ca1 rfl ⟨rfl, rfl⟩ (ze_M_le (r_weightOf (d := 0) hd g1 (by omega) p1) (by omega)) (fun v ρ q => ?_)
  obtain ⟨rfl, rfl⟩ := q
  have hty := zty_lt D (zgW G n) p8
  have c46 : zE (d + 8) t_M_settle (fun v τ => v = none ∧ zy zgl' zgm' ρ τ ∧ ∃ G' mk', zIG D m τ G' (n + 1) mk' ∧ (∀ q, q < mk → G' q = G q) ∧ mk ≤ mk') (46, [some (.ref 64), some (.int (nI n)), some (.int (nI m)), some (.int (nI (zm_s (zcw D (zgW G n)) 3))), none, none], [.int (nI (zty D (zgW G n) (zgT G n))), .int (nI n), .ref 54], ρ) := by
    refine ze_go2 rfl ⟨rfl, vp_in_nI (N := 96) (n := n) (by omega) (by omega)⟩ ?_
    rw [nI_clamp (n := n) (by omega)]
    refine ze_go1 rfl ?_
    refine ze_go2 rfl rfl ?_
    iterate 2 (refine ze_go1 rfl ?_)
    refine ze_go2 rfl ⟨rfl, vp_in_nI (N := 96) (n := n) (by omega) (by omega)⟩ ?_
    rw [nI_clamp (n := n) (by omega)]
    have y1 : zy [49, 54] [] ρ (ze_ui (ze_ui ρ 54 n (nI (zty D (zgW G n) (zgT G n)))) 49 n (-1)) := zy_tr (zy_ui (by simp) (by decide) _ _ _) (zy_ui (by simp) (by decide) _ _ _)
    have a54 : (ze_ui (ze_ui ρ 54 n (nI (zty D (zgW G n) (zgT G n)))) 49 n (-1)).1 54 n = nI (zty D (zgW G n) (zgT G n)) := by rw [zui_o _ _ _ _ (by decide), zui]
    have a49 : (ze_ui (ze_ui ρ 54 n (nI (zty D (zgW G n) (zgT G n)))) 49 n (-1)).1 49 n = -1 := zui _ _ _ _
    have s1 : ∀ q, q ≠ n → zsmr ρ (ze_ui (ze_ui ρ 54 n (nI (zty D (zgW G n) (zgT G n)))) 49 n (-1)) q := fun q hq => ⟨by rw [zui_n _ _ _ _ hq, zui_o _ _ _ _ (by decide)], rfl, rfl, rfl, by rw [zui_o _ _ _ _ (by decide), zui_n _ _ _ _ hq], fun _ _ => rfl, fun _ _ => rfl⟩
    generalize ze_ui (ze_ui ρ 54 n (nI (zty D (zgW G n) (zgT G n)))) 49 n (-1) = τ1 at y1 a54 a49 s1
    have hB1 : zBn τ1 D := zBn_y g1 y1 (by simp) (by simp)
    have e55 : τ1.1 55 = ρ.1 55 := (y1.1 55 (by simp) (by decide)).1
    have r1 : zrw τ1 n D.2.1 (zgW G n) := fun i hi => by rw [e55]; exact p1 i hi
    have e6 : τ1.1 64 6 = nI D.2.1 := by rw [y1.2 6 (by simp)]; exact g2
    have e53 : τ1.1 53 n = nI (3 - zgF G n) := by rw [(y1.1 53 (by simp) (by decide)).1]; exact p4
    have leaf : ∀ o4, (zgF G n = 0 ∨ zgt D (zgW G n) m (zgC G n) = none) → zE (d + 8) t_M_settle (fun v τ => v = none ∧ zy zgl' zgm' ρ τ ∧ ∃ G' mk', zIG D m τ G' (n + 1) mk' ∧ (∀ q, q < mk → G' q = G q) ∧ mk ≤ mk') (92, [some (.ref 64), some (.int (nI n)), some (.int (nI m)), some (.int (nI (zm_s (zcw D (zgW G n)) 3))), o4, none], [], τ1) := by
      intro o4 hl
      have hy : zy zgl' zgm' ρ τ1 := zy_wk y1 (by unfold zgl'; simp) (by simp)
      exact ze_rt1 rfl trivial ⟨rfl, hy, G, mk, zIG_leaf hd hI hn hy (by rw [y1.2 7 (by simp)]; exact g3) s1 a54 a49 (fun i hi => by rw [e55]) hl, fun _ _ => rfl, Nat.le_refl _⟩
    refine ze_go1 rfl ?_
    refine ze_go2 rfl rfl ?_
    refine ze_go1 rfl ?_
    refine ze_go2 rfl ⟨rfl, vp_in_nI (N := 96) (n := n) (by omega) (by omega)⟩ ?_
    rw [nI_clamp (n := n) (by omega), e53]
    refine ze_go1 rfl ?_
    by_cases hF0 : zgF G n = 0
    · refine ze_brT rfl (by rw [hF0]; rfl) ?_
      exact leaf _ (Or.inl hF0)
    · refine ze_brF rfl (fun q => by have := (nI_eq (b := 3) (by omega) (by omega)).1 q; omega) ?_
      iterate 4 (refine ze_go1 rfl ?_)
      rw [z1440]
      by_cases c1 : zm_s (zcw D (zgW G n)) 3 < 1440 * m
      · refine ze_brT rfl (nI_lt c1 (by omega)) ?_
        exact leaf _ (Or.inr (zgt_none1 (Or.inl c1)))
      · refine ze_brF rfl (nI_nlt (by omega) (by omega)) ?_
        have ety : zty D (zgW G n) (zgT G n) = zm_fg (zcw D (zgW G n)) 3 := if_neg (by omega)
        have hfg3 : zm_fg (zcw D (zgW G n)) 3 < 3 := zm_fg_lt _ 2
        have hfgw := zm_s_pos (f := zcw D (zgW G n)) hfg3
        iterate 3 (refine ze_go1 rfl ?_)
        refine ze_go2 rfl rfl ?_
        refine ze_go1 rfl ?_
        refine ze_go2 rfl ⟨rfl, vp_in_nI (N := 96) (n := n) (by omega) (by omega)⟩ ?_
        rw [nI_clamp (n := n) (by omega), a54, ety]
        refine ze_go1 rfl ?_
        refine ze_go2 rfl rfl ?_
        rw [e6]
        refine ze_ca1 rfl ⟨rfl, rfl⟩ (ze_M_le (r_classWeight (d := 0) (c := zm_fg (zcw D (zgW G n)) 3) hd hB1 (by omega) hfg3 r1) (by omega)) (fun v τ' q => ?_)
        obtain ⟨rfl, hτ'⟩ := q
        rw [hτ']
        refine ze_go1 rfl ?_
        by_cases c2 : zcw D (zgW G n) (zm_fg (zcw D (zgW G n)) 3) = zm_s (zcw D (zgW G n)) 3
        · refine ze_brF rfl (fun q => q (by rw [c2])) ?_
          exact leaf _ (Or.inr (zgt_none1 (Or.inr c2)))
        · refine ze_brT rfl (fun q => c2 ((nI_eq (by omega) (by omega)).1 q)) ?_
          have egt : zgt D (zgW G n) m (zgC G n) = zchs D (zgW G n) m (zgC G n) := if_neg (fun q => q.elim c1 c2)
          have an1 : zan τ1 n (zgL G n) := zanN_an (zanN_eq (Nat.le_refl _) (fun u hu => s1 u (by omega)) (by rw [(y1.1 52 (by simp) (by decide)).1]) p5)
          iterate 3 (refine ze_go1 rfl ?_)
          refine ze_ca1 rfl ⟨rfl, rfl⟩ (ze_M_le (r_choose (d := 0) hd hB1 an1 (by omega) (by omega) p7 r1 p2 hm5 e6) (by omega)) (fun v τ2 q => ?_)
          obtain ⟨rfl, y2, o50, c50⟩ := q
          have s2 : ∀ q, q ≠ n → zsmr τ1 τ2 q := fun q hq => ⟨by rw [(y2.1 49 (by simp) (by decide)).1], o50 q hq, by rw [(y2.1 52 (by simp) (by decide)).1], by rw [(y2.1 53 (by simp) (by decide)).1], by rw [(y2.1 54 (by simp) (by decide)).1], fun b _ => by rw [(y2.1 51 (by simp) (by decide)).1], fun i _ => by rw [(y2.1 55 (by simp) (by decide)).1]⟩
          iterate 2 (refine ze_go1 rfl ?_)
          refine ze_go2 rfl rfl ?_
          iterate 2 (refine ze_go1 rfl ?_)
          refine ze_go2 rfl ⟨rfl, vp_in_nI (N := 96) (n := n) (by omega) (by omega)⟩ ?_
          rw [nI_clamp (n := n) (by omega)]
          have y3 : zy zgl' zgm' τ2 (ze_ui τ2 49 n (zbI (zm_ch (zfos D (zgW G n) m (zgC G n)) D.1))) := zy_ui (by unfold zgl'; simp) (by decide) _ _ _
          have a49 : (ze_ui τ2 49 n (zbI (zm_ch (zfos D (zgW G n) m (zgC G n)) D.1))).1 49 n = zbI (zm_ch (zfos D (zgW G n) m (zgC G n)) D.1) := zui _ _ _ _
          have s3 : ∀ q, q ≠ n → zsmr τ2 (ze_ui τ2 49 n (zbI (zm_ch (zfos D (zgW G n) m (zgC G n)) D.1))) q := fun q hq => ⟨by rw [zui_n _ _ _ _ hq], rfl, rfl, rfl, rfl, fun _ _ => rfl, fun _ _ => rfl⟩
          have k3 : ∀ k, k ≠ 49 → (ze_ui τ2 49 n (zbI (zm_ch (zfos D (zgW G n) m (zgC G n)) D.1))).1 k = τ2.1 k := fun k hk => zui_o _ _ _ _ hk
          generalize ze_ui τ2 49 n (zbI (zm_ch (zfos D (zgW G n) m (zgC G n)) D.1)) = τ3 at y3 a49 s3 k3
          have hy3 : zy zgl' zgm' ρ τ3 := zy_tr (zy_wk y1 (by unfold zgl'; simp) (by simp)) (zy_tr (zy_wk y2 (by unfold zgl'; simp) (by unfold zgm'; simp)) y3)
          have s13 : ∀ q, q ≠ n → zsmr ρ τ3 q := fun q hq => zsmr_tr (s1 q hq) (zsmr_tr (s2 q hq) (s3 q hq))
          have a54' : τ3.1 54 n = nI (zty D (zgW G n) (zgT G n)) := by rw [k3 54 (by decide), (y2.1 54 (by simp) (by decide)).1]; exact a54
          have a55' : τ3.1 55 = ρ.1 55 := by rw [k3 55 (by decide), (y2.1 55 (by simp) (by decide)).1]; exact e55
          have a7' : τ3.1 64 7 = nI mk := by rw [k3 64 (by decide), y2.2 7 (by simp), y1.2 7 (by simp)]; exact g3
          refine ze_go1 rfl ?_
          cases hch : zm_ch (zfos D (zgW G n) m (zgC G n)) D.1 with
          | none =>
            rw [hch] at a49
            refine ze_brF rfl (by decide) ?_
            have e0 : zchs D (zgW G n) m (zgC G n) = none := by unfold zchs; rw [hch]
            exact ze_rt1 rfl trivial ⟨rfl, hy3, G, mk, zIG_leaf hd hI hn hy3 a7' s13 a54' a49 (fun i hi => by rw [a55']) (Or.inr (by rw [egt]; exact e0)), fun _ _ => rfl, Nat.le_refl _⟩
          | some a =>
            rw [hch] at a49
            obtain ⟨f, ef⟩ : ∃ f, zgF G n = f + 1 := ⟨zgF G n - 1, by omega⟩
            have e0 : zchs D (zgW G n) m (zgC G n) = some (a, zthr (zfos D (zgW G n) m (zgC G n) a)) := by unfold zchs; rw [hch]
            obtain ⟨-, ha, hth, -⟩ := zchs_some hd e0
            generalize zthr (zfos D (zgW G n) m (zgC G n) a) = t at e0 hth
            have hnb := znb4 hd ha
            have a50 : τ3.1 50 n = t := by rw [k3 50 (by decide)]; exact c50 a t e0
            refine ze_brT rfl (nI_pos' (by omega)) ?_
            have hb4 : mk + 4 ≤ 85 := by
              rw [show mk - n = (mk - (n + 1)) + 1 by omega, zm_s_sh, show zN (zgF G (n + 0)) = 1 + 4 * zN f by rw [Nat.add_zero, ef]; rfl] at g7
              have := zm_s_ge1 (f := fun i => zN (zgF G (n + (i + 1)))) (fun i => zN_pos _) (mk - (n + 1))
              have := zN_pos f
              omega
            have e53' : τ3.1 53 n = nI (3 - zgF G n) := by rw [k3 53 (by decide), (y2.1 53 (by simp) (by decide)).1]; exact e53
            have hB3 : zBn τ3 D := zBn_y g1 hy3 (by unfold zgl'; simp) (by unfold zgm'; simp)
            iterate 2 (refine ze_go1 rfl ?_)
            refine r_kids (F := zgF G n) (mk := mk) (by omega) hd hB3 ha hn (by omega) e53' (fun τ4 hK => ?_) (zm_nb (D.2.2.1 a)) 0 τ3 (by omega) ⟨zy_rf _ _ _, a7', fun _ _ => ⟨rfl, rfl, rfl⟩, fun _ _ _ _ => rfl, fun b hb => by omega⟩
            obtain ⟨y4, k47, k4s, k451, k4d⟩ := hK
            have hB4 : zBn τ4 D := zBn_y hB3 y4 (by simp) (by simp)
            have e554 : τ4.1 55 = ρ.1 55 := by rw [(y4.1 55 (by simp) (by decide)).1]; exact a55'
            have e644 : τ4.1 64 6 = nI D.2.1 := by rw [y4.2 6 (by simp), hy3.2 6 (by unfold zgm'; simp)]; exact g2
            have hKd : zKd D τ4 n a t (fun b => mk + b) := ⟨by rw [(k4s n hn).1]; exact a49, by rw [(y4.1 50 (by simp) (by decide)).1]; exact a50, fun b hb => ⟨(k4d b hb).1, by show mk + b < 96; omega, by show mk + b ≠ n; omega⟩, fun b b' _ _ e => by have : mk + b = mk + b' := e; omega⟩
            iterate 3 (refine ze_go1 rfl ?_)
            refine ze_ca1 rfl ⟨rfl, rfl⟩ (ze_M_le (r_sendDown (d := 0) (s := 0) hd hB4 ha (by omega) (by decide) hKd (fun i hi => by rw [e554]; exact p1 i hi) p2 e644) (by omega)) (fun v τ5 q => ?_)
            obtain ⟨rfl, y5, w5, o5⟩ := q
            have hy5 : zy zgl' zgm' ρ τ5 := zy_tr hy3 (zy_tr (zy_wk y4 (by unfold zgl'; simp) (by unfold zgm'; simp)) (zy_wk y5 (by unfold zgl'; simp) (by unfold zgm'; simp)))
            have k5 : ∀ k, 49 ≤ k → k < 55 → τ5.1 k = τ4.1 k := fun k h1 h2 => (y5.1 k (by simp; omega) (by omega)).1
            refine ze_rt1 rfl trivial ⟨rfl, hy5, ?_⟩
            refine zIG_fork (a := a) (t := t) (f := f) hd hI hn ef (by rw [egt]; exact e0) hy5 (by rw [y5.2 7 (by simp)]; exact k47) (fun q hq hqn => zsmr_tr (s13 q hqn) ⟨?_, ?_, ?_, ?_, ?_, fun b hb => ?_, fun i hi => ?_⟩) ?_ ?_ ?_ ?_ (fun i hi => ?_) (fun b hb => ⟨?_, ?_, ?_, ?_⟩)
            · rw [k5 49 (by omega) (by omega)]; exact (k4s q hq).1
            · rw [k5 50 (by omega) (by omega), (y4.1 50 (by simp) (by decide)).1]
            · rw [k5 52 (by omega) (by omega)]; exact (k4s q hq).2.1
            · rw [k5 53 (by omega) (by omega)]; exact (k4s q hq).2.2
            · rw [k5 54 (by omega) (by omega), (y4.1 54 (by simp) (by decide)).1]
            · rw [k5 51 (by omega) (by omega)]; exact k451 q hqn b hb
            · rw [o5 q (fun b' hb' => by show q ≠ mk + b' + 0; omega) i hi, e554, a55']
            · rw [k5 54 (by omega) (by omega), (y4.1 54 (by simp) (by decide)).1]; exact a54'
            · rw [k5 49 (by omega) (by omega), (k4s n hn).1]; exact a49
            · rw [k5 50 (by omega) (by omega), (y4.1 50 (by simp) (by decide)).1]; exact a50
            · rw [k5 52 (by omega) (by omega), (k4s n hn).2.1, k3 52 (by decide), (y2.1 52 (by simp) (by decide)).1, (y1.1 52 (by simp) (by decide)).1]
            · rw [o5 n (fun b' hb' => by show n ≠ mk + b' + 0; omega) i hi, e554]
            · rw [k5 51 (by omega) (by omega)]; exact (k4d b hb).1
            · rw [k5 52 (by omega) (by omega)]; exact (k4d b hb).2.1
            · rw [k5 53 (by omega) (by omega), (k4d b hb).2.2.1, ef]
              congr 1
              omega
            · exact w5 b hb
  iterate 2 (refine ze_go1 rfl ?_)
  refine ze_go2 rfl rfl ?_
  iterate 2 (refine ze_go1 rfl ?_)
  by_cases c : zm_s (zcw D (zgW G n)) 3 = 0
  · refine ze_brF rfl (by rw [c]; decide) ?_
    have hn0 : 0 < n := Nat.pos_of_ne_zero (fun z => by have := p8' z; omega)
    obtain ⟨u, u1, u2, u3⟩ := p9 hn0
    refine ze_go1 rfl ?_
    refine ze_brT rfl (nI_ne0 hn0 (by omega)) ?_
    refine ze_go1 rfl ?_
    refine ze_go2 rfl rfl ?_
    refine ze_go1 rfl ?_
    refine ze_go2 rfl rfl ?_
    refine ze_go1 rfl ?_
    refine ze_go2 rfl ⟨rfl, vp_in_nI (N := 96) (n := n) (by omega) (by omega)⟩ ?_
    rw [nI_clamp (n := n) (by omega), u2]
    refine ze_go2 rfl ⟨rfl, vp_in_nI (N := 96) (n := u) (by omega) (by omega)⟩ ?_
    rw [nI_clamp (n := u) (by omega), u3]
    rw [show zty D (zgW G n) (zgT G n) = zgT G n from if_pos c] at c46
    exact c46
  · refine ze_brT rfl (nI_lt (a := 0) (by omega) (by omega)) ?_
    iterate 3 (refine ze_go1 rfl ?_)
    refine ze_go2 rfl rfl ?_
    rw [g2]
    refine ze_ca1 rfl ⟨rfl, rfl⟩ (ze_M_le (r_heaviest (d := 0) hd g1 (by omega) p1 p2) (by omega)) (fun v τ' q => ?_)
    obtain ⟨rfl, hτ'⟩ := q
    rw [hτ']
    refine ze_go1 rfl ?_
    rw [show zty D (zgW G n) (zgT G n) = zm_fg (zcw D (zgW G n)) 3 from if_neg c] at c46
    exact c46
