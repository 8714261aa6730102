/-- the tree whose places from k on are pruned -/
def zJ (D : zD) (ch : Nat) (σ : ze_S) (mk : Nat) (P : Nat → List Nat) (k : Nat) : Nat → (Nat → Nat) → Nat → List Nat → zTr → Prop
  | 0, w, pl, p, T => zRM D σ mk P 0 w pl p T
  | f + 1, w, pl, p, T => (k ≤ pl ∧ zRM D σ mk P (f + 1) w pl p (zpn D ch (f + 1) w T)) ∨ (pl < k ∧ (pl < mk ∧ P pl = p ∧ σ.1 54 pl = nI (T.2 []) ∧ T.2 [] < 3 ∧ zrw σ pl D.2.1 w) ∧ ((T.1 [] = none ∧ σ.1 49 pl = -1) ∨
    ∃ a t, T.1 [] = some (a, t) ∧ a < D.1 ∧ zth D a t ∧ σ.1 49 pl = nI a ∧ σ.1 50 pl = t ∧
      ∀ b, b < zm_nb (D.2.2.1 a) → σ.1 51 (4 * pl + b) = nI (zkd σ pl b) ∧ pl < zkd σ pl b ∧ zJ D ch σ mk P k f (zsd D a t w b) (zkd σ pl b) (p ++ [b]) (zsub T b)))
theorem zJ_of {D : zD} {ch : Nat} {σ : ze_S} {mk : Nat} {P : Nat → List Nat} : ∀ {f : Nat} {w : Nat → Nat} {pl : Nat} {p : List Nat} {T : zTr}, zRM D σ mk P f w pl p T → zJ D ch σ mk P mk f w pl p T
  | 0, _, _, _, _, h => h
  | f + 1, _, _, _, _, h => by
    refine Or.inr ⟨h.1.1, h.1, ?_⟩
    rcases h.2 with q | ⟨a, t, c1, c2, c3, c4, c5, c6⟩
    · exact Or.inl q
    · exact Or.inr ⟨a, t, c1, c2, c3, c4, c5, fun b hb => ⟨(c6 b hb).1, (c6 b hb).2.1, zJ_of (c6 b hb).2.2⟩⟩
theorem zJ_hi {D : zD} {ch : Nat} {σ : ze_S} {mk : Nat} {P : Nat → List Nat} {k f : Nat} {w : Nat → Nat} {pl : Nat} {p : List Nat} {T : zTr} (hk : k ≤ pl) (h : zJ D ch σ mk P k f w pl p T) : zRM D σ mk P f w pl p (zpn D ch f w T) := by
  cases f with
  | zero => exact h
  | succ f =>
    rcases h with h | h
    · exact h.2
    · omega
theorem zJ_eq {D : zD} {ch : Nat} {σ τ : ze_S} {mk : Nat} {P R : Nat → List Nat} {k : Nat} (hd : zdok D) : ∀ {f : Nat} {w : Nat → Nat} {pl : Nat} {p : List Nat} {T : zTr}, zJ D ch σ mk P k f w pl p T → (∀ q, q < mk → p <+: P q → zsmr σ τ q ∧ R q = P q) → zJ D ch τ mk R k f w pl p T
  | 0, w, pl, p, T, h, hs => zRM_eq (f := 0) hd h hs
  | f + 1, w, pl, p, T, h, hs => by
    have h24 := hd.2.1
    rcases h with ⟨h1, h2⟩ | ⟨h1, ⟨b1, b2, b3, b4, b5⟩, h3⟩
    · exact Or.inl ⟨h1, zRM_eq hd h2 hs⟩
    · obtain ⟨s, r⟩ := hs pl b1 (by rw [b2]; exact List.prefix_refl _)
      refine Or.inr ⟨h1, ⟨b1, by rw [r]; exact b2, by rw [s.2.2.2.2.1]; exact b3, b4, fun i hi => by rw [s.2.2.2.2.2.2 i (by omega)]; exact b5 i hi⟩, ?_⟩
      rcases h3 with ⟨e, e2⟩ | ⟨a, t, c1, c2, c3, c4, c5, c6⟩
      · exact Or.inl ⟨e, by rw [s.1]; exact e2⟩
      · refine Or.inr ⟨a, t, c1, c2, c3, by rw [s.1]; exact c4, by rw [s.2.1]; exact c5, fun b hb => ?_⟩
        have hn := znb4 hd c2
        have e51 := s.2.2.2.2.2.1 b (by omega)
        have ek : zkd τ pl b = zkd σ pl b := by unfold zkd; rw [e51]
        obtain ⟨d1, d2, d3⟩ := c6 b hb
        rw [ek, e51]
        exact ⟨d1, d2, zJ_eq hd d3 (fun q hm hq => hs q hm ((List.prefix_append p [b]).trans hq))⟩
theorem zprm_ge {D : zD} {σ : ze_S} {mk : Nat} {P : Nat → List Nat} {x : Nat} : ∀ {f : Nat} {w : Nat → Nat} {pl : Nat} {p : List Nat} {T : zTr}, zRM D σ mk P f w pl p T → x ∈ zprm D σ f pl T → pl ≤ x
  | 0, w, pl, p, T, h, hx => by
    have : x = pl := by simpa [zprm] using hx
    omega
  | f + 1, w, pl, p, T, h, hx => by
    have ezp : zprm D σ (f + 1) pl T = pl :: (match T.1 [] with | none => [] | some q => zcat (fun b => zprm D σ f (zkd σ pl b) (zsub T b)) (zm_nb (D.2.2.1 q.1))) := rfl
    rw [ezp] at hx
    rcases h.2 with ⟨e, -⟩ | ⟨a, t, c1, c2, c3, c4, c5, c6⟩
    · rw [e] at hx
      have : x = pl := by simpa using hx
      omega
    · rw [c1] at hx
      rcases List.mem_cons.1 hx with hx | hx
      · omega
      · obtain ⟨b, hb, hx⟩ := zcat_in hx
        have := zprm_ge (c6 b hb).2.2 hx
        have := (c6 b hb).2.1
        omega
theorem zchoice {Φ : Nat → zTr → Prop} {n : Nat} (h : ∀ b, b < n → ∃ T, Φ b T) : ∃ g : Nat → zTr, ∀ b, b < n → Φ b (g b) := by
  refine ⟨fun b => if h' : b < n then Classical.choose (h b h') else zlf, fun b hb => ?_⟩
  show Φ b (if h' : b < n then Classical.choose (h b h') else zlf)
  rw [dif_pos hb]
  exact Classical.choose_spec (h b hb)
/-- place k in the tree, or not -/
def zFo (D : zD) (ch : Nat) (τ : ze_S) (mk : Nat) (R : Nat → List Nat) (k f : Nat) (w : Nat → Nat) (pl : Nat) (p : List Nat) (T T' : zTr) : Prop :=
  (¬ k ∈ zprm D τ f pl T' ∧ zJ D ch τ mk R k f w pl p T) ∨ (k ∈ zprm D τ f pl T' ∧ ∃ (f' : Nat) (w' : Nat → Nat) (p' : List Nat) (T1 : zTr), f' ≤ f ∧ (∀ i, w' i ≤ w i) ∧ p <+: p' ∧ R k = p' ∧ zJ D ch τ mk R (k + 1) f' w' k p' T1 ∧
    ∀ (τ' : ze_S) (R' : Nat → List Nat), (∀ q, q < mk → ¬ p' <+: R q → zsmr τ τ' q ∧ R' q = R q) → zJ D ch τ' mk R' k f' w' k p' T1 → zJ D ch τ' mk R' k f w pl p T)
theorem zJ_fo {D : zD} {ch : Nat} {τ : ze_S} {mk : Nat} {R : Nat → List Nat} {k : Nat} (hd : zdok D) : ∀ {f : Nat} {w : Nat → Nat} {pl : Nat} {p : List Nat} {T : zTr}, zJ D ch τ mk R (k + 1) f w pl p T → ∃ T', zRM D τ mk R f w pl p T' ∧ zFo D ch τ mk R k f w pl p T T'
  | 0, w, pl, p, T, h => by
    refine ⟨T, h, ?_⟩
    by_cases e : pl = k
    · subst e
      exact Or.inr ⟨by simp [zprm], 0, w, p, T, Nat.le_refl _, fun _ => Nat.le_refl _, List.prefix_refl _, h.1.2.1, h, fun _ _ _ z => z⟩
    · exact Or.inl ⟨by simp [zprm, Ne.symm e], h⟩
  | f + 1, w, pl, p, T, h => by
    have h24 := hd.2.1
    have hall := h
    rcases h with ⟨h1, h2⟩ | ⟨h1, ⟨b1, b2, b3, b4, b5⟩, h3⟩
    · exact ⟨_, h2, Or.inl ⟨fun z => by have := zprm_ge h2 z; omega, Or.inl ⟨by omega, h2⟩⟩⟩
    · rcases h3 with ⟨e1, e2⟩ | ⟨a, t, c1, c2, c3, c4, c5, c6⟩
      · have hRT : zRM D τ mk R (f + 1) w pl p T := ⟨⟨b1, b2, b3, b4, b5⟩, Or.inl ⟨e1, e2⟩⟩
        refine ⟨T, hRT, ?_⟩
        by_cases e : pl = k
        · subst e
          obtain ⟨l, el⟩ := zprm_hd D τ (f + 1) pl T
          exact Or.inr ⟨by rw [el]; exact List.mem_cons_self, f + 1, w, p, T, Nat.le_refl _, fun _ => Nat.le_refl _, List.prefix_refl _, b2, hall, fun _ _ _ z => z⟩
        · refine Or.inl ⟨?_, Or.inr ⟨by omega, ⟨b1, b2, b3, b4, b5⟩, Or.inl ⟨e1, e2⟩⟩⟩
          show ¬ k ∈ pl :: (match T.1 [] with | none => [] | some q => zcat (fun b => zprm D τ f (zkd τ pl b) (zsub T b)) (zm_nb (D.2.2.1 q.1)))
          rw [e1]
          simp [Ne.symm e]
      · obtain ⟨g, hg⟩ := zchoice (fun b hb => zJ_fo hd (c6 b hb).2.2)
        have hn := znb4 hd c2
        have hRT : zRM D τ mk R (f + 1) w pl p (zmk (some (a, t)) (T.2 []) g) := ⟨⟨b1, b2, b3, b4, b5⟩, Or.inr ⟨a, t, rfl, c2, c3, c4, c5, fun b hb => ⟨(c6 b hb).1, (c6 b hb).2.1, by rw [zsub_mk]; exact (hg b hb).1⟩⟩⟩
        have ezp : zprm D τ (f + 1) pl (zmk (some (a, t)) (T.2 []) g) = pl :: zcat (fun b => zprm D τ f (zkd τ pl b) (g b)) (zm_nb (D.2.2.1 a)) := rfl
        refine ⟨_, hRT, ?_⟩
        unfold zFo
        rw [ezp]
        by_cases e : pl = k
        · subst e
          exact Or.inr ⟨List.mem_cons_self, f + 1, w, p, T, Nat.le_refl _, fun _ => Nat.le_refl _, List.prefix_refl _, b2, hall, fun _ _ _ z => z⟩
        · by_cases hx : ∃ b, b < zm_nb (D.2.2.1 a) ∧ k ∈ zprm D τ f (zkd τ pl b) (g b)
          · obtain ⟨b, hb, hkb⟩ := hx
            refine Or.inr ⟨List.mem_cons_of_mem _ (zcat_mem hb hkb), ?_⟩
            rcases (hg b hb).2 with hl | ⟨-, f', w', p', T1, r1, r2, r3, r4, r5, r6⟩
            · exact absurd hkb hl.1
            · refine ⟨f', w', p', T1, by omega, fun i => Nat.le_trans (r2 i) zsd_le, (List.prefix_append p [b]).trans r3, r4, r5, fun τ' R' hs hJ => ?_⟩
              obtain ⟨s, r⟩ := hs pl b1 (fun z => by rw [b2] at z; exact zpre3 (r3.trans z))
              refine Or.inr ⟨by omega, ⟨b1, by rw [r]; exact b2, by rw [s.2.2.2.2.1]; exact b3, b4, fun i hi => by rw [s.2.2.2.2.2.2 i (by omega)]; exact b5 i hi⟩, Or.inr ⟨a, t, c1, c2, c3, by rw [s.1]; exact c4, by rw [s.2.1]; exact c5, fun b' hb' => ?_⟩⟩
              have e51 := s.2.2.2.2.2.1 b' (by omega)
              have ek : zkd τ' pl b' = zkd τ pl b' := by unfold zkd; rw [e51]
              rw [ek, e51]
              refine ⟨(c6 b' hb').1, (c6 b' hb').2.1, ?_⟩
              by_cases eb : b' = b
              · subst eb
                exact r6 τ' R' hs hJ
              · rcases (hg b' hb').2 with hl | ⟨-, f2, w2, p2, T2, -, -, q3, q4, -, -⟩
                · exact zJ_eq hd hl.2 (fun q hq hp => hs q hq (fun z => eb (zpre4 hp (r3.trans z))))
                · rw [← q4] at q3
                  rw [← r4] at r3
                  exact absurd (zpre4 q3 r3) eb
          · refine Or.inl ⟨fun z => ?_, Or.inr ⟨by omega, ⟨b1, b2, b3, b4, b5⟩, Or.inr ⟨a, t, c1, c2, c3, c4, c5, fun b hb => ⟨(c6 b hb).1, (c6 b hb).2.1, ?_⟩⟩⟩⟩
            · rcases List.mem_cons.1 z with z | z
              · exact e z.symm
              · obtain ⟨b, hb, z⟩ := zcat_in z
                exact hx ⟨b, hb, z⟩
            · rcases (hg b hb).2 with hl | hr
              · exact hl.2
              · exact absurd ⟨b, hb, hr.1⟩ hx
theorem r_inTree {d : Nat} {D : zD} {σ : ze_S} {mk : Nat} {P : Nat → List Nat} {w : Nat → Nat} {T : zTr} {k : Nat} (hd : zdok D) (hB : zBn σ D) (hmk : mk ≤ 85) (hk : k < 85) (hR : zRM D σ mk P 3 w 0 [] T) :
    zM (d + 3) m_M_inTree [.ref 64, .int (nI k)] σ (fun v τ => v = some (.int (if k ∈ zprm D σ 3 0 T then 1 else 0)) ∧ zy [58, 59] [23] σ τ) := by
  have hlen := zprm_len hd hR
  have hN : zN 3 ≤ 85 := by decide
  have hpm : ∀ (i x : Nat), (zprm D σ 3 0 T)[i]? = some x → x < 85 := by
    intro i x hx
    have : ∀ {f : Nat} {w : Nat → Nat} {pl : Nat} {p : List Nat} {T : zTr}, zRM D σ mk P f w pl p T → x ∈ zprm D σ f pl T → x < mk := by
      intro f
      induction f with
      | zero =>
        intro w pl p T h hx
        have e : x = pl := by simpa [zprm] using hx
        rw [e]; exact h.1.1
      | succ f ih =>
        intro w pl p T h hx
        have ezp : zprm D σ (f + 1) pl T = pl :: (match T.1 [] with | none => [] | some q => zcat (fun b => zprm D σ f (zkd σ pl b) (zsub T b)) (zm_nb (D.2.2.1 q.1))) := rfl
        rw [ezp] at hx
        rcases h.2 with ⟨e, -⟩ | ⟨a, t, c1, c2, c3, c4, c5, c6⟩
        · rw [e] at hx
          have e : x = pl := by simpa using hx
          rw [e]; exact h.1.1
        · rw [c1] at hx
          rcases List.mem_cons.1 hx with hx | hx
          · rw [hx]; exact h.1.1
          · obtain ⟨b, hb, hx⟩ := zcat_in hx
            exact ih (c6 b hb).2.2 hx
    have := this hR (List.mem_of_getElem? hx)
    omega
  refine zM_in t_M_inTree [some (.ref 64), some (.int (nI k)), none] rfl rfl ?_
  iterate 2 (refine ze_go1 rfl ?_)
  refine ze_ca1 rfl ⟨rfl, rfl⟩ (ze_M_le (r_list (d := 0) (pl := 0) hd hB hmk (Nat.le_refl _) hR) (by omega)) (fun v τ q => ?_)
  obtain ⟨rfl, y1, l1⟩ := q
  generalize zprm D σ 3 0 T = L at *
  have loop : ∀ n j, j + n = L.length → (∀ i x, i < j → L[i]? = some x → x ≠ k) → zE (d + 2) t_M_inTree (fun v τ => v = some (.int (if k ∈ L then 1 else 0)) ∧ zy [58, 59] [23] σ τ) (7, [some (.ref 64), some (.int (nI k)), some (.int (nI j))], [], τ) := by
    intro n
    induction n with
    | zero =>
      intro j hj hx
      iterate 2 (refine ze_go1 rfl ?_)
      refine ze_go2 rfl rfl ?_
      rw [l1.1, show j = L.length by omega]
      refine ze_brT rfl (Int32.le_refl _) ?_
      refine ze_go1 rfl ?_
      refine ze_rt1 rfl (Or.inl rfl) ⟨?_, y1⟩
      rw [if_neg]
      intro z
      obtain ⟨i, hi⟩ := List.mem_iff_getElem?.1 z
      exact hx i k (by have := zlt_get hi; omega) hi rfl
    | succ n ih =>
      intro j hj hx
      have hjl : j < L.length := by omega
      have hj1 : L[j]? = some L[j] := List.getElem?_eq_getElem hjl
      have hxl := hpm j _ hj1
      iterate 2 (refine ze_go1 rfl ?_)
      refine ze_go2 rfl rfl ?_
      rw [l1.1]
      refine ze_brF rfl (nI_ge (by omega) (by omega)) ?_
      refine ze_go1 rfl ?_
      refine ze_go2 rfl rfl ?_
      refine ze_go1 rfl ?_
      refine ze_go2 rfl ⟨rfl, vp_in_nI (N := 96) (n := j) (by omega) (by omega)⟩ ?_
      rw [nI_clamp (n := j) (by omega), l1.2 j _ hj1]
      refine ze_go1 rfl ?_
      by_cases e : L[j] = k
      · refine ze_brF rfl (fun z => z (by rw [e])) ?_
        refine ze_go1 rfl ?_
        refine ze_rt1 rfl (Or.inr rfl) ⟨?_, y1⟩
        rw [if_pos]
        rw [← e]
        exact List.getElem_mem hjl
      · refine ze_brT rfl (fun z => e ((nI_eq (by omega) (by omega)).1 z)) ?_
        iterate 2 (refine ze_go1 rfl ?_)
        have h := ih (j + 1) (by omega) (fun i x hi hx' => by
          by_cases e2 : i = j
          · subst e2
            rw [hj1] at hx'
            cases hx'
            exact e
          · exact hx i x (by omega) hx')
        rw [← show nI j + 1 = nI (j + 1) from nI_1 _] at h
        exact h
  iterate 2 (refine ze_go1 rfl ?_)
  exact loop L.length 0 (by omega) (fun i x hi => by omega)
set_option maxRecDepth 20000 in
set_option maxHeartbeats 1000000 in
theorem r_prune {d : Nat} {σ : ze_S} {S : zSt} {x : Int32} (h : zMR σ S) : zM (d + 8) m_M_prune [.ref 64, .int x] σ (zOm σ (zn_prune S x).1 (zn_prune S x).2) := by
  have hM := h
  obtain ⟨hd, hB, g3, g4, g5⟩ := h
  refine zM_in t_M_prune [some (.ref 64), some (.int x), none] rfl rfl ?_
  have bad : (x < 0 ∨ 2000 < x) → zE (d + 7) t_M_prune (zOm σ (zn_prune S x).1 (zn_prune S x).2) (11, [some (.ref 64), some (.int x), none], [], σ) := by
    intro hb
    refine ze_go1 rfl ?_
    unfold zn_prune
    rw [if_pos hb]
    exact ze_rt1 rfl trivial ⟨rfl, hM, zxp_rf _ _⟩
  refine ze_go1 rfl ?_
  refine ze_br1 rfl (fun c => bad (Or.inl c)) (fun c => ?_)
  iterate 2 (refine ze_go1 rfl ?_)
  by_cases c2 : 2000 < x
  · refine ze_brF rfl (fun q => Int32.not_lt.2 q c2) ?_
    exact bad (Or.inr c2)
  · refine ze_brT rfl (Int32.not_lt.1 c2) ?_
    have hx : ¬ (x < 0 ∨ 2000 < x) := fun q => q.elim c c2
    obtain ⟨ch, em, hch⟩ := zn_le (n := 2000) (by decide) c c2
    refine ze_go1 rfl ?_
    refine ze_go2 rfl rfl ?_
    unfold zn_prune
    rw [if_neg hx]
    cases es : S.2.1 with
    | none =>
      rw [es] at g5
      rw [show σ.1 64 5 = 0 from g5]
      refine ze_brF rfl (by decide) ?_
      refine ze_go1 rfl ?_
      exact ze_rt1 rfl trivial ⟨rfl, hM, zxp_rf _ _⟩
    | some r =>
      rw [es] at g5
      obtain ⟨g5, g6, g7, g8, mk, P, g9, g10, g11, hR⟩ := g5
      rw [g5, em]
      show zE _ _ (zOm σ (nI (zpp S.1 3 [] (zpn S.1 (nI ch).toNatClampNeg 3 (zw0 r.1) r.2)).length) (S.1, some (r.1, zpn S.1 (nI ch).toNatClampNeg 3 (zw0 r.1) r.2), S.2.2)) _
      rw [zcl (show ch < 2 ^ 31 by omega)]
      clear em hx bad
      refine ze_brT rfl (by decide) ?_
      refine ze_go1 rfl ?_
      refine ze_go2 rfl rfl ?_
      refine ze_go1 rfl ?_
      rw [g9]
      have hd' := ztr_ok hd g7
      have hB' := ztr_Bn hB g7
      have hw720 : ∀ i, i < (ztr S.1 r.1).2.1 → zw0 r.1 i ≤ 720 := fun i _ => zw0_le _ i
      have loop : ∀ k τ R, k ≤ mk → zy [49, 50, 51, 54, 55, 56, 57, 58, 59] [17, 18, 21, 23] σ τ → zJ (ztr S.1 r.1) ch τ mk R k 3 (zw0 r.1) 0 [] r.2 → zE (d + 7) t_M_prune (zOm σ (nI (zpp S.1 3 [] (zpn S.1 ch 3 (zw0 r.1) r.2)).length) (S.1, some (r.1, zpn S.1 ch 3 (zw0 r.1) r.2), S.2.2)) (30, [some (.ref 64), some (.int (nI ch)), some (.int (nI k - 1))], [], τ) := by
        intro k
        induction k with
        | zero =>
          intro τ R hk hy hJ
          have hR1 := zJ_hi (Nat.zero_le _) hJ
          rw [zag_pn (zag_tr g7) ch 3 _ _ (zz_w0 _)] at hR1
          have hM1 : zMR τ (S.1, some (r.1, zpn S.1 ch 3 (zw0 r.1) r.2), S.2.2) := ⟨hd, zBn_y hB hy (by simp) (by simp), by rw [hy.2 2 (by simp)]; exact g3, by rw [(hy.1 63 (by simp) (by decide)).1]; exact g4, by rw [hy.2 5 (by simp)]; exact g5, g6, g7, by rw [hy.2 6 (by simp)]; exact g8, mk, R, by rw [hy.2 7 (by simp)]; exact g9, g10, g11, hR1⟩
          refine ze_go1 rfl ?_
          refine ze_brT rfl (by decide) ?_
          refine ze_go1 rfl ?_
          refine ze_ca1 rfl ⟨rfl, rfl⟩ (ze_M_le (r_nodes (d := 0) hM1) (by omega)) (fun v τ2 q => ?_)
          obtain ⟨rfl, y2, -⟩ := q
          refine ze_rt1 rfl trivial ⟨rfl, zMR_y hM1 y2 (by simp) (by simp), ?_⟩
          exact zxp_tr (zy46 hy (by simp)) (zy46 y2 (by simp))
        | succ k ih =>
          intro τ R hk hy hJ
          have Bt : zBn τ (ztr S.1 r.1) := zBn_y hB' hy (by simp) (by simp)
          have h6t : τ.1 64 6 = nI (ztr S.1 r.1).2.1 := by rw [hy.2 6 (by simp)]; exact g8
          obtain ⟨T', hR', hF⟩ := zJ_fo hd' hJ
          have next : ∀ τ R, zy [49, 50, 51, 54, 55, 56, 57, 58, 59] [17, 18, 21, 23] σ τ → zJ (ztr S.1 r.1) ch τ mk R k 3 (zw0 r.1) 0 [] r.2 → zE (d + 7) t_M_prune (zOm σ (nI (zpp S.1 3 [] (zpn S.1 ch 3 (zw0 r.1) r.2)).length) (S.1, some (r.1, zpn S.1 ch 3 (zw0 r.1) r.2), S.2.2)) (57, [some (.ref 64), some (.int (nI ch)), some (.int (nI k))], [], τ) := by
            intro τ R hy hJ
            iterate 2 (refine ze_go1 rfl ?_)
            rw [show nI k + (-1) = nI k - 1 from (Int32.sub_eq_add_neg _ _).symm]
            exact ih τ R (by omega) hy hJ
          refine ze_go1 rfl ?_
          rw [nI_pred]
          refine ze_brF rfl (nI_pos (by omega)) ?_
          refine ze_go1 rfl ?_
          refine ze_go2 rfl rfl ?_
          refine ze_go1 rfl ?_
          refine ze_go2 rfl ⟨rfl, vp_in_nI (N := 96) (n := k) (by omega) (by omega)⟩ ?_
          rw [nI_clamp (n := k) (by omega)]
          refine ze_br1 rfl (fun c => ?_) (fun c => ?_)
          · refine next τ R hy ?_
            rcases hF with hl | ⟨-, f', w', p', T1, r1, r2, r3, r4, r5, r6⟩
            · exact hl.2
            · refine r6 τ R (fun _ _ _ => ⟨zsmr_rf _ _, rfl⟩) ?_
              cases f' with
              | zero => exact r5
              | succ f' =>
                rcases r5 with ⟨z, -⟩ | ⟨-, hh, ⟨e1, e2⟩ | ⟨a, t, u1, u2, u3, u4, u5, u6⟩⟩
                · omega
                · refine Or.inl ⟨Nat.le_refl _, ?_⟩
                  rw [zpn_none e1]
                  exact ⟨hh, Or.inl ⟨e1, e2⟩⟩
                · have h4 := hd.1
                  have u2 : a < S.1.1 := u2
                  exact absurd c (by show ¬ τ.1 49 k < 0; rw [u4]; exact nI_pos (by omega))
          · iterate 2 (refine ze_go1 rfl ?_)
            refine ze_ca1 rfl ⟨rfl, rfl⟩ (ze_M_le (r_inTree (d := 0) (k := k) hd' Bt g11 (by omega) hR') (by omega)) (fun v τ2 q => ?_)
            obtain ⟨rfl, y2⟩ := q
            have hy2 : zy [49, 50, 51, 54, 55, 56, 57, 58, 59] [17, 18, 21, 23] σ τ2 := zy_tr hy (zy_wk y2 (by simp) (by simp))
            have s2 : ∀ q, zsmr τ τ2 q := fun q => zsmr_y y2 (by simp) q
            rcases hF with ⟨hl1, hl⟩ | ⟨hin, f', w', p', T1, r1, r2, r3, r4, r5, r6⟩
            · rw [if_neg hl1]
              refine ze_brT rfl rfl ?_
              exact next τ2 R hy2 (zJ_eq hd' hl (fun q _ _ => ⟨s2 q, rfl⟩))
            · rw [if_pos hin]
              refine ze_brF rfl (by decide) ?_
              iterate 3 (refine ze_go1 rfl ?_)
              cases f' with
              | zero => exact absurd (by show τ.1 49 k < 0; rw [r5.2.2]; decide) c
              | succ f' =>
                rcases r5 with ⟨z, -⟩ | ⟨-, hh, ⟨e1, e2⟩ | ⟨a, t, u1, u2, u3, u4, u5, u6⟩⟩
                · omega
                · exact absurd (by show τ.1 49 k < 0; rw [e2]; decide) c
                · have hR1 : zRM (ztr S.1 r.1) τ mk R (f' + 1) w' k p' (zmk (some (a, t)) (T1.2 []) (fun b => if b < zm_nb ((ztr S.1 r.1).2.2.1 a) then zpn (ztr S.1 r.1) ch f' (zsd (ztr S.1 r.1) a t w' b) (zsub T1 b) else zsub T1 b)) := ⟨hh, Or.inr ⟨a, t, rfl, u2, u3, u4, u5, fun b hb => ⟨(u6 b hb).1, (u6 b hb).2.1, by rw [zsub_mk, if_pos hb]; exact zJ_hi (u6 b hb).2.1 (u6 b hb).2.2⟩⟩⟩
                  have hR2 := zRM_eq (τ := τ2) (R := R) hd' hR1 (fun q _ _ => ⟨s2 q, rfl⟩)
                  refine ze_ca1 rfl ⟨rfl, rfl⟩ (ze_M_le (r_lookAt (d := 0) (ch := ch) hd' (zBn_y Bt y2 (by simp) (by simp)) g11 (by omega) hch hR2 rfl (fun i hi => Nat.le_trans (r2 i) (hw720 i hi)) (by rw [y2.2 6 (by simp)]; exact h6t)) (by omega)) (fun v τ3 q => ?_)
                  obtain ⟨rfl, y3, R3, s3, hR3⟩ := q
                  refine next τ3 R3 (zy_tr hy2 (zy_wk y3 (by simp) (by simp))) (r6 τ3 R3 (fun q hq hp => ⟨zsmr_tr (s2 q) (s3 q hq hp).1, (s3 q hq hp).2⟩) (Or.inl ⟨Nat.le_refl _, ?_⟩))
                  have epn : zpn (ztr S.1 r.1) ch (f' + 1) w' T1 = zpl (ztr S.1 r.1) ch f' w' (T1.2 []) a t (fun b => if b < zm_nb ((ztr S.1 r.1).2.2.1 a) then zpn (ztr S.1 r.1) ch f' (zsd (ztr S.1 r.1) a t w' b) (zsub T1 b) else zsub T1 b) := by
                    show (match T1.1 [] with | none => _ | some q => _) = _
                    rw [u1]
                  rw [epn]
                  exact hR3
      iterate 2 (refine ze_go1 rfl ?_)
      exact loop mk σ P (Nat.le_refl _) (zy_rf _ _ _) (zJ_of hR)
