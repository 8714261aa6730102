/-- the attributes tested above a place -/
def zan (σ : ze_S) : Nat → List Nat → Prop
  | pl, [] => pl = 0
  | pl, a :: l => 0 < pl ∧ pl < 96 ∧ ∃ q, σ.1 52 pl = nI q ∧ q < 96 ∧ σ.1 49 q = nI a ∧ a < 4 ∧ zan σ q l
theorem zan_eq {σ τ : ze_S} (h1 : τ.1 52 = σ.1 52) (h2 : τ.1 49 = σ.1 49) : ∀ {l : List Nat} {pl : Nat}, zan σ pl l → zan τ pl l
  | [], _, h => h
  | a :: l, pl, ⟨g1, g2, q, g3, g4, g5, g6, g7⟩ => ⟨g1, g2, q, by rw [h1]; exact g3, g4, by rw [h2]; exact g5, g6, zan_eq h1 h2 g7⟩
def zmsk (D : zD) (l : List Nat) (c : Nat) : Prop := ∀ a, a < D.1 → (c.testBit a = true ↔ a ∈ l ∧ ¬ D.2.2.1 a = 0)
set_option maxRecDepth 20000 in
theorem r_usedAbove {d : Nat} {σ : ze_S} {D : zD} {pl a : Nat} {l : List Nat} (hd : zdok D) (hB : zBn σ D) (ha : a < D.1) (hl : zan σ pl l) (hl3 : l.length ≤ 3) (hp : pl < 96) :
    zM (d + 1) m_M_usedAbove [.ref 64, .int (nI pl), .int (nI a)] σ (fun v τ => v = some (.int (if a ∈ l ∧ ¬ D.2.2.1 a = 0 then 1 else 0)) ∧ τ = σ) := by
  have h4 := hd.1
  have hkk := hd.2.2.1 a ha
  refine zM_in t_M_usedAbove [some (.ref 64), some (.int (nI pl)), some (.int (nI a)), none, none] rfl rfl ?_
  have loop : ∀ (l' : List Nat) m k, zan σ m l' → m < 96 → k + l'.length ≤ 3 → (a ∈ l' ∧ ¬ D.2.2.1 a = 0 ↔ a ∈ l ∧ ¬ D.2.2.1 a = 0) → zE d t_M_usedAbove (fun v τ => v = some (.int (if a ∈ l ∧ ¬ D.2.2.1 a = 0 then 1 else 0)) ∧ τ = σ) (5, [some (.ref 64), some (.int (nI pl)), some (.int (nI a)), some (.int (nI m)), some (.int (nI k))], [], σ) := by
    intro l'
    induction l' with
    | nil =>
      intro m k hm hm96 hk hq
      have hm : m = 0 := hm
      subst hm
      have hk : k ≤ 3 := hk
      iterate 2 (refine ze_go1 rfl ?_)
      refine ze_brF rfl (nI_ge (b := 4) (by omega) (by omega)) ?_
      refine ze_go1 rfl ?_
      refine ze_brT rfl (by decide) ?_
      refine ze_go1 rfl ?_
      refine ze_rt1 rfl (Or.inl rfl) ⟨?_, rfl⟩
      rw [if_neg (fun z => by cases (hq.2 z).1)]
    | cons b l' ih =>
      intro m k hm hm96 hk hq
      obtain ⟨g1, g2, q, g3, g4, g5, g6, g7⟩ := hm
      have hk : k + (l'.length + 1) ≤ 3 := hk
      iterate 2 (refine ze_go1 rfl ?_)
      refine ze_brF rfl (nI_ge (b := 4) (by omega) (by omega)) ?_
      refine ze_go1 rfl ?_
      refine ze_brF rfl (nI_nle (by omega) (by omega)) ?_
      refine ze_go1 rfl ?_
      refine ze_go2 rfl rfl ?_
      refine ze_go1 rfl ?_
      refine ze_go2 rfl ⟨rfl, vp_in_nI (N := 96) (n := m) (by omega) (by omega)⟩ ?_
      rw [nI_clamp (n := m) (by omega), g3]
      iterate 2 (refine ze_go1 rfl ?_)
      refine ze_go2 rfl rfl ?_
      refine ze_go1 rfl ?_
      refine ze_go2 rfl ⟨rfl, vp_in_nI (N := 96) (n := q) (by omega) (by omega)⟩ ?_
      rw [nI_clamp (n := q) (by omega), g5]
      refine ze_go1 rfl ?_
      have nx : ¬ (a = b ∧ ¬ D.2.2.1 a = 0) → zE d t_M_usedAbove (fun v τ => v = some (.int (if a ∈ l ∧ ¬ D.2.2.1 a = 0 then 1 else 0)) ∧ τ = σ) (43, [some (.ref 64), some (.int (nI pl)), some (.int (nI a)), some (.int (nI q)), some (.int (nI k))], [], σ) := by
        intro hn
        have h := ih q (k + 1) g7 g4 (by omega) (by
          rw [← hq, List.mem_cons]
          constructor
          · exact fun z => ⟨Or.inr z.1, z.2⟩
          · exact fun z => ⟨z.1.elim (fun e => absurd ⟨e, z.2⟩ hn) id, z.2⟩)
        rw [← show nI k + 1 = nI (k + 1) from nI_1 _] at h
        iterate 2 (refine ze_go1 rfl ?_)
        exact h
      by_cases e : b = a
      · refine ze_brF rfl (fun z => z (by rw [e])) ?_
        refine ze_go1 rfl ?_
        refine ze_go2 rfl rfl ?_
        refine ze_go1 rfl ?_
        refine ze_go2 rfl ⟨rfl, vp_in_nI (N := 4) (n := a) (by omega) (by omega)⟩ ?_
        rw [nI_clamp (n := a) (by omega), hB.2.1 a ha]
        by_cases hk0 : D.2.2.1 a = 0
        · refine ze_brT rfl (by rw [hk0]; rfl) ?_
          exact nx (fun z => z.2 hk0)
        · refine ze_brF rfl (nI_ne0 (by omega) (by omega)) ?_
          refine ze_go1 rfl ?_
          refine ze_rt1 rfl (Or.inr rfl) ⟨?_, rfl⟩
          rw [if_pos (hq.1 ⟨by rw [e]; exact List.mem_cons_self, hk0⟩)]
      · refine ze_brT rfl (fun z => e ((nI_eq (by omega) (by omega)).1 z)) ?_
        exact nx (fun z => e z.1.symm)
  iterate 4 (refine ze_go1 rfl ?_)
  exact loop l pl 0 hl hp (by omega) Iff.rfl
theorem r_useful {d : Nat} {σ : ze_S} {D : zD} {pl a m c : Nat} {w : Nat → Nat} {l : List Nat} (hd : zdok D) (hB : zBn σ D) (ha : a < D.1) (hl : zan σ pl l) (hl3 : l.length ≤ 3) (hp : pl < 96) (hc : zmsk D l c) (hw : zrw σ pl D.2.1 w) (hwb : ∀ i, i < D.2.1 → w i ≤ 720) (hm : m ≤ 5) (h6 : σ.1 64 6 = nI D.2.1) :
    zM (d + 7) m_M_useful [.ref 64, .int (nI pl), .int (nI a), .int (nI m)] σ (fun v τ => v = some (.int (bif zm_ub (zfos D w m c a) then 1 else 0)) ∧ zy [56, 57] [17, 18, 21, 22] σ τ ∧ (zm_ub (zfos D w m c a) = true → ∃ q, zfos D w m c a = some q ∧ zMq q τ)) := by
  refine zM_in t_M_useful [some (.ref 64), some (.int (nI pl)), some (.int (nI a)), some (.int (nI m))] rfl rfl ?_
  iterate 3 (refine ze_go1 rfl ?_)
  refine ze_ca1 rfl ⟨rfl, rfl⟩ (ze_M_le (r_usedAbove (d := 0) hd hB ha hl hl3 hp) (by omega)) (fun v ρ h => ?_)
  obtain ⟨rfl, rfl⟩ := h
  have no : ∀ τ, zm_ub (zfos D w m c a) = false → zy [56, 57] [17, 18, 21, 22] ρ τ → zE (d + 6) t_M_useful (fun v τ => v = some (.int (bif zm_ub (zfos D w m c a) then 1 else 0)) ∧ zy [56, 57] [17, 18, 21, 22] ρ τ ∧ (zm_ub (zfos D w m c a) = true → ∃ q, zfos D w m c a = some q ∧ zMq q τ)) (36, [some (.ref 64), some (.int (nI pl)), some (.int (nI a)), some (.int (nI m))], [], τ) := by
    intro τ hu hy
    refine ze_go1 rfl ?_
    rw [hu]
    exact ze_rt1 rfl (Or.inl rfl) ⟨rfl, hy, fun z => by cases z⟩
  by_cases hb : a ∈ l ∧ ¬ D.2.2.1 a = 0
  · refine ze_brT rfl (by rw [if_pos hb]; decide) ?_
    refine no ρ ?_ (zy_rf _ _ _)
    have : zfos D w m c a = none := by
      unfold zfos
      rw [(hc a ha).2 hb]
      rfl
    rw [this]
    rfl
  · refine ze_brF rfl (by rw [if_neg hb]; decide) ?_
    have ef : zfos D w m c a = zts D a w m := by
      unfold zfos
      rw [show c.testBit a = false from Bool.eq_false_iff.2 (fun z => hb ((hc a ha).1 z))]
      rfl
    iterate 4 (refine ze_go1 rfl ?_)
    refine ze_go2 rfl rfl ?_
    refine ze_go1 rfl ?_
    rw [h6]
    refine ze_ca1 rfl ⟨rfl, rfl⟩ (ze_M_le (r_measureTest (d := 0) hd hB ha (by omega) hw hwb hm) (by omega)) (fun v τ h => ?_)
    obtain ⟨hy, h⟩ := h
    rcases h with ⟨rfl, e⟩ | ⟨rfl, q, e, hq⟩
    · refine ze_brT rfl (by decide) ?_
      refine no τ ?_ hy
      rw [ef, e]
      rfl
    · refine ze_brF rfl (by decide) ?_
      refine ze_go1 rfl ?_
      refine ze_go2 rfl rfl ?_
      iterate 2 (refine ze_go1 rfl ?_)
      rw [hq.1]
      by_cases g : 0 < q.2.1
      · refine ze_brF rfl (fun z => zlc_le.1 z g) ?_
        iterate 2 (refine ze_go1 rfl ?_)
        have eu : zm_ub (zfos D w m c a) = true := by
          rw [ef, e]
          exact decide_eq_true g
        rw [eu]
        exact ze_rt1 rfl (Or.inr rfl) ⟨rfl, hy, fun _ => ⟨q, by rw [ef, e], hq⟩⟩
      · refine ze_brT rfl (zlc_le.2 g) ?_
        refine no τ ?_ hy
        rw [ef, e]
        exact decide_eq_false g
def zg0 (fo : Nat → zO) (b : Option Nat) : Int64 := match b with
  | none => 0
  | some a => zm_g (fo a)
def zx1 (fo : Nat → zO) (b : Option Nat) : Int64 := match b with
  | none => 1
  | some a => zm_x (fo a)
set_option maxRecDepth 20000 in
set_option maxHeartbeats 2000000 in
theorem r_choose {d : Nat} {σ : ze_S} {D : zD} {pl m c : Nat} {w : Nat → Nat} {l : List Nat} (hd : zdok D) (hB : zBn σ D) (hl : zan σ pl l) (hl3 : l.length ≤ 3) (hp : pl < 96) (hc : zmsk D l c) (hw : zrw σ pl D.2.1 w) (hwb : ∀ i, i < D.2.1 → w i ≤ 720) (hm : m ≤ 5) (h6 : σ.1 64 6 = nI D.2.1) :
    zM (d + 8) m_M_choose [.ref 64, .int (nI pl), .int (nI m)] σ (fun v τ => v = some (.int (zbI (zm_ch (zfos D w m c) D.1))) ∧ zy [50, 56, 57] [17, 18, 21, 22] σ τ ∧ (∀ q, q ≠ pl → τ.1 50 q = σ.1 50 q) ∧ ∀ a t, zchs D w m c = some (a, t) → τ.1 50 pl = t) := by
  have h4 := hd.1
  refine zM_in t_M_choose [some (.ref 64), some (.int (nI pl)), some (.int (nI m)), none, none, none, none, none, none, none, none, none] rfl rfl ?_
  generalize hfo : zfos D w m c = fo
  have keep : ∀ τ, zy [50, 56, 57] [17, 18, 21, 22] σ τ → zBn τ D ∧ zrw τ pl D.2.1 w ∧ zan τ pl l ∧ τ.1 64 6 = nI D.2.1 ∧ τ.1 64 0 = nI D.1 := fun τ hy =>
    ⟨zBn_y hB hy (by simp) (by simp), fun i hi => by rw [(hy.1 55 (by simp) (by decide)).1]; exact hw i hi, zan_eq (hy.1 52 (by simp) (by decide)).1 (hy.1 49 (by simp) (by decide)).1 hl, by rw [hy.2 6 (by simp)]; exact h6, by rw [hy.2 0 (by simp)]; exact hB.1⟩
  have hf : ∀ τ a, a < D.1 → zy [50, 56, 57] [17, 18, 21, 22] σ τ → zM (d + 7) m_M_useful [.ref 64, .int (nI pl), .int (nI a), .int (nI m)] τ (fun v τ' => v = some (.int (bif zm_ub (fo a) then 1 else 0)) ∧ zy [56, 57] [17, 18, 21, 22] τ τ' ∧ (zm_ub (fo a) = true → ∃ q, fo a = some q ∧ zMq q τ')) := by
    intro τ a ha hy
    obtain ⟨k1, k2, k3, k4, -⟩ := keep τ hy
    rw [← hfo]
    exact r_useful hd k1 ha k3 hl3 hp hc k2 hwb hm k4
  have ech : zm_ch fo D.1 = zm_bs fo (zm_tc fo D.1).1 (zm_tc fo D.1).2 D.1 := rfl
  have etc := zm_tc_le fo D.1
  generalize hS : (zm_tc fo D.1).1 = S at ech
  generalize hN : (zm_tc fo D.1).2 = N at ech etc
  have loop2 : ∀ n j τ, j + n = D.1 → zy [50, 56, 57] [17, 18, 21, 22] σ τ → (∀ q, q ≠ pl → τ.1 50 q = σ.1 50 q) → (∀ b, zm_bs fo S N j = some b → τ.1 50 pl = zthr (fo b)) →
      zE (d + 7) t_M_choose (fun v τ => v = some (.int (zbI (zm_ch fo D.1))) ∧ zy [50, 56, 57] [17, 18, 21, 22] σ τ ∧ (∀ q, q ≠ pl → τ.1 50 q = σ.1 50 q) ∧ ∀ a t, zchs D w m c = some (a, t) → τ.1 50 pl = t) (56, [some (.ref 64), some (.int (nI pl)), some (.int (nI m)), some (.long S), none, some (.int (nI N)), some (.int (zbI (zm_bs fo S N j))), some (.long (zg0 fo (zm_bs fo S N j))), none, some (.long (zx1 fo (zm_bs fo S N j))), none, some (.int (nI j))], [], τ) := by
    intro n
    induction n with
    | zero =>
      intro j τ hj hy h50 hb
      have ej : j = D.1 := by omega
      subst ej
      obtain ⟨-, -, -, -, k5⟩ := keep τ hy
      iterate 2 (refine ze_go1 rfl ?_)
      refine ze_go2 rfl rfl ?_
      rw [k5]
      refine ze_brT rfl (Int32.le_refl _) ?_
      refine ze_go1 rfl ?_
      refine ze_rt1 rfl trivial ⟨by rw [ech], hy, h50, fun a t e => ?_⟩
      unfold zchs at e
      rw [hfo, ech] at e
      cases e2 : zm_bs fo S N D.1 with
      | none => rw [e2] at e; cases e
      | some b =>
        rw [e2] at e
        cases e
        exact hb _ e2
    | succ n ih =>
      intro j τ hj hy h50 hb
      obtain ⟨-, -, -, -, k5⟩ := keep τ hy
      iterate 2 (refine ze_go1 rfl ?_)
      refine ze_go2 rfl rfl ?_
      rw [k5]
      refine ze_brF rfl (nI_ge (by omega) (by omega)) ?_
      iterate 4 (refine ze_go1 rfl ?_)
      refine ze_ca1 rfl ⟨rfl, rfl⟩ (hf τ j (by omega) hy) (fun v τ1 h => ?_)
      obtain ⟨rfl, y1, q1⟩ := h
      have hy1 : zy [50, 56, 57] [17, 18, 21, 22] σ τ1 := zy_tr hy (zy_wk y1 (by simp) (by simp))
      have e50 : τ1.1 50 = τ.1 50 := (y1.1 50 (by simp) (by decide)).1
      have est : zm_bs fo S N (j + 1) = bif zm_ub (fo j) && (decide (S ≤ zm_g (fo j) * (nI N).toInt64) && zm_gr fo j (zm_bs fo S N j)) then some j else zm_bs fo S N j := rfl
      have skip : zm_bs fo S N (j + 1) = zm_bs fo S N j → zE (d + 7) t_M_choose (fun v τ => v = some (.int (zbI (zm_ch fo D.1))) ∧ zy [50, 56, 57] [17, 18, 21, 22] σ τ ∧ (∀ q, q ≠ pl → τ.1 50 q = σ.1 50 q) ∧ ∀ a t, zchs D w m c = some (a, t) → τ.1 50 pl = t) (138, [some (.ref 64), some (.int (nI pl)), some (.int (nI m)), some (.long S), none, some (.int (nI N)), some (.int (zbI (zm_bs fo S N j))), some (.long (zg0 fo (zm_bs fo S N j))), none, some (.long (zx1 fo (zm_bs fo S N j))), none, some (.int (nI j))], [], τ1) := by
        intro e
        have h := ih (j + 1) τ1 (by omega) hy1 (by rw [e50]; exact h50) (by rw [e50, e]; exact hb)
        rw [e, ← show nI j + 1 = nI (j + 1) from nI_1 _] at h
        iterate 2 (refine ze_go1 rfl ?_)
        exact h
      cases hu : zm_ub (fo j) with
      | false =>
        refine ze_brT rfl rfl ?_
        exact skip (by rw [est, hu]; rfl)
      | true =>
        refine ze_brF rfl (by decide) ?_
        obtain ⟨q, eq, hq⟩ := q1 hu
        have eg : τ1.2 64 19 = zm_g (fo j) := by rw [hq.1, eq]; rfl
        have ex : τ1.2 64 20 = zm_x (fo j) := by rw [hq.2.1, eq]; rfl
        have et : τ1.1 64 22 = zthr (fo j) := by rw [hq.2.2, eq]; rfl
        refine ze_go1 rfl ?_
        refine ze_go2 rfl rfl ?_
        iterate 5 (refine ze_go1 rfl ?_)
        rw [eg]
        by_cases c1 : S ≤ zm_g (fo j) * (nI N).toInt64
        · refine ze_brF rfl (fun z => zlc_lt.1 z c1) ?_
          have take : zm_gr fo j (zm_bs fo S N j) = true → zE (d + 7) t_M_choose (fun v τ => v = some (.int (zbI (zm_ch fo D.1))) ∧ zy [50, 56, 57] [17, 18, 21, 22] σ τ ∧ (∀ q, q ≠ pl → τ.1 50 q = σ.1 50 q) ∧ ∀ a t, zchs D w m c = some (a, t) → τ.1 50 pl = t) (112, [some (.ref 64), some (.int (nI pl)), some (.int (nI m)), some (.long S), none, some (.int (nI N)), some (.int (zbI (zm_bs fo S N j))), some (.long (zg0 fo (zm_bs fo S N j))), none, some (.long (zx1 fo (zm_bs fo S N j))), none, some (.int (nI j))], [], τ1) := by
            intro hg
            have e : zm_bs fo S N (j + 1) = some j := by rw [est, hu, decide_eq_true c1, hg]; rfl
            iterate 3 (refine ze_go1 rfl ?_)
            refine ze_go2 rfl rfl ?_
            iterate 2 (refine ze_go1 rfl ?_)
            refine ze_go2 rfl rfl ?_
            iterate 2 (refine ze_go1 rfl ?_)
            refine ze_go2 rfl rfl ?_
            iterate 2 (refine ze_go1 rfl ?_)
            refine ze_go2 rfl rfl ?_
            rw [eg, ex, et]
            refine ze_go2 rfl ⟨rfl, vp_in_nI (N := 96) (n := pl) (by omega) (by omega)⟩ ?_
            rw [nI_clamp (n := pl) (by omega)]
            have h := ih (j + 1) (ze_ui τ1 50 pl (zthr (fo j))) (by omega) (zy_tr hy1 (zy_ui (by simp) (by decide) _ _ _)) (fun q hq => by rw [zui_n _ _ _ _ hq, e50]; exact h50 q hq) (fun b hb => by rw [e] at hb; cases hb; exact zui _ _ _ _)
            rw [e, ← show nI j + 1 = nI (j + 1) from nI_1 _] at h
            iterate 2 (refine ze_go1 rfl ?_)
            exact h
          refine ze_go1 rfl ?_
          cases hb0 : zm_bs fo S N j with
          | none =>
            refine ze_brT rfl (by decide) ?_
            rw [hb0] at take
            exact take rfl
          | some b =>
            have hbl := (zm_bs_lt fo S N j b hb0).1
            refine ze_brF rfl (nI_pos (by omega)) ?_
            refine ze_go1 rfl ?_
            refine ze_go2 rfl rfl ?_
            iterate 4 (refine ze_go1 rfl ?_)
            refine ze_go2 rfl rfl ?_
            iterate 2 (refine ze_go1 rfl ?_)
            rw [eg, ex]
            by_cases c2 : zm_g (fo b) * zm_x (fo j) < zm_g (fo j) * zm_x (fo b)
            · refine ze_brF rfl (fun z => zlc_le.1 z c2) ?_
              rw [hb0] at take
              exact take (decide_eq_true c2)
            · refine ze_brT rfl (zlc_le.2 c2) ?_
              rw [hb0] at skip
              refine skip ?_
              rw [est, hu, decide_eq_true c1, hb0, show zm_gr fo j (some b) = false from decide_eq_false c2]
              rfl
        · refine ze_brT rfl (zlc_lt.2 c1) ?_
          exact skip (by rw [est, decide_eq_false c1]; cases zm_ub (fo j) <;> rfl)
  have loop1 : ∀ n j τ, j + n = D.1 → zy [56, 57] [17, 18, 21, 22] σ τ →
      zE (d + 7) t_M_choose (fun v τ => v = some (.int (zbI (zm_ch fo D.1))) ∧ zy [50, 56, 57] [17, 18, 21, 22] σ τ ∧ (∀ q, q ≠ pl → τ.1 50 q = σ.1 50 q) ∧ ∀ a t, zchs D w m c = some (a, t) → τ.1 50 pl = t) (8, [some (.ref 64), some (.int (nI pl)), some (.int (nI m)), some (.long (zm_tc fo j).1), none, some (.int (nI (zm_tc fo j).2)), some (.int (nI j)), none, none, none, none, none], [], τ) := by
    intro n
    induction n with
    | zero =>
      intro j τ hj hy
      have ej : j = D.1 := by omega
      subst ej
      have hy2 : zy [50, 56, 57] [17, 18, 21, 22] σ τ := zy_wk hy (by simp) (by simp)
      obtain ⟨-, -, -, -, k5⟩ := keep τ hy2
      iterate 2 (refine ze_go1 rfl ?_)
      refine ze_go2 rfl rfl ?_
      rw [k5]
      refine ze_brT rfl (Int32.le_refl _) ?_
      iterate 8 (refine ze_go1 rfl ?_)
      rw [hS, hN]
      exact loop2 D.1 0 τ (by omega) hy2 (fun q _ => by rw [(hy.1 50 (by simp) (by decide)).1]) (fun b hb => by cases hb)
    | succ n ih =>
      intro j τ hj hy
      have hy2 : zy [50, 56, 57] [17, 18, 21, 22] σ τ := zy_wk hy (by simp) (by simp)
      obtain ⟨-, -, -, -, k5⟩ := keep τ hy2
      iterate 2 (refine ze_go1 rfl ?_)
      refine ze_go2 rfl rfl ?_
      rw [k5]
      refine ze_brF rfl (nI_ge (by omega) (by omega)) ?_
      iterate 4 (refine ze_go1 rfl ?_)
      refine ze_ca1 rfl ⟨rfl, rfl⟩ (hf τ j (by omega) hy2) (fun v τ1 h => ?_)
      obtain ⟨rfl, y1, q1⟩ := h
      have h := ih (j + 1) τ1 (by omega) (zy_tr hy y1)
      rw [show zm_tc fo (j + 1) = bif zm_ub (fo j) then ((zm_tc fo j).1 + zm_g (fo j), (zm_tc fo j).2 + 1) else zm_tc fo j from rfl, ← show nI j + 1 = nI (j + 1) from nI_1 _] at h
      cases hu : zm_ub (fo j) with
      | false =>
        rw [hu] at h
        refine ze_brT rfl rfl ?_
        iterate 2 (refine ze_go1 rfl ?_)
        exact h
      | true =>
        obtain ⟨q, eq, hq⟩ := q1 hu
        have eg : τ1.2 64 19 = zm_g (fo j) := by rw [hq.1, eq]; rfl
        rw [hu] at h
        refine ze_brF rfl (by decide) ?_
        iterate 2 (refine ze_go1 rfl ?_)
        refine ze_go2 rfl rfl ?_
        iterate 5 (refine ze_go1 rfl ?_)
        rw [eg, show nI (zm_tc fo j).2 + 1 = nI ((zm_tc fo j).2 + 1) from nI_1 _]
        exact h
  iterate 6 (refine ze_go1 rfl ?_)
  exact loop1 D.1 0 σ (by omega) (zy_rf _ _ _)
