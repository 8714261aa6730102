theorem zm_nv_ge {D : zD} (hd : zdok D) {a : Nat} {w : Nat → Nat} {x : Int32} (ha : a < D.1) (hx : -1 ≤ x) : ∀ j, j ≤ D.2.1 → (zm_nv (fun i => D.2.2.2.2 i a) w x j = -1 ∨ 0 ≤ zm_nv (fun i => D.2.2.2.2 i a) w x j) := by
  intro j hj
  rcases zm_nv_or (fun i => D.2.2.2.2 i a) w x j with h | ⟨i, hi, h, hl⟩
  · exact Or.inl h
  · right
    rw [h]
    rcases zval hd (i := i) (a := a) (by omega) ha with ⟨c, -⟩ | ⟨-, c, -⟩
    · have hl : x < D.2.2.2.2 i a := hl
      rw [c] at hl
      exact absurd hl (Int32.not_lt.2 hx)
    · exact c
set_option maxRecDepth 20000 in
theorem r_nextValue {d : Nat} {σ : ze_S} {D : zD} {pl a : Nat} {w : Nat → Nat} {x : Int32} (hd : zdok D) (hB : zBn σ D) (ha : a < D.1) (hp : pl < 193) (hw : zrw σ pl D.2.1 w) (hwb : ∀ i, i < D.2.1 → w i ≤ 720) (hx : -1 ≤ x) :
    zM (d + 1) m_M_nextValue [.ref 64, .int (nI pl), .int (nI a), .int x, .int (nI D.2.1)] σ (fun v τ => v = some (.int (zm_nv (fun i => D.2.2.2.2 i a) w x D.2.1)) ∧ τ = σ) := by
  have h4 := hd.1
  have h24 := hd.2.1
  refine zM_in t_M_nextValue [some (.ref 64), some (.int (nI pl)), some (.int (nI a)), some (.int x), some (.int (nI D.2.1)), none, none, none] rfl rfl ?_
  have loop : ∀ m j (o : Option Value), j + m = D.2.1 → zE d t_M_nextValue (fun v τ => v = some (.int (zm_nv (fun i => D.2.2.2.2 i a) w x D.2.1)) ∧ τ = σ) (6, [some (.ref 64), some (.int (nI pl)), some (.int (nI a)), some (.int x), some (.int (nI D.2.1)), some (.int (zm_nv (fun i => D.2.2.2.2 i a) w x j)), some (.int (nI j)), o], [], σ) := by
    intro m
    induction m with
    | zero =>
      intro j o hj
      have ej : j = D.2.1 := by omega
      subst ej
      iterate 2 (refine ze_go1 rfl ?_)
      refine ze_brT rfl (Int32.le_refl _) ?_
      refine ze_go1 rfl ?_
      exact ze_rt1 rfl trivial ⟨rfl, rfl⟩
    | succ m ih =>
      intro j o hj
      have hwj := hwb j (by omega)
      have hor := zm_nv_ge (w := w) hd ha hx j (by omega)
      iterate 2 (refine ze_go1 rfl ?_)
      refine ze_brF rfl (nI_ge (by omega) (by omega)) ?_
      refine ze_go1 rfl ?_
      refine ze_go2 rfl rfl ?_
      iterate 5 (refine ze_go1 rfl ?_)
      rw [zi4']
      refine ze_go2 rfl ⟨rfl, vp_in_nI (N := 96) (n := 4 * j + a) (by omega) (by omega)⟩ ?_
      rw [nI_clamp (n := 4 * j + a) (by omega), hB.2.2.2 j (by omega) a (by omega)]
      have h := ih (j + 1) (some (.int (D.2.2.2.2 j a))) (by omega)
      rw [← show nI j + 1 = nI (j + 1) from nI_1 _, show zm_nv (fun i => D.2.2.2.2 i a) w x (j + 1) = if 0 < w j ∧ x < D.2.2.2.2 j a ∧ (zm_nv (fun i => D.2.2.2.2 i a) w x j = -1 ∨ D.2.2.2.2 j a < zm_nv (fun i => D.2.2.2.2 i a) w x j) then D.2.2.2.2 j a else zm_nv (fun i => D.2.2.2.2 i a) w x j from rfl] at h
      iterate 2 (refine ze_go1 rfl ?_)
      refine ze_go2 rfl rfl ?_
      iterate 5 (refine ze_go1 rfl ?_)
      rw [zi24]
      refine ze_go2 rfl ⟨rfl, vp_in_nI (N := 4632) (n := 24 * pl + j) (by omega) (by omega)⟩ ?_
      rw [nI_clamp (n := 24 * pl + j) (by omega), hw j (by omega)]
      by_cases c1 : 0 < w j
      · refine ze_brF rfl (nI_nle c1 (by omega)) ?_
        iterate 2 (refine ze_go1 rfl ?_)
        refine ze_br1 rfl (fun c2 => ?_) (fun c2 => ?_)
        · iterate 2 (refine ze_go1 rfl ?_)
          rw [if_neg (fun q => Int32.not_le.mpr q.2.1 c2)] at h
          exact h
        · refine ze_go1 rfl ?_
          refine ze_br1 rfl (fun c3 => ?_) (fun c3 => ?_)
          · iterate 4 (refine ze_go1 rfl ?_)
            have c3' : zm_nv (fun i => D.2.2.2.2 i a) w x j = -1 := hor.elim id (fun z => absurd c3 (Int32.not_lt.2 z))
            rw [if_pos ⟨c1, Int32.not_le.mp c2, Or.inl c3'⟩] at h
            exact h
          · iterate 2 (refine ze_go1 rfl ?_)
            have c3' : ¬ zm_nv (fun i => D.2.2.2.2 i a) w x j = -1 := fun z => c3 (by rw [z]; decide)
            refine ze_br1 rfl (fun c4 => ?_) (fun c4 => ?_)
            · iterate 2 (refine ze_go1 rfl ?_)
              rw [if_neg (fun q => q.2.2.elim c3' (fun z => Int32.not_le.mpr z c4))] at h
              exact h
            · iterate 4 (refine ze_go1 rfl ?_)
              rw [if_pos ⟨c1, Int32.not_le.mp c2, Or.inr (Int32.not_le.mp c4)⟩] at h
              exact h
      · refine ze_brT rfl (by rw [show w j = 0 by omega]; exact Int32.le_refl _) ?_
        iterate 2 (refine ze_go1 rfl ?_)
        rw [if_neg (fun q => c1 q.1)] at h
        exact h
  iterate 4 (refine ze_go1 rfl ?_)
  exact loop D.2.1 0 none (by omega)
set_option maxRecDepth 20000 in
theorem r_valueUpTo {d : Nat} {σ : ze_S} {D : zD} {a : Nat} {x : Int32} (hd : zdok D) (hB : zBn σ D) (ha : a < D.1) :
    zM (d + 1) m_M_valueUpTo [.ref 64, .int (nI a), .int x, .int (nI D.2.1)] σ (fun v τ => v = some (.int (zm_vu (fun i => D.2.2.2.2 i a) x D.2.1)) ∧ τ = σ) := by
  have h4 := hd.1
  have h24 := hd.2.1
  refine zM_in t_M_valueUpTo [some (.ref 64), some (.int (nI a)), some (.int x), some (.int (nI D.2.1)), none, none, none] rfl rfl ?_
  have loop : ∀ m j (o : Option Value), j + m = D.2.1 → zE d t_M_valueUpTo (fun v τ => v = some (.int (zm_vu (fun i => D.2.2.2.2 i a) x D.2.1)) ∧ τ = σ) (6, [some (.ref 64), some (.int (nI a)), some (.int x), some (.int (nI D.2.1)), some (.int (zm_vu (fun i => D.2.2.2.2 i a) x j)), some (.int (nI j)), o], [], σ) := by
    intro m
    induction m with
    | zero =>
      intro j o hj
      have ej : j = D.2.1 := by omega
      subst ej
      iterate 2 (refine ze_go1 rfl ?_)
      refine ze_brT rfl (Int32.le_refl _) ?_
      refine ze_go1 rfl ?_
      exact ze_rt1 rfl trivial ⟨rfl, rfl⟩
    | succ m ih =>
      intro j o hj
      iterate 2 (refine ze_go1 rfl ?_)
      refine ze_brF rfl (nI_ge (by omega) (by omega)) ?_
      refine ze_go1 rfl ?_
      refine ze_go2 rfl rfl ?_
      iterate 5 (refine ze_go1 rfl ?_)
      rw [zi4']
      refine ze_go2 rfl ⟨rfl, vp_in_nI (N := 96) (n := 4 * j + a) (by omega) (by omega)⟩ ?_
      rw [nI_clamp (n := 4 * j + a) (by omega), hB.2.2.2 j (by omega) a (by omega)]
      have h := ih (j + 1) (some (.int (D.2.2.2.2 j a))) (by omega)
      rw [← show nI j + 1 = nI (j + 1) from nI_1 _, show zm_vu (fun i => D.2.2.2.2 i a) x (j + 1) = if D.2.2.2.2 j a ≤ x ∧ zm_vu (fun i => D.2.2.2.2 i a) x j < D.2.2.2.2 j a then D.2.2.2.2 j a else zm_vu (fun i => D.2.2.2.2 i a) x j from rfl] at h
      iterate 3 (refine ze_go1 rfl ?_)
      refine ze_br1 rfl (fun c1 => ?_) (fun c1 => ?_)
      · iterate 4 (refine ze_go1 rfl ?_)
        rw [if_neg (fun q => Int32.not_le.2 c1 q.1)] at h
        exact h
      · iterate 2 (refine ze_go1 rfl ?_)
        refine ze_br1 rfl (fun c2 => ?_) (fun c2 => ?_)
        · iterate 4 (refine ze_go1 rfl ?_)
          rw [if_neg (fun q => Int32.not_lt.2 c2 q.2)] at h
          exact h
        · iterate 5 (refine ze_go1 rfl ?_)
          rw [if_pos ⟨Int32.not_lt.1 c1, Int32.not_le.1 c2⟩] at h
          exact h
  iterate 4 (refine ze_go1 rfl ?_)
  exact loop D.2.1 0 none (by omega)
theorem zm_br_k {k : Nat} (hk : ¬ k = 0) (t t' : Int32) : zm_br k t = zm_br k t' := by
  funext v
  unfold zm_br
  rw [if_neg hk, if_neg hk]
theorem zpt_k {D : zD} {a : Nat} (hk : ¬ D.2.2.1 a = 0) (t t' : Int32) (w : Nat → Nat) : zpt D a t w = zpt D a t' w := by
  funext b
  unfold zpt zm_pt
  rw [zm_br_k hk t t']
theorem zgn_k {D : zD} {a : Nat} (hk : ¬ D.2.2.1 a = 0) (t t' : Int32) (w : Nat → Nat) : zgn D a t w = zgn D a t' w := by
  have e : ∀ b, zm_mx (D.2.2.1 a) t (fun i => D.2.2.2.2 i a) D.2.2.2.1 w D.2.1 b = zm_mx (D.2.2.1 a) t' (fun i => D.2.2.2.2 i a) D.2.2.2.1 w D.2.1 b := fun b => by
    funext c
    unfold zm_mx
    rw [zm_br_k hk t t']
  unfold zgn zm_gn
  rw [e 0, e 1, e 2, e 3]
theorem zspl_k {D : zD} {a : Nat} (hk : ¬ D.2.2.1 a = 0) (t t' : Int32) (w : Nat → Nat) : zspl D a t w = zspl D a t' w := by
  have e : zm_pu (D.2.2.1 a) t (fun i => D.2.2.2.2 i a) w D.2.1 = zm_pu (D.2.2.1 a) t' (fun i => D.2.2.2.2 i a) w D.2.1 := by
    funext b
    unfold zm_pu
    rw [show zm_pt (D.2.2.1 a) t (fun i => D.2.2.2.2 i a) w D.2.1 b = zm_pt (D.2.2.1 a) t' (fun i => D.2.2.2.2 i a) w D.2.1 b from congrFun (zpt_k hk t t' w) b]
  unfold zspl zm_sp
  rw [e]
def zMq (q : Int32 × Int64 × Int64) (τ : ze_S) : Prop := τ.2 64 19 = q.2.1 ∧ τ.2 64 20 = q.2.2 ∧ τ.1 64 22 = q.1
def zts (D : zD) (a : Nat) (w : Nat → Nat) (m : Nat) : zO := zm_ts (D.2.2.1 a) (fun i => D.2.2.2.2 i a) D.2.2.2.1 w D.2.1 m
/-- what the test of an attribute leaves behind -/
def zMT (D : zD) (a : Nat) (w : Nat → Nat) (m : Nat) (σ : ze_S) : ze_P := fun v τ => zy [56, 57] [17, 18, 21, 22] σ τ ∧ ((v = some (.int 0) ∧ zts D a w m = none) ∨ (v = some (.int 1) ∧ ∃ q, zts D a w m = some q ∧ zMq q τ))
set_option maxRecDepth 20000 in
set_option maxHeartbeats 2000000 in
theorem r_measureCuts {d : Nat} {σ : ze_S} {D : zD} {pl a m : Nat} {w : Nat → Nat} (hd : zdok D) (hB : zBn σ D) (ha : a < D.1) (hk : D.2.2.1 a = 0) (hp : pl < 193) (hw : zrw σ pl D.2.1 w) (hwb : ∀ i, i < D.2.1 → w i ≤ 720) (hm : m ≤ 5) (h22 : σ.1 64 22 = -1) :
    zM (d + 5) m_M_measureCuts [.ref 64, .int (nI pl), .int (nI a), .int (nI D.2.1), .int (nI m)] σ (zMT D a w m σ) := by
  refine zM_in t_M_measureCuts [some (.ref 64), some (.int (nI pl)), some (.int (nI a)), some (.int (nI D.2.1)), some (.int (nI m)), none, none, none, none, none, none, none] rfl rfl ?_
  have ept : ∀ t, zpt D a t w = zm_pt 0 t (fun i => D.2.2.2.2 i a) w D.2.1 := fun t => by unfold zpt; rw [hk]
  have egn : ∀ t, zgn D a t w = zm_gn 0 t (fun i => D.2.2.2.2 i a) D.2.2.2.1 w D.2.1 := fun t => by unfold zgn; rw [hk]
  have esp : ∀ t, zspl D a t w = zm_sp 0 t (fun i => D.2.2.2.2 i a) w D.2.1 := fun t => by unfold zspl; rw [hk]
  have keep : ∀ τ, zy [56, 57] [17, 18, 21, 22] σ τ → zBn τ D ∧ zrw τ pl D.2.1 w := fun τ hy => ⟨zBn_y hB hy (by simp) (by simp), fun i hi => by rw [(hy.1 55 (by simp) (by decide)).1]; exact hw i hi⟩
  have fin : ∀ (r : Nat × Int64 × Int32) τ o8 o9 o10 o11, r.1 ≤ 24 → zm_cl (fun i => D.2.2.2.2 i a) D.2.2.2.1 w D.2.1 m 24 (zm_nv (fun i => D.2.2.2.2 i a) w (-1) D.2.1) (0, 0, -1) = r → zy [56, 57] [17, 18, 21, 22] σ τ → τ.1 64 22 = r.2.2 →
      zE (d + 4) t_M_measureCuts (zMT D a w m σ) (135, [some (.ref 64), some (.int (nI pl)), some (.int (nI a)), some (.int (nI D.2.1)), some (.int (nI m)), some (.int (nI r.1)), some (.long r.2.1), none, o8, o9, o10, o11], [], τ) := by
    intro r τ o8 o9 o10 o11 hr er hy h22
    have ets : zts D a w m = if r.1 = 0 then none else some (r.2.2, r.2.1 - 720 * (nI (zm_log r.1)).toInt64, zm_sp 0 r.2.2 (fun i => D.2.2.2.2 i a) w D.2.1) := by
      unfold zts zm_ts
      rw [if_pos hk, er]
    refine ze_go1 rfl ?_
    by_cases c : r.1 = 0
    · refine ze_brF rfl (by rw [c]; decide) ?_
      refine ze_go1 rfl ?_
      rw [if_pos c] at ets
      exact ze_rt1 rfl (Or.inl rfl) ⟨hy, Or.inl ⟨rfl, ets⟩⟩
    · refine ze_brT rfl (nI_ne0 (by omega) (by omega)) ?_
      obtain ⟨hB2, hw2⟩ := keep τ hy
      rw [if_neg c] at ets
      iterate 4 (refine ze_go1 rfl ?_)
      refine ze_go2 rfl rfl ?_
      iterate 2 (refine ze_go1 rfl ?_)
      rw [h22]
      refine ze_ca1 rfl ⟨rfl, rfl⟩ (ze_M_le (r_measure (d := 0) hd hB2 ha hp hw2 hwb hm) (by omega)) (fun v τ2 h => ?_)
      obtain ⟨rfl, y2, ms⟩ := h
      iterate 4 (refine ze_go1 rfl ?_)
      refine ze_ca1 rfl rfl (ze_M_le (r_log (d := 0) (n := r.1) (by omega) (by omega)) (by omega)) (fun v ρ h => ?_)
      obtain ⟨rfl, rfl⟩ := h
      iterate 3 (refine ze_go1 rfl ?_)
      refine ze_go2 rfl rfl ?_
      refine ze_go1 rfl ?_
      refine ze_rt1 rfl (Or.inr rfl) ⟨zy_tr hy (zy_tr (zy_wk y2 (by simp) (by simp)) (zy_ul _ _ _)), Or.inr ⟨rfl, _, ets, zul _ _ _ _, ?_, ?_⟩⟩
      · rw [zul_n _ _ _ _ (by decide), ms.2.2.2.1, esp]
      · show ρ.1 64 22 = _
        rw [y2.2 22 (by simp), h22]
  have out : ∀ (r : Nat × Int64 × Int32) (x : Int32) j τ o10 o11, x < 0 → r.1 ≤ 24 → zm_cl (fun i => D.2.2.2.2 i a) D.2.2.2.1 w D.2.1 m 24 (zm_nv (fun i => D.2.2.2.2 i a) w (-1) D.2.1) (0, 0, -1) = r → zy [56, 57] [17, 18, 21, 22] σ τ → τ.1 64 22 = r.2.2 →
      zE (d + 4) t_M_measureCuts (zMT D a w m σ) (19, [some (.ref 64), some (.int (nI pl)), some (.int (nI a)), some (.int (nI D.2.1)), some (.int (nI m)), some (.int (nI r.1)), some (.long r.2.1), none, some (.int x), some (.int j), o10, o11], [], τ) := by
    intro r x j τ o10 o11 hx hr er hy h22
    iterate 2 (refine ze_go1 rfl ?_)
    refine ze_br1 rfl (fun _ => fin r τ _ _ _ _ hr er hy h22) (fun _ => ?_)
    refine ze_go1 rfl ?_
    exact ze_brT rfl hx (fin r τ _ _ _ _ hr er hy h22)
  have loop : ∀ f j (x : Int32) (r : Nat × Int64 × Int32) τ o10 o11, j + f = 24 → 0 ≤ x → r.1 ≤ j → zm_cl (fun i => D.2.2.2.2 i a) D.2.2.2.1 w D.2.1 m 24 (zm_nv (fun i => D.2.2.2.2 i a) w (-1) D.2.1) (0, 0, -1) = zm_cl (fun i => D.2.2.2.2 i a) D.2.2.2.1 w D.2.1 m f x r → zy [56, 57] [17, 18, 21, 22] σ τ → τ.1 64 22 = r.2.2 →
      zE (d + 4) t_M_measureCuts (zMT D a w m σ) (19, [some (.ref 64), some (.int (nI pl)), some (.int (nI a)), some (.int (nI D.2.1)), some (.int (nI m)), some (.int (nI r.1)), some (.long r.2.1), none, some (.int x), some (.int (nI j)), o10, o11], [], τ) := by
    intro f
    induction f with
    | zero =>
      intro j x r τ o10 o11 hj hx hr er hy h22
      iterate 2 (refine ze_go1 rfl ?_)
      refine ze_brT rfl (nI_le (a := 24) (by omega) (by omega)) ?_
      exact fin r τ _ _ _ _ (by omega) er hy h22
    | succ f ih =>
      intro j x r τ o10 o11 hj hx hr er hy h22
      obtain ⟨hB2, hw2⟩ := keep τ hy
      have hx1 : -1 ≤ x := Int32.le_trans (by decide) hx
      have er2 : zm_cl (fun i => D.2.2.2.2 i a) D.2.2.2.1 w D.2.1 m (f + 1) x r = if zm_nv (fun i => D.2.2.2.2 i a) w x D.2.1 < 0 then r else zm_cl (fun i => D.2.2.2.2 i a) D.2.2.2.1 w D.2.1 m f (zm_nv (fun i => D.2.2.2.2 i a) w x D.2.1) (zm_of (fun i => D.2.2.2.2 i a) D.2.2.2.1 w D.2.1 m (zm_vu (fun i => D.2.2.2.2 i a) ((x + zm_nv (fun i => D.2.2.2.2 i a) w x D.2.1) / 2) D.2.1) r) := rfl
      rw [er2] at er
      iterate 2 (refine ze_go1 rfl ?_)
      refine ze_brF rfl (nI_ge (b := 24) (by omega) (by omega)) ?_
      refine ze_go1 rfl ?_
      refine ze_brF rfl (Int32.not_lt.2 hx) ?_
      iterate 5 (refine ze_go1 rfl ?_)
      refine ze_ca1 rfl ⟨rfl, rfl⟩ (ze_M_le (r_nextValue (d := 0) hd hB2 ha hp hw2 hwb hx1) (by omega)) (fun v ρ h => ?_)
      obtain ⟨rfl, rfl⟩ := h
      generalize zm_nv (fun i => D.2.2.2.2 i a) w x D.2.1 = y at er
      iterate 2 (refine ze_go1 rfl ?_)
      refine ze_br1 rfl (fun c => ?_) (fun c => ?_)
      · rw [if_pos c] at er
        iterate 4 (refine ze_go1 rfl ?_)
        exact out r y _ ρ _ _ c (by omega) er hy h22
      · rw [if_neg c] at er
        iterate 6 (refine ze_go1 rfl ?_)
        refine ze_go2 rfl (by decide) ?_
        refine ze_go1 rfl ?_
        refine ze_ca1 rfl ⟨rfl, rfl⟩ (ze_M_le (r_valueUpTo (d := 0) hd hB2 ha) (by omega)) (fun v ρ' h => ?_)
        obtain ⟨rfl, rfl⟩ := h
        generalize zm_vu (fun i => D.2.2.2.2 i a) ((x + y) / 2) D.2.1 = t at er
        iterate 7 (refine ze_go1 rfl ?_)
        refine ze_ca1 rfl ⟨rfl, rfl⟩ (ze_M_le (r_measure (d := 0) hd hB2 ha hp hw2 hwb hm) (by omega)) (fun v τ2 h => ?_)
        obtain ⟨rfl, y2, ms⟩ := h
        have hy2 : zy [56, 57] [17, 18, 21, 22] σ τ2 := zy_tr hy (zy_wk y2 (by simp) (by simp))
        have k22 : τ2.1 64 22 = r.2.2 := by rw [y2.2 22 (by simp)]; exact h22
        have m21 := ms.2.2.2.2
        have m19 := ms.2.2.1
        rw [ept] at m21
        rw [egn] at m19
        unfold zm_of at er
        refine ze_go1 rfl ?_
        refine ze_go2 rfl rfl ?_
        by_cases c2 : 2 ≤ zm_ct (zm_pt 0 t (fun i => D.2.2.2.2 i a) w D.2.1) m 4
        · rw [if_pos c2] at m21 er
          rw [m21]
          refine ze_brF rfl (by decide) ?_
          have fin2 : ∀ (r' : Nat × Int64 × Int32) τ3, r'.1 = r.1 → τ3.1 64 21 = 1 → zy [56, 57] [17, 18, 21, 22] σ τ3 → τ3.1 64 22 = r'.2.2 → zm_cl (fun i => D.2.2.2.2 i a) D.2.2.2.1 w D.2.1 m 24 (zm_nv (fun i => D.2.2.2.2 i a) w (-1) D.2.1) (0, 0, -1) = zm_cl (fun i => D.2.2.2.2 i a) D.2.2.2.1 w D.2.1 m f y (r'.1 + 1, r'.2) →
              zE (d + 4) t_M_measureCuts (zMT D a w m σ) (107, [some (.ref 64), some (.int (nI pl)), some (.int (nI a)), some (.int (nI D.2.1)), some (.int (nI m)), some (.int (nI r'.1)), some (.long r'.2.1), none, some (.int x), some (.int (nI j)), some (.int y), some (.int t)], [], τ3) := by
            intro r' τ3 hr' k21 hy3 k223 er3
            refine ze_go1 rfl ?_
            refine ze_go2 rfl rfl ?_
            rw [k21]
            refine ze_brF rfl (by decide) ?_
            iterate 9 (refine ze_go1 rfl ?_)
            rw [show nI r'.1 + 1 = nI (r'.1 + 1) from nI_1 _]
            have h := ih (j + 1) y (r'.1 + 1, r'.2) τ3 (some (.int y)) (some (.int t)) (by omega) (Int32.not_lt.1 c) (by show r'.1 + 1 ≤ j + 1; omega) er3 hy3 k223
            rw [← show nI j + 1 = nI (j + 1) from nI_1 _] at h
            exact h
          have take : (r.1 = 0 ∨ r.2.1 < zm_gn 0 t (fun i => D.2.2.2.2 i a) D.2.2.2.1 w D.2.1) → zE (d + 4) t_M_measureCuts (zMT D a w m σ) (95, [some (.ref 64), some (.int (nI pl)), some (.int (nI a)), some (.int (nI D.2.1)), some (.int (nI m)), some (.int (nI r.1)), some (.long r.2.1), none, some (.int x), some (.int (nI j)), some (.int y), some (.int t)], [], τ2) := by
            intro hc
            refine ze_go1 rfl ?_
            refine ze_go2 rfl rfl ?_
            iterate 3 (refine ze_go1 rfl ?_)
            refine ze_go2 rfl rfl ?_
            rw [m19]
            rw [if_pos hc] at er
            exact fin2 (r.1, zm_gn 0 t (fun i => D.2.2.2.2 i a) D.2.2.2.1 w D.2.1, t) (ze_ui τ2 64 22 t) rfl (by rw [zui_n _ _ _ _ (by decide)]; exact m21) (zy_tr hy2 (zy_uo (by simp) _ _)) (zui _ _ _ _) er
          refine ze_go1 rfl ?_
          by_cases c3 : r.1 = 0
          · refine ze_brT rfl (by rw [c3]; rfl) ?_
            exact take (Or.inl c3)
          · refine ze_brF rfl (nI_ne0 (by omega) (by omega)) ?_
            refine ze_go1 rfl ?_
            refine ze_go2 rfl rfl ?_
            iterate 2 (refine ze_go1 rfl ?_)
            rw [m19]
            by_cases c4 : r.2.1 < zm_gn 0 t (fun i => D.2.2.2.2 i a) D.2.2.2.1 w D.2.1
            · refine ze_brF rfl (fun z => zlc_le.1 z c4) ?_
              exact take (Or.inr c4)
            · refine ze_brT rfl (zlc_le.2 c4) ?_
              rw [if_neg (fun z => z.elim c3 c4)] at er
              exact fin2 r τ2 rfl m21 hy2 k22 er
        · rw [if_neg c2] at m21 er
          rw [m21]
          refine ze_brT rfl (by decide) ?_
          refine ze_go1 rfl ?_
          refine ze_go2 rfl rfl ?_
          rw [m21]
          refine ze_brT rfl (by decide) ?_
          iterate 6 (refine ze_go1 rfl ?_)
          have h := ih (j + 1) y r τ2 (some (.int y)) (some (.int t)) (by omega) (Int32.not_lt.1 c) (by omega) er hy2 k22
          rw [← show nI j + 1 = nI (j + 1) from nI_1 _] at h
          exact h
  iterate 9 (refine ze_go1 rfl ?_)
  refine ze_ca1 rfl ⟨rfl, rfl⟩ (ze_M_le (r_nextValue (d := 0) (x := -1) hd hB ha hp hw hwb (by decide)) (by omega)) (fun v ρ h => ?_)
  obtain ⟨rfl, rfl⟩ := h
  iterate 3 (refine ze_go1 rfl ?_)
  by_cases c : zm_nv (fun i => D.2.2.2.2 i a) w (-1) D.2.1 < 0
  · refine out (0, 0, -1) _ _ ρ _ _ c (by decide) ?_ (zy_rf _ _ _) h22
    have e1 : zm_nv (fun i => D.2.2.2.2 i a) w (-1) D.2.1 = -1 := (zm_nv_ge (w := w) hd ha (by decide) D.2.1 (Nat.le_refl _)).elim id (fun z => absurd c (Int32.not_lt.2 z))
    show (if zm_nv (fun i => D.2.2.2.2 i a) w (zm_nv (fun i => D.2.2.2.2 i a) w (-1) D.2.1) D.2.1 < 0 then _ else _) = _
    rw [e1, if_pos (by rw [e1]; decide)]
  · exact loop 24 0 _ (0, 0, -1) ρ _ _ rfl (Int32.not_lt.1 c) (Nat.le_refl _) rfl (zy_rf _ _ _) h22
theorem zMT_y {D : zD} {a m : Nat} {w : Nat → Nat} {σ σ' : ze_S} {v : Option Value} {τ : ze_S} (h : zMT D a w m σ' v τ) (hy : zy [56, 57] [17, 18, 21, 22] σ σ') : zMT D a w m σ v τ := ⟨zy_tr hy h.1, h.2⟩
theorem r_measureTest {d : Nat} {σ : ze_S} {D : zD} {pl a m : Nat} {w : Nat → Nat} (hd : zdok D) (hB : zBn σ D) (ha : a < D.1) (hp : pl < 193) (hw : zrw σ pl D.2.1 w) (hwb : ∀ i, i < D.2.1 → w i ≤ 720) (hm : m ≤ 5) :
    zM (d + 6) m_M_measureTest [.ref 64, .int (nI pl), .int (nI a), .int (nI D.2.1), .int (nI m)] σ (zMT D a w m σ) := by
  have h4 := hd.1
  have hkk := hd.2.2.1 a ha
  refine zM_in t_M_measureTest [some (.ref 64), some (.int (nI pl)), some (.int (nI a)), some (.int (nI D.2.1)), some (.int (nI m))] rfl rfl ?_
  iterate 2 (refine ze_go1 rfl ?_)
  refine ze_go2 rfl rfl ?_
  refine ze_go1 rfl ?_
  refine ze_go2 rfl rfl ?_
  refine ze_go1 rfl ?_
  refine ze_go2 rfl ⟨rfl, vp_in_nI (N := 4) (n := a) (by omega) (by omega)⟩ ?_
  have y1 : zy [56, 57] [17, 18, 21, 22] σ (ze_ui σ 64 22 (-1)) := zy_uo (by simp) _ _
  have k22 : (ze_ui σ 64 22 (-1)).1 64 22 = -1 := zui _ _ _ _
  generalize ze_ui σ 64 22 (-1) = τ at y1 k22
  have hB2 : zBn τ D := zBn_y hB y1 (by simp) (by simp)
  have hw2 : zrw τ pl D.2.1 w := fun i hi => by rw [(y1.1 55 (by simp) (by decide)).1]; exact hw i hi
  rw [nI_clamp (n := a) (by omega), hB2.2.1 a ha]
  by_cases hk : D.2.2.1 a = 0
  · refine ze_brF rfl (by rw [hk]; decide) ?_
    iterate 5 (refine ze_go1 rfl ?_)
    refine ze_ca1 rfl ⟨rfl, rfl⟩ (ze_M_le (r_measureCuts (d := 0) hd hB2 ha hk hp hw2 hwb hm k22) (by omega)) (fun v τ2 h => ?_)
    have h := zMT_y h y1
    rcases h.2 with ⟨rfl, c⟩ | ⟨rfl, c⟩
    · exact ze_rt1 rfl (Or.inl rfl) h
    · exact ze_rt1 rfl (Or.inr rfl) h
  · refine ze_brT rfl (nI_ne0 (by omega) (by omega)) ?_
    iterate 6 (refine ze_go1 rfl ?_)
    refine ze_ca1 rfl ⟨rfl, rfl⟩ (ze_M_le (r_measure (d := 0) hd hB2 ha hp hw2 hwb hm) (by omega)) (fun v τ2 h => ?_)
    obtain ⟨rfl, y2, ms⟩ := h
    have m21 := ms.2.2.2.2
    rw [zpt_k hk 0 (-1)] at m21
    have y3 : zy [56, 57] [17, 18, 21, 22] σ τ2 := zy_tr y1 (zy_wk y2 (by simp) (by simp))
    have ets : zts D a w m = if 2 ≤ zm_ct (zpt D a (-1) w) m 4 then some (-1, zgn D a (-1) w, zspl D a (-1) w) else none := by
      unfold zts zm_ts
      rw [if_neg hk]
      rfl
    refine ze_go1 rfl ?_
    refine ze_go2 rfl rfl ?_
    by_cases c : 2 ≤ zm_ct (zpt D a (-1) w) m 4
    · rw [if_pos c] at m21 ets
      rw [m21]
      refine ze_rt1 rfl (Or.inr rfl) ⟨y3, Or.inr ⟨rfl, _, ets, ?_, ?_, ?_⟩⟩
      · rw [ms.2.2.1]; exact zgn_k hk _ _ _
      · rw [ms.2.2.2.1]; exact zspl_k hk _ _ _
      · rw [y2.2 22 (by simp)]; exact k22
    · rw [if_neg c] at m21 ets
      rw [m21]
      exact ze_rt1 rfl (Or.inl rfl) ⟨y3, Or.inl ⟨rfl, ets⟩⟩
