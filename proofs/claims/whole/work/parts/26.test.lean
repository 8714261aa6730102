theorem zm_s3 (f : Nat → Nat) : zm_s f 3 = f 0 + f 1 + f 2 := by
  show 0 + f 0 + f 1 + f 2 = _
  omega
theorem zm_s4 (f : Nat → Nat) : zm_s f 4 = f 0 + f 1 + f 2 + f 3 := by
  show 0 + f 0 + f 1 + f 2 + f 3 = _
  omega
theorem zm_s5 (f : Nat → Nat) : zm_s f 5 = f 0 + f 1 + f 2 + f 3 + f 4 := by
  show 0 + f 0 + f 1 + f 2 + f 3 + f 4 = _
  omega
theorem zm_kc_sum {v : Nat → Int32} {T w : Nat → Nat} {n : Nat} (hT : ∀ i, i < n → T i < 3) : zm_s (zm_kc v T w n) 3 = zm_kn v w n := by
  rw [zm_s3]
  unfold zm_kc zm_kn
  rw [← zm_s_add, ← zm_s_add]
  refine zm_s_eq fun i hi => ?_
  have := hT i hi
  by_cases h : 0 ≤ v i
  · rcases (show T i = 0 ∨ T i = 1 ∨ T i = 2 by omega) with q | q | q <;> simp [q, h]
  · simp [h]
theorem zm_mc_sum {k : Nat} {t : Int32} {v : Nat → Int32} {T w : Nat → Nat} {n : Nat} (b : Nat) (hT : ∀ i, i < n → T i < 3) : zm_s (zm_mx k t v T w n b) 3 = zm_pt k t v w n b := by
  rw [zm_s3]
  unfold zm_mx zm_pt
  rw [← zm_s_add, ← zm_s_add]
  refine zm_s_eq fun i hi => ?_
  have := hT i hi
  by_cases h : 0 ≤ v i ∧ zm_br k t (v i) = b
  · rcases (show T i = 0 ∨ T i = 1 ∨ T i = 2 by omega) with q | q | q <;> simp [q, h.1, h.2]
  · rcases (show T i = 0 ∨ T i = 1 ∨ T i = 2 by omega) with q | q | q <;> simp [q] <;> omega
theorem zm_w_le {w : Nat → Nat} {n : Nat} (hn : n ≤ 24) (hw : ∀ i, i < n → w i ≤ 720) : zm_s w n ≤ 17280 := by
  have := zm_s_bd hw
  have : 720 * n ≤ 720 * 24 := Nat.mul_le_mul_left _ hn
  omega
theorem zm_kn_le {v : Nat → Int32} {w : Nat → Nat} {n : Nat} : zm_kn v w n ≤ zm_s w n := by
  have := zm_ku (v := v) (w := w) (n := n)
  omega
theorem zm_pt_le {k : Nat} {t : Int32} {v : Nat → Int32} {w : Nat → Nat} {n b : Nat} : zm_pt k t v w n b ≤ zm_kn v w n := by
  refine zm_s_le fun i _ => ?_
  by_cases h : 0 ≤ v i
  · simp only [h, true_and, if_true]
    split <;> omega
  · simp [h]
def zm_ts (k : Nat) (v : Nat → Int32) (T w : Nat → Nat) (n m : Nat) : Option (Int32 × Int64 × Int64) :=
  if k = 0 then
    (if (zm_cl v T w n m 24 (zm_nv v w (-1) n) (0, 0, -1)).1 = 0 then none
     else some ((zm_cl v T w n m 24 (zm_nv v w (-1) n) (0, 0, -1)).2.2, (zm_cl v T w n m 24 (zm_nv v w (-1) n) (0, 0, -1)).2.1 - 720 * (nI (zm_log (zm_cl v T w n m 24 (zm_nv v w (-1) n) (0, 0, -1)).1)).toInt64, zm_sp 0 (zm_cl v T w n m 24 (zm_nv v w (-1) n) (0, 0, -1)).2.2 v w n))
  else (if 2 ≤ zm_ct (zm_pt k (-1) v w n) m 4 then some (-1, zm_gn k (-1) v T w n, zm_sp k (-1) v w n) else none)
theorem e_isValid {d : Nat} {σ : ze_S} {p : Nat → Nat} {m : Nat} (hp : ∀ b, b < 4 → σ.1 5 b = nI (p b)) (hpb : ∀ b, b < 4 → p b ≤ 17280) (hm : m ≤ 5) :
    zM (d + 1) m_Te_isValid [.ref 31, .int (nI m)] σ (fun v τ => v = some (.int (if 2 ≤ zm_ct p m 4 then 1 else 0)) ∧ τ = σ) := by
  refine zM_in t_Te_isValid [some (.ref 31), some (.int (nI m)), none, none] rfl rfl ?_
  have hle : ∀ b, zm_ct p m b ≤ b := by
    intro b
    induction b with
    | zero => exact Nat.le_refl _
    | succ b ih =>
      unfold zm_ct
      split <;> omega
  have loop : ∀ q j, j + q = 4 → zE d t_Te_isValid (fun v τ => v = some (.int (if 2 ≤ zm_ct p m 4 then 1 else 0)) ∧ τ = σ) (4, [some (.ref 31), some (.int (nI m)), some (.int (nI (zm_ct p m j))), some (.int (nI j))], [], σ) := by
    intro q
    induction q with
    | zero =>
      intro j hj
      have ej : j = 4 := by omega
      subst ej
      have h4 := hle 4
      iterate 2 (refine ze_go1 rfl ?_)
      refine ze_brT rfl (by decide) ?_
      iterate 2 (refine ze_go1 rfl ?_)
      by_cases c : 2 ≤ zm_ct p m 4
      · refine ze_brF rfl (nI_nlt (b := 2) c (by omega)) ?_
        iterate 2 (refine ze_go1 rfl ?_)
        refine ze_rt1 rfl (Or.inr rfl) ⟨?_, rfl⟩
        rw [if_pos c]
      · refine ze_brT rfl (nI_lt (b := 2) (by omega) (by decide)) ?_
        refine ze_go1 rfl ?_
        refine ze_rt1 rfl (Or.inl rfl) ⟨?_, rfl⟩
        rw [if_neg c]
    | succ q ih =>
      intro j hj
      have hb := hpb j (by omega)
      have e1 : σ.1 5 (nI j).toNatClampNeg = nI (p j) := by rw [nI_clamp (by omega), hp j (by omega)]
      have e2 : (720 : Int32) * nI m = nI (720 * m) := pk_mul 720 m
      have h := ih (j + 1) (by omega)
      rw [← show nI j + 1 = nI (j + 1) from nI_1 _, show zm_ct p m (j + 1) = if 720 * m ≤ p j then zm_ct p m j + 1 else zm_ct p m j from rfl] at h
      iterate 2 (refine ze_go1 rfl ?_)
      refine ze_brF rfl (nI_ge (b := 4) (by omega) (by decide)) ?_
      refine ze_go1 rfl ?_
      refine ze_go2 rfl rfl ?_
      refine ze_go1 rfl ?_
      refine ze_go2 rfl ⟨rfl, vp_in_nI (N := 5) (by omega) (by omega)⟩ ?_
      iterate 3 (refine ze_go1 rfl ?_)
      rw [e1, e2]
      by_cases c : 720 * m ≤ p j
      · refine ze_brF rfl (nI_nlt c (by omega)) ?_
        iterate 3 (refine ze_go1 rfl ?_)
        rw [if_pos c, ← show nI (zm_ct p m j) + 1 = nI (zm_ct p m j + 1) from nI_1 _] at h
        exact h
      · refine ze_brT rfl (nI_lt (by omega) (by omega)) ?_
        iterate 2 (refine ze_go1 rfl ?_)
        rw [if_neg c] at h
        exact h
  iterate 4 (refine ze_go1 rfl ?_)
  exact loop 4 0 rfl
/-- a finding: nothing, or threshold, gain and split -/
def zFd (τ : ze_S) (k : Nat) (o : Option (Int32 × Int64 × Int64)) : Prop := match o with
  | none => τ.1 k 0 = 0
  | some q => τ.1 k 0 = 1 ∧ τ.1 k 1 = q.1 ∧ τ.2 k 2 = q.2.1 ∧ τ.2 k 3 = q.2.2
theorem zFd_eq {σ τ : ze_S} {k : Nat} {o : Option (Int32 × Int64 × Int64)} (h : zFd σ k o) (h1 : τ.1 k = σ.1 k) (h2 : τ.2 k = σ.2 k) : zFd τ k o := by
  unfold zFd
  rw [h1, h2]
  exact h
def zm_up (o : Option (Int32 × Int64 × Int64)) (q : Int32 × Int64 × Int64) : Option (Int32 × Int64 × Int64) := match o with
  | none => some q
  | some p => if p.2.1 < q.2.1 then some q else some p
theorem zk_fi {kf : Nat} (hk : 35 ≤ kf ∧ kf < 39) : ze_cl kf = 2 := by
  rcases (show kf = 35 ∨ kf = 36 ∨ kf = 37 ∨ kf = 38 by omega) with h | h | h | h <;> subst h <;> rfl
set_option maxRecDepth 20000 in
set_option maxHeartbeats 1000000 in
theorem e_offer {d : Nat} {σ : ze_S} {D : zD} {a kf : Nat} {t : Int32} {w : Nat → Nat} {o : Option (Int32 × Int64 × Int64)} (hd : zdok D) (hw : ∀ i, i < D.2.1 → w i ≤ 720) (hbr : ∀ i, i < D.2.1 → 0 ≤ D.2.2.2.2 i a → zm_br (D.2.2.1 a) t (D.2.2.2.2 i a) < 4) (hT : zTal D a t w D.2.1 σ) (hk : 35 ≤ kf ∧ kf < 39) (hF : zFd σ kf o) :
    zM (d + 3) m_Te_offer [.ref 31, .ref kf, .int t] σ (fun v τ => v = none ∧ zx [kf] σ τ ∧ zFd τ kf (zm_up o (t, zm_gn (D.2.2.1 a) t (fun i => D.2.2.2.2 i a) D.2.2.2.1 w D.2.1, zm_sp (D.2.2.1 a) t (fun i => D.2.2.2.2 i a) w D.2.1))) := by
  have hkf := zk_fi hk
  have hT3 := hd.2.2.2.1
  have hW := zm_w_le hd.2.1 hw
  have hkn := zm_kn_le (v := fun i => D.2.2.2.2 i a) (w := w) (n := D.2.1)
  obtain ⟨t1, t2, t3, t4⟩ := hT
  refine zM_in t_Te_offer [some (.ref 31), some (.ref kf), some (.int t), none, none, none] rfl rfl ?_
  refine ze_go1 rfl ?_
  refine ze_go2 rfl rfl ?_
  iterate 2 (refine ze_go1 rfl ?_)
  refine ze_ca1 rfl rfl (e_info (k := 3) (a := 0) (n := 3) (f := zm_kc (fun i => D.2.2.2.2 i a) D.2.2.2.1 w D.2.1) rfl (by decide) (fun i hi => by rw [Nat.zero_add]; exact t3 i hi) (by rw [zm_kc_sum hT3]; omega)) (fun v τ h => ?_)
  obtain ⟨rfl, rfl⟩ := h
  have stp : ∀ j (x : Int64), j < 4 → zE (d + 2) t_Te_offer (fun v υ => v = none ∧ zx [kf] τ υ ∧ zFd υ kf (zm_up o (t, zm_gn (D.2.2.1 a) t (fun i => D.2.2.2.2 i a) D.2.2.2.1 w D.2.1, zm_sp (D.2.2.1 a) t (fun i => D.2.2.2.2 i a) w D.2.1))) (13, [some (.ref 31), some (.ref kf), some (.int t), some (.long (x - zm_info (zm_mx (D.2.2.1 a) t (fun i => D.2.2.2.2 i a) D.2.2.2.1 w D.2.1 j) 3)), none, some (.int (nI (j + 1)))], [], τ) → zE (d + 2) t_Te_offer (fun v υ => v = none ∧ zx [kf] τ υ ∧ zFd υ kf (zm_up o (t, zm_gn (D.2.2.1 a) t (fun i => D.2.2.2.2 i a) D.2.2.2.1 w D.2.1, zm_sp (D.2.2.1 a) t (fun i => D.2.2.2.2 i a) w D.2.1))) (13, [some (.ref 31), some (.ref kf), some (.int t), some (.long x), none, some (.int (nI j))], [], τ) := by
    intro j x hj h
    have hpt := zm_pt_le (k := D.2.2.1 a) (t := t) (v := fun i => D.2.2.2.2 i a) (w := w) (n := D.2.1) (b := j)
    have e3 : nI j * 3 = nI (3 * j) := by have := zi3 j 0; rwa [show nI 0 = 0 from rfl, Int32.add_zero] at this
    iterate 2 (refine ze_go1 rfl ?_)
    refine ze_brF rfl (nI_ge (b := 4) hj (by decide)) ?_
    iterate 2 (refine ze_go1 rfl ?_)
    refine ze_go2 rfl rfl ?_
    iterate 4 (refine ze_go1 rfl ?_)
    rw [e3]
    refine ze_ca1 rfl rfl (e_info (k := 4) (a := 3 * j) (n := 3) (f := zm_mx (D.2.2.1 a) t (fun i => D.2.2.2.2 i a) D.2.2.2.1 w D.2.1 j) rfl (by show 3 * j + 3 ≤ 12; omega) (fun i hi => t4 j hj i hi) (by rw [zm_mc_sum j hT3]; omega)) (fun v υ h2 => ?_)
    obtain ⟨rfl, rfl⟩ := h2
    iterate 4 (refine ze_go1 rfl ?_)
    rw [← show nI j + 1 = nI (j + 1) from nI_1 _] at h
    exact h
  iterate 3 (refine ze_go1 rfl ?_)
  refine stp 0 _ (by decide) (stp 1 _ (by decide) (stp 2 _ (by decide) (stp 3 _ (by decide) ?_)))
  iterate 2 (refine ze_go1 rfl ?_)
  refine ze_brT rfl (by decide) ?_
  have eg : zm_info (zm_kc (fun i => D.2.2.2.2 i a) D.2.2.2.1 w D.2.1) 3 - zm_info (zm_mx (D.2.2.1 a) t (fun i => D.2.2.2.2 i a) D.2.2.2.1 w D.2.1 0) 3 - zm_info (zm_mx (D.2.2.1 a) t (fun i => D.2.2.2.2 i a) D.2.2.2.1 w D.2.1 1) 3 - zm_info (zm_mx (D.2.2.1 a) t (fun i => D.2.2.2.2 i a) D.2.2.2.1 w D.2.1 2) 3 - zm_info (zm_mx (D.2.2.1 a) t (fun i => D.2.2.2.2 i a) D.2.2.2.1 w D.2.1 3) 3 = zm_gn (D.2.2.1 a) t (fun i => D.2.2.2.2 i a) D.2.2.2.1 w D.2.1 := rfl
  rw [eg]
  generalize hg : zm_gn (D.2.2.1 a) t (fun i => D.2.2.2.2 i a) D.2.2.2.1 w D.2.1 = g
  have fin : zE (d + 2) t_Te_offer (fun v υ => v = none ∧ zx [kf] τ υ ∧ zFd υ kf (some (t, g, zm_sp (D.2.2.1 a) t (fun i => D.2.2.2.2 i a) w D.2.1))) (57, [some (.ref 31), some (.ref kf), some (.int t), some (.long g), none, some (.int (nI 4))], [], τ) := by
    have nk : ∀ q, q < 35 → q ≠ kf := fun q hq => by omega
    iterate 2 (refine ze_go1 rfl ?_)
    refine ze_go2 rfl ⟨by first | rfl | exact hkf, by first | exact Or.inl rfl | exact Or.inr rfl⟩ ?_
    iterate 2 (refine ze_go1 rfl ?_)
    refine ze_go2 rfl (by first | rfl | exact hkf) ?_
    iterate 2 (refine ze_go1 rfl ?_)
    refine ze_go2 rfl (by first | rfl | exact hkf) ?_
    iterate 2 (refine ze_go1 rfl ?_)
    refine ze_go2 rfl (by first | rfl | exact hkf) ?_
    iterate 2 (refine ze_go1 rfl ?_)
    refine ze_ca1 rfl rfl (e_info (k := 5) (a := 0) (n := 5) (f := zm_pu (D.2.2.1 a) t (fun i => D.2.2.2.2 i a) w D.2.1) rfl (by decide) (fun i hi => ?_) ?_) (fun v υ h2 => ?_)
    · rw [Nat.zero_add]
      rw [show (ze_ul (ze_ui (ze_ui τ kf 0 1) kf 1 t) kf 2 g).1 = (ze_ui (ze_ui τ kf 0 1) kf 1 t).1 from rfl, zui_o _ _ _ _ (nk 5 (by decide)), zui_o _ _ _ _ (nk 5 (by decide))]
      unfold zm_pu
      by_cases c : i < 4
      · rw [if_pos c]; exact t1 i c
      · rw [if_neg c, show i = 4 by omega]; exact t2
    · rw [zm_s5]
      have := zm_pt_sum (k := D.2.2.1 a) (t := t) (v := fun i => D.2.2.2.2 i a) (w := w) (n := D.2.1) hbr
      have := zm_ku (v := fun i => D.2.2.2.2 i a) (w := w) (n := D.2.1)
      simp only [zm_pu, show (0 : Nat) < 4 by decide, show (1 : Nat) < 4 by decide, show (2 : Nat) < 4 by decide, show (3 : Nat) < 4 by decide, show ¬ (4 : Nat) < 4 by decide, if_true, if_false]
      omega
    obtain ⟨rfl, rfl⟩ := h2
    refine ze_go2 rfl (by first | rfl | exact hkf) ?_
    refine ze_rt1 rfl trivial ⟨rfl, zx_tr (zx_tr (zx_tr (zx_ui (List.mem_singleton.mpr rfl) _ _ _) (zx_ui (List.mem_singleton.mpr rfl) _ _ _)) (zx_ul (List.mem_singleton.mpr rfl) _ _ _)) (zx_ul (List.mem_singleton.mpr rfl) _ _ _), ?_, ?_, ?_, ?_⟩
    · show (ze_ui (ze_ui τ kf 0 1) kf 1 t).1 kf 0 = 1
      rw [zui_n _ _ _ _ (by decide), zui]
    · show (ze_ui (ze_ui τ kf 0 1) kf 1 t).1 kf 1 = t
      rw [zui]
    · rw [zul_n _ _ _ _ (by decide), zul]
    · rw [zul]
      rfl
  refine ze_go1 rfl ?_
  refine ze_go2 rfl (by first | rfl | exact hkf) ?_
  cases o with
  | none =>
    have h0 : τ.1 kf 0 = 0 := hF
    refine ze_brT rfl h0 ?_
    exact fin
  | some q =>
    obtain ⟨f1, f2, f3, f4⟩ := hF
    refine ze_brF rfl (by rw [f1]; decide) ?_
    iterate 2 (refine ze_go1 rfl ?_)
    refine ze_go2 rfl (by first | rfl | exact hkf) ?_
    refine ze_go1 rfl ?_
    rw [f3]
    by_cases c : q.2.1 < g
    · refine ze_brT rfl ?_ ?_
      · unfold lg_cmp
        rw [if_pos c]
        decide
      · have e : zm_up (some q) (t, g, zm_sp (D.2.2.1 a) t (fun i => D.2.2.2.2 i a) w D.2.1) = some (t, g, zm_sp (D.2.2.1 a) t (fun i => D.2.2.2.2 i a) w D.2.1) := if_pos c
        rw [e]
        exact fin
    · refine ze_brF rfl ?_ ?_
      · unfold lg_cmp
        rw [if_neg c]
        split <;> decide
      · have e : zm_up (some q) (t, g, zm_sp (D.2.2.1 a) t (fun i => D.2.2.2.2 i a) w D.2.1) = some q := if_neg c
        rw [e]
        exact ze_rt1 rfl trivial ⟨rfl, zx_rf _ _, f1, f2, f3, f4⟩
