theorem zm_nv_or (v : Nat → Int32) (w : Nat → Nat) (x : Int32) : ∀ n, zm_nv v w x n = -1 ∨ ∃ i, i < n ∧ zm_nv v w x n = v i ∧ x < v i
  | 0 => Or.inl rfl
  | n + 1 => by
    unfold zm_nv
    by_cases c : 0 < w n ∧ x < v n ∧ (zm_nv v w x n = -1 ∨ v n < zm_nv v w x n)
    · rw [if_pos c]
      exact Or.inr ⟨n, Nat.lt_succ_self _, rfl, c.2.1⟩
    · rw [if_neg c]
      rcases zm_nv_or v w x n with h | ⟨i, hi, h1, h2⟩
      · exact Or.inl h
      · exact Or.inr ⟨i, Nat.lt_succ_of_lt hi, h1, h2⟩
theorem zm_vu_ge {v : Nat → Int32} {x : Int32} : ∀ {n i : Nat}, i < n → v i ≤ x → v i ≤ zm_vu v x n
  | 0, _, h, _ => absurd h (Nat.not_lt_zero _)
  | n + 1, i, h, hx => by
    unfold zm_vu
    by_cases q : i = n
    · subst q
      by_cases c : v i ≤ x ∧ zm_vu v x i < v i
      · rw [if_pos c]; exact Int32.le_refl _
      · rw [if_neg c]
        exact Int32.not_lt.mp (fun z => c ⟨hx, z⟩)
    · have ih := zm_vu_ge (v := v) (x := x) (n := n) (i := i) (by omega) hx
      by_cases c : v n ≤ x ∧ zm_vu v x n < v n
      · rw [if_pos c]; exact Int32.le_trans ih (Int32.le_of_lt c.2)
      · rw [if_neg c]; exact ih
/-- the middle of two values of cases is not below the lower -/
theorem zmid {p q : Nat} (h : p < q) (hq : q < 1000) : nI p ≤ (nI p + nI q) / 2 := by
  rw [nI_add, show (2 : Int32) = nI 2 from rfl, pk_div (by omega) (by decide) (by decide)]
  exact nI_le (by omega) (by omega)
def zfo (D : zD) (a : Nat) (w : Nat → Nat) (r : Nat × Int64 × Int32) : Option (Int32 × Int64 × Int64) := if r.1 = 0 then none else some (r.2.2, r.2.1, zm_sp 0 r.2.2 (fun i => D.2.2.2.2 i a) w D.2.1)
theorem zrow_I {kr : Nat} (h : 10 ≤ kr ∧ kr < 14) : ze_isI kr = true ∧ ze_len kr = 24 := by
  rcases (show kr = 10 ∨ kr = 11 ∨ kr = 12 ∨ kr = 13 by omega) with h | h | h | h <;> subst h <;> exact ⟨rfl, rfl⟩
set_option maxRecDepth 20000 in
set_option maxHeartbeats 2000000 in
theorem e_examine {d : Nat} {σ : ze_S} {D : zD} {a kr m : Nat} {w : Nat → Nat} (hd : zdok D) (hB : zB σ D) (ha : a < D.1) (hkr : 10 ≤ kr ∧ kr < 14) (hw : ∀ i, i < D.2.1 → σ.1 kr i = nI (w i)) (hwb : ∀ i, i < D.2.1 → w i ≤ 720) (hm : m ≤ 5) :
    zM (d + 4) m_Te_examine [.ref 31, .int (nI a), .ref kr, .int (nI m)] σ (fun v τ => v = none ∧ zx [3, 4, 5, 35 + a] σ τ ∧ zFd τ (35 + a) (zm_ts (D.2.2.1 a) (fun i => D.2.2.2.2 i a) D.2.2.2.1 w D.2.1 m)) := by
  have h4 := hd.1
  have h24 := hd.2.1
  have hkf : ze_cl (35 + a) = 2 := zk_fi (by omega)
  have hW := zm_w_le h24 hwb
  have hkn := zm_kn_le (v := fun i => D.2.2.2.2 i a) (w := w) (n := D.2.1)
  obtain ⟨hkI, hk24⟩ := zrow_I hkr
  have keep : ∀ τ, zx [3, 4, 5, 35 + a] σ τ → zB τ D ∧ ∀ i, i < D.2.1 → τ.1 kr i = nI (w i) := by
    intro τ hx
    refine ⟨zB_x hB hx (fun k hk => by simp only [List.mem_cons, List.not_mem_nil, or_false] at hk; omega), fun i hi => ?_⟩
    rw [(hx kr (by simp only [List.mem_cons, List.not_mem_nil, or_false]; omega)).1]
    exact hw i hi
  have brl : ∀ t, zth D a t → ∀ i, i < D.2.1 → 0 ≤ D.2.2.2.2 i a → zm_br (D.2.2.1 a) t (D.2.2.2.2 i a) < 4 := fun t ht i hi h0 => by
    obtain ⟨-, b2, b3⟩ := zbf hd hi ha ht h0
    omega
  refine zM_in t_Te_examine [some (.ref 31), some (.int (nI a)), some (.ref kr), some (.int (nI m)), none, none, none, none, none, none] rfl rfl ?_
  refine ze_go1 rfl ?_
  refine ze_go2 rfl rfl ?_
  refine ze_go1 rfl ?_
  refine ze_go2 rfl ⟨rfl, vp_in_nI (by omega) (by decide)⟩ ?_
  rw [nI_clamp (n := a) (by omega)]
  iterate 3 (refine ze_go1 rfl ?_)
  refine ze_go2 rfl ⟨by first | rfl | exact hkf, by first | exact Or.inl rfl | exact Or.inr rfl⟩ ?_
  refine ze_go1 rfl ?_
  refine ze_go2 rfl (by first | rfl | exact hkf) ?_
  refine ze_go1 rfl ?_
  have x0 : zx [3, 4, 5, 35 + a] σ (ze_ui σ (35 + a) 0 0) := zx_ui (by simp) _ _ _
  have F0 : zFd (ze_ui σ (35 + a) 0 0) (35 + a) none := zui _ _ _ _
  generalize ze_ui σ (35 + a) 0 0 = τ0 at x0 F0
  refine ze_ca1 rfl ⟨rfl, rfl⟩ (e_isCont hd (keep τ0 x0).1 ha) (fun v υ h => ?_)
  obtain ⟨rfl, rfl⟩ := h
  by_cases c : D.2.2.1 a = 0
  · refine ze_brT rfl (by rw [if_pos c]; decide) ?_
    have nvI := zm_nv_or (fun i => D.2.2.2.2 i a) w
    have cpos : ∀ x n, zm_nv (fun i => D.2.2.2.2 i a) w x n = -1 → zm_nv (fun i => D.2.2.2.2 i a) w x n < 0 := fun x n h => by rw [h]; decide
    have loop : ∀ f p x r (o9 : Option Value) τ, p + f = 24 → ((∃ i, i < D.2.1 ∧ x = D.2.2.2.2 i a ∧ 0 ≤ x) ∨ zm_nv (fun i => D.2.2.2.2 i a) w x D.2.1 = -1) → r.1 ≤ p → zx [3, 4, 5, 35 + a] σ τ → zFd τ (35 + a) (zfo D a w r) →
        zE (d + 3) t_Te_examine (fun v τ => v = none ∧ zx [3, 4, 5, 35 + a] σ τ ∧ zFd τ (35 + a) (if (zm_cl (fun i => D.2.2.2.2 i a) D.2.2.2.1 w D.2.1 m f x r).1 = 0 then none else some ((zm_cl (fun i => D.2.2.2.2 i a) D.2.2.2.1 w D.2.1 m f x r).2.2, (zm_cl (fun i => D.2.2.2.2 i a) D.2.2.2.1 w D.2.1 m f x r).2.1 - 720 * (nI (zm_log (zm_cl (fun i => D.2.2.2.2 i a) D.2.2.2.1 w D.2.1 m f x r).1)).toInt64, zm_sp 0 (zm_cl (fun i => D.2.2.2.2 i a) D.2.2.2.1 w D.2.1 m f x r).2.2 (fun i => D.2.2.2.2 i a) w D.2.1))) (79, [some (.ref 31), some (.int (nI a)), some (.ref kr), some (.int (nI m)), some (.ref (35 + a)), some (.int (nI r.1)), some (.int x), some (.int (zm_nv (fun i => D.2.2.2.2 i a) w x D.2.1)), some (.int (nI p)), o9], [], τ) := by
      have fin : ∀ r x y z o9 τ, r.1 ≤ 24 → zx [3, 4, 5, 35 + a] σ τ → zFd τ (35 + a) (zfo D a w r) → zE (d + 3) t_Te_examine (fun v τ => v = none ∧ zx [3, 4, 5, 35 + a] σ τ ∧ zFd τ (35 + a) (if r.1 = 0 then none else some (r.2.2, r.2.1 - 720 * (nI (zm_log r.1)).toInt64, zm_sp 0 r.2.2 (fun i => D.2.2.2.2 i a) w D.2.1))) (159, [some (.ref 31), some (.int (nI a)), some (.ref kr), some (.int (nI m)), some (.ref (35 + a)), some (.int (nI r.1)), x, y, z, o9], [], τ) := by
        intro r x y z o9 τ hr hx hF
        refine ze_go1 rfl ?_
        by_cases c0 : r.1 = 0
        · refine ze_brT rfl (by rw [c0]; exact Int32.le_refl _) ?_
          refine ze_rt1 rfl trivial ⟨rfl, hx, ?_⟩
          unfold zfo at hF
          rw [if_pos c0] at hF
          rw [if_pos c0]
          exact hF
        · refine ze_brF rfl (nI_nle (by omega) (by omega)) ?_
          refine ze_go1 rfl ?_
          iterate 2 (refine ze_go2 rfl (by first | rfl | exact hkf) ?_)
          iterate 2 (refine ze_go1 rfl ?_)
          refine ze_ca1 rfl rfl (e_log (n := r.1) (by omega) (by omega)) (fun v υ h => ?_)
          obtain ⟨rfl, rfl⟩ := h
          iterate 3 (refine ze_go1 rfl ?_)
          refine ze_go2 rfl (by first | rfl | exact hkf) ?_
          unfold zfo at hF
          rw [if_neg c0] at hF
          obtain ⟨f1, f2, f3, f4⟩ := hF
          refine ze_rt1 rfl trivial ⟨rfl, zx_tr hx (zx_ul (by simp) _ _ _), ?_⟩
          rw [if_neg c0]
          refine ⟨f1, f2, ?_, ?_⟩
          · rw [zul, f3]
          · rw [zul_n _ _ _ _ (by decide), f4]
      intro f
      induction f with
      | zero =>
        intro p x r o9 τ hp hx1 hr hx hF
        iterate 2 (refine ze_go1 rfl ?_)
        refine ze_brT rfl (nI_le (a := 24) (by omega) (by omega)) ?_
        exact fin r _ _ _ _ τ (by omega) hx hF
      | succ f ih =>
        intro p x r o9 τ hp hx1 hr hx hF
        iterate 2 (refine ze_go1 rfl ?_)
        refine ze_brF rfl (nI_ge (b := 24) (by omega) (by decide)) ?_
        iterate 2 (refine ze_go1 rfl ?_)
        have stop : zm_nv (fun i => D.2.2.2.2 i a) w x D.2.1 = -1 → zE (d + 3) t_Te_examine (fun v τ => v = none ∧ zx [3, 4, 5, 35 + a] σ τ ∧ zFd τ (35 + a) (if (zm_cl (fun i => D.2.2.2.2 i a) D.2.2.2.1 w D.2.1 m (f + 1) x r).1 = 0 then none else some ((zm_cl (fun i => D.2.2.2.2 i a) D.2.2.2.1 w D.2.1 m (f + 1) x r).2.2, (zm_cl (fun i => D.2.2.2.2 i a) D.2.2.2.1 w D.2.1 m (f + 1) x r).2.1 - 720 * (nI (zm_log (zm_cl (fun i => D.2.2.2.2 i a) D.2.2.2.1 w D.2.1 m (f + 1) x r).1)).toInt64, zm_sp 0 (zm_cl (fun i => D.2.2.2.2 i a) D.2.2.2.1 w D.2.1 m (f + 1) x r).2.2 (fun i => D.2.2.2.2 i a) w D.2.1))) (159, [some (.ref 31), some (.int (nI a)), some (.ref kr), some (.int (nI m)), some (.ref (35 + a)), some (.int (nI r.1)), some (.int x), some (.int (zm_nv (fun i => D.2.2.2.2 i a) w x D.2.1)), some (.int (nI p)), o9], [], τ) := fun h1 => by
          have e : zm_cl (fun i => D.2.2.2.2 i a) D.2.2.2.1 w D.2.1 m (f + 1) x r = r := if_pos (cpos _ _ h1)
          rw [e]
          exact fin r _ _ _ _ τ (by omega) hx hF
        rcases hx1 with ⟨ix, hix, ex, hx0⟩ | hbad
        · rcases nvI x D.2.1 with h1 | ⟨iy, hiy, h1, h2⟩
          · exact ze_brT rfl h1 (stop h1)
          have hx0' : 0 ≤ D.2.2.2.2 ix a := by rw [← ex]; exact hx0
          rcases zval hd hix ha with ⟨-, q⟩ | ⟨-, -, p1, hp1, hp2⟩
          · exact absurd hx0' q
          have hy0 : 0 ≤ D.2.2.2.2 iy a := Int32.le_trans hx0 (Int32.le_of_lt h2)
          rcases zval hd hiy ha with ⟨-, q⟩ | ⟨q0, -, p2, hp3, hp4⟩
          · exact absurd hy0 q
          rw [show zlim (D.2.2.1 a) = 1000 from if_pos c] at hp2 hp4
          have exI : x = nI p1 := by rw [ex, hp1]
          have eyI : zm_nv (fun i => D.2.2.2.2 i a) w x D.2.1 = nI p2 := by rw [h1]; exact hp3
          have hpp : p1 < p2 := by
            have : nI p1 < nI p2 := by rw [← exI, ← hp3]; exact h2
            exact (nI_ltI (by omega) (by omega)).mp this
          have ny : ¬ zm_nv (fun i => D.2.2.2.2 i a) w x D.2.1 < 0 := by rw [eyI]; exact nI_pos (by omega)
          have ny1 : ¬ zm_nv (fun i => D.2.2.2.2 i a) w x D.2.1 = -1 := by rw [h1]; exact q0
          refine ze_brF rfl ny1 ?_
          have ecl : zm_cl (fun i => D.2.2.2.2 i a) D.2.2.2.1 w D.2.1 m (f + 1) x r = zm_cl (fun i => D.2.2.2.2 i a) D.2.2.2.1 w D.2.1 m f (zm_nv (fun i => D.2.2.2.2 i a) w x D.2.1) (zm_of (fun i => D.2.2.2.2 i a) D.2.2.2.1 w D.2.1 m (zm_vu (fun i => D.2.2.2.2 i a) ((x + zm_nv (fun i => D.2.2.2.2 i a) w x D.2.1) / 2) D.2.1) r) := if_neg ny
          have hth : zth D a (zm_vu (fun i => D.2.2.2.2 i a) ((x + zm_nv (fun i => D.2.2.2.2 i a) w x D.2.1) / 2) D.2.1) := by
            refine ⟨fun _ e => ?_, fun z => absurd c z⟩
            have hmid : x ≤ (x + zm_nv (fun i => D.2.2.2.2 i a) w x D.2.1) / 2 := by rw [eyI, exI]; exact zmid hpp hp4
            have hge := zm_vu_ge (v := fun i => D.2.2.2.2 i a) (x := (x + zm_nv (fun i => D.2.2.2.2 i a) w x D.2.1) / 2) (n := D.2.1) (i := ix) hix (by show D.2.2.2.2 ix a ≤ _; rw [← ex]; exact hmid)
            rw [e] at hge
            have : (0 : Int32) ≤ -1 := Int32.le_trans hx0' hge
            exact absurd this (by decide)
          rw [ecl]
          generalize ht : zm_vu (fun i => D.2.2.2.2 i a) ((x + zm_nv (fun i => D.2.2.2.2 i a) w x D.2.1) / 2) D.2.1 = t at hth
          have hy1 : 0 ≤ zm_nv (fun i => D.2.2.2.2 i a) w x D.2.1 := by rw [h1]; exact hy0
          generalize hy : zm_nv (fun i => D.2.2.2.2 i a) w x D.2.1 = y at ht h1 hy1
          have tail : ∀ r' τ2, zm_of (fun i => D.2.2.2.2 i a) D.2.2.2.1 w D.2.1 m t r = r' → r'.1 ≤ p + 1 → zx [3, 4, 5, 35 + a] σ τ2 → zFd τ2 (35 + a) (zfo D a w r') → zE (d + 3) t_Te_examine (fun v τ => v = none ∧ zx [3, 4, 5, 35 + a] σ τ ∧ zFd τ (35 + a) (if (zm_cl (fun i => D.2.2.2.2 i a) D.2.2.2.1 w D.2.1 m f y (zm_of (fun i => D.2.2.2.2 i a) D.2.2.2.1 w D.2.1 m t r)).1 = 0 then none else some ((zm_cl (fun i => D.2.2.2.2 i a) D.2.2.2.1 w D.2.1 m f y (zm_of (fun i => D.2.2.2.2 i a) D.2.2.2.1 w D.2.1 m t r)).2.2, (zm_cl (fun i => D.2.2.2.2 i a) D.2.2.2.1 w D.2.1 m f y (zm_of (fun i => D.2.2.2.2 i a) D.2.2.2.1 w D.2.1 m t r)).2.1 - 720 * (nI (zm_log (zm_cl (fun i => D.2.2.2.2 i a) D.2.2.2.1 w D.2.1 m f y (zm_of (fun i => D.2.2.2.2 i a) D.2.2.2.1 w D.2.1 m t r)).1)).toInt64, zm_sp 0 (zm_cl (fun i => D.2.2.2.2 i a) D.2.2.2.1 w D.2.1 m f y (zm_of (fun i => D.2.2.2.2 i a) D.2.2.2.1 w D.2.1 m t r)).2.2 (fun i => D.2.2.2.2 i a) w D.2.1))) (136, [some (.ref 31), some (.int (nI a)), some (.ref kr), some (.int (nI m)), some (.ref (35 + a)), some (.int (nI r'.1)), some (.int x), some (.int y), some (.int (nI p)), some (.int t)], [], τ2) := by
            intro r' τ2 er hr2 hx2 hF2
            rw [er]
            iterate 3 (refine ze_go1 rfl ?_)
            refine ze_go2 rfl rfl ?_
            iterate 3 (refine ze_go1 rfl ?_)
            refine ze_ca1 rfl ⟨rfl, rfl⟩ (e_nextValue hd (keep τ2 hx2).1 ha hkI hk24 (keep τ2 hx2).2 hwb) (fun v υ h => ?_)
            obtain ⟨rfl, rfl⟩ := h
            iterate 3 (refine ze_go1 rfl ?_)
            have h := ih (p + 1) y r' (some (.int t)) υ (by omega) (Or.inl ⟨iy, hiy, h1, hy1⟩) hr2 hx2 hF2
            rw [← show nI p + 1 = nI (p + 1) from nI_1 _] at h
            exact h
          refine ze_go1 rfl ?_
          refine ze_go2 rfl rfl ?_
          iterate 5 (refine ze_go1 rfl ?_)
          refine ze_go2 rfl (by decide) ?_
          refine ze_ca1 rfl ⟨rfl, rfl⟩ (e_valueUpTo hd (keep τ hx).1 ha) (fun v υ h => ?_)
          obtain ⟨rfl, rfl⟩ := h
          rw [ht]
          iterate 5 (refine ze_go1 rfl ?_)
          refine ze_ca1 rfl ⟨rfl, rfl⟩ (e_tally hd (keep υ hx).1 ha hth hkr (keep υ hx).2) (fun v τ1 h => ?_)
          obtain ⟨rfl, x1, T1⟩ := h
          iterate 2 (refine ze_go1 rfl ?_)
          refine ze_ca1 rfl ⟨rfl, rfl⟩ (e_isValid (p := zm_pt (D.2.2.1 a) t (fun i => D.2.2.2.2 i a) w D.2.1) T1.1 (fun b _ => by have := zm_pt_le (k := D.2.2.1 a) (t := t) (v := fun i => D.2.2.2.2 i a) (w := w) (n := D.2.1) (b := b); omega) hm) (fun v τ' h => ?_)
          obtain ⟨rfl, rfl⟩ := h
          have F1 : zFd τ' (35 + a) (zfo D a w r) := zFd_eq hF (x1 (35 + a) (by simp; omega)).1 (x1 (35 + a) (by simp; omega)).2
          have x2 : zx [3, 4, 5, 35 + a] σ τ' := zx_tr hx (zx_wk x1 (by simp))
          by_cases c2 : 2 ≤ zm_ct (zm_pt (D.2.2.1 a) t (fun i => D.2.2.2.2 i a) w D.2.1) m 4
          · refine ze_brF rfl (by rw [if_pos c2]; decide) ?_
            iterate 4 (refine ze_go1 rfl ?_)
            refine ze_ca1 rfl ⟨rfl, rfl⟩ (e_offer hd hwb (brl _ hth) T1 (show 35 ≤ 35 + a ∧ 35 + a < 39 by omega) F1) (fun v τ2 h => ?_)
            obtain ⟨rfl, x3, F3⟩ := h
            rw [c] at c2 F3
            have eo : zm_of (fun i => D.2.2.2.2 i a) D.2.2.2.1 w D.2.1 m t r = if r.1 = 0 ∨ r.2.1 < zm_gn 0 t (fun i => D.2.2.2.2 i a) D.2.2.2.1 w D.2.1 then (r.1 + 1, zm_gn 0 t (fun i => D.2.2.2.2 i a) D.2.2.2.1 w D.2.1, t) else (r.1 + 1, r.2) := if_pos c2
            have h := tail _ τ2 eo (by split <;> exact Nat.succ_le_succ hr) (zx_tr x2 (zx_wk x3 (by simp))) (by
              have : zfo D a w (if r.1 = 0 ∨ r.2.1 < zm_gn 0 t (fun i => D.2.2.2.2 i a) D.2.2.2.1 w D.2.1 then (r.1 + 1, zm_gn 0 t (fun i => D.2.2.2.2 i a) D.2.2.2.1 w D.2.1, t) else (r.1 + 1, r.2)) = zm_up (zfo D a w r) (t, zm_gn 0 t (fun i => D.2.2.2.2 i a) D.2.2.2.1 w D.2.1, zm_sp 0 t (fun i => D.2.2.2.2 i a) w D.2.1) := by
                by_cases z : r.1 = 0
                · rw [if_pos (Or.inl z)]
                  unfold zfo
                  rw [if_pos z, if_neg (Nat.succ_ne_zero _)]
                  rfl
                · by_cases z2 : r.2.1 < zm_gn 0 t (fun i => D.2.2.2.2 i a) D.2.2.2.1 w D.2.1
                  · rw [if_pos (Or.inr z2)]
                    unfold zfo
                    rw [if_neg z, if_neg (Nat.succ_ne_zero _)]
                    unfold zm_up
                    simp only [z2, if_true]
                  · rw [if_neg (fun q => q.elim z z2)]
                    unfold zfo
                    rw [if_neg z, if_neg (Nat.succ_ne_zero _)]
                    unfold zm_up
                    simp only [z2, if_false]
              rw [this]
              exact F3)
            have e1 : (if r.1 = 0 ∨ r.2.1 < zm_gn 0 t (fun i => D.2.2.2.2 i a) D.2.2.2.1 w D.2.1 then (r.1 + 1, zm_gn 0 t (fun i => D.2.2.2.2 i a) D.2.2.2.1 w D.2.1, t) else (r.1 + 1, r.2)).1 = r.1 + 1 := by split <;> rfl
            rw [e1, ← show nI r.1 + 1 = nI (r.1 + 1) from nI_1 _] at h
            exact h
          · refine ze_brT rfl (by rw [if_neg c2]) ?_
            rw [c] at c2
            have eo : zm_of (fun i => D.2.2.2.2 i a) D.2.2.2.1 w D.2.1 m t r = r := if_neg c2
            exact tail r τ' eo (by omega) x2 F1
        · exact ze_brT rfl hbad (stop hbad)
    iterate 3 (refine ze_go1 rfl ?_)
    refine ze_go2 rfl rfl ?_
    iterate 3 (refine ze_go1 rfl ?_)
    refine ze_ca1 rfl ⟨rfl, rfl⟩ (e_nextValue hd (keep υ x0).1 ha hkI hk24 (keep υ x0).2 hwb) (fun v υ' h => ?_)
    obtain ⟨rfl, rfl⟩ := h
    iterate 2 (refine ze_go1 rfl ?_)
    refine ze_go2 rfl rfl ?_
    iterate 3 (refine ze_go1 rfl ?_)
    refine ze_ca1 rfl ⟨rfl, rfl⟩ (e_nextValue hd (keep υ' x0).1 ha hkI hk24 (keep υ' x0).2 hwb) (fun v υ h => ?_)
    obtain ⟨rfl, rfl⟩ := h
    iterate 3 (refine ze_go1 rfl ?_)
    have h := loop 24 0 (zm_nv (fun i => D.2.2.2.2 i a) w (-1) D.2.1) (0, 0, -1) none υ rfl (by
      rcases nvI (-1) D.2.1 with h | ⟨i, hi, h1, h2⟩
      · rw [h]; exact Or.inr h
      · refine Or.inl ⟨i, hi, h1, ?_⟩
        rw [h1]
        rcases zval hd hi ha with ⟨z, -⟩ | ⟨-, z, -⟩
        · have h2' : -1 < D.2.2.2.2 i a := h2
          rw [z] at h2'
          exact absurd h2' (by decide)
        · exact z) (Nat.le_refl _) x0 F0
    have ets : zm_ts (D.2.2.1 a) (fun i => D.2.2.2.2 i a) D.2.2.2.1 w D.2.1 m = (if (zm_cl (fun i => D.2.2.2.2 i a) D.2.2.2.1 w D.2.1 m 24 (zm_nv (fun i => D.2.2.2.2 i a) w (-1) D.2.1) (0, 0, -1)).1 = 0 then none else some ((zm_cl (fun i => D.2.2.2.2 i a) D.2.2.2.1 w D.2.1 m 24 (zm_nv (fun i => D.2.2.2.2 i a) w (-1) D.2.1) (0, 0, -1)).2.2, (zm_cl (fun i => D.2.2.2.2 i a) D.2.2.2.1 w D.2.1 m 24 (zm_nv (fun i => D.2.2.2.2 i a) w (-1) D.2.1) (0, 0, -1)).2.1 - 720 * (nI (zm_log (zm_cl (fun i => D.2.2.2.2 i a) D.2.2.2.1 w D.2.1 m 24 (zm_nv (fun i => D.2.2.2.2 i a) w (-1) D.2.1) (0, 0, -1)).1)).toInt64, zm_sp 0 (zm_cl (fun i => D.2.2.2.2 i a) D.2.2.2.1 w D.2.1 m 24 (zm_nv (fun i => D.2.2.2.2 i a) w (-1) D.2.1) (0, 0, -1)).2.2 (fun i => D.2.2.2.2 i a) w D.2.1)) := if_pos c
    rw [ets]
    exact h
  · refine ze_brF rfl (by rw [if_neg c]; decide) ?_
    have hth : zth D a (-1) := ⟨fun z => absurd z c, fun _ => rfl⟩
    iterate 4 (refine ze_go1 rfl ?_)
    refine ze_ca1 rfl ⟨rfl, rfl⟩ (e_tally hd (keep υ x0).1 ha hth hkr (keep υ x0).2) (fun v τ h => ?_)
    obtain ⟨rfl, x1, T1⟩ := h
    iterate 2 (refine ze_go1 rfl ?_)
    refine ze_ca1 rfl ⟨rfl, rfl⟩ (e_isValid (p := zm_pt (D.2.2.1 a) (-1) (fun i => D.2.2.2.2 i a) w D.2.1) T1.1 (fun b _ => by have := zm_pt_le (k := D.2.2.1 a) (t := -1) (v := fun i => D.2.2.2.2 i a) (w := w) (n := D.2.1) (b := b); omega) hm) (fun v τ' h => ?_)
    obtain ⟨rfl, rfl⟩ := h
    have F1 : zFd τ' (35 + a) none := zFd_eq F0 (x1 (35 + a) (by simp; omega)).1 (x1 (35 + a) (by simp; omega)).2
    have x2 : zx [3, 4, 5, 35 + a] σ τ' := zx_tr x0 (zx_wk x1 (by simp))
    have ets : zm_ts (D.2.2.1 a) (fun i => D.2.2.2.2 i a) D.2.2.2.1 w D.2.1 m = if 2 ≤ zm_ct (zm_pt (D.2.2.1 a) (-1) (fun i => D.2.2.2.2 i a) w D.2.1) m 4 then some (-1, zm_gn (D.2.2.1 a) (-1) (fun i => D.2.2.2.2 i a) D.2.2.2.1 w D.2.1, zm_sp (D.2.2.1 a) (-1) (fun i => D.2.2.2.2 i a) w D.2.1) else none := if_neg c
    rw [ets]
    by_cases c2 : 2 ≤ zm_ct (zm_pt (D.2.2.1 a) (-1) (fun i => D.2.2.2.2 i a) w D.2.1) m 4
    · refine ze_brF rfl (by rw [if_pos c2]; decide) ?_
      rw [if_pos c2]
      iterate 3 (refine ze_go1 rfl ?_)
      refine ze_ca1 rfl ⟨rfl, rfl⟩ (e_offer hd hwb (brl _ hth) T1 (show 35 ≤ 35 + a ∧ 35 + a < 39 by omega) F1) (fun v τ2 h => ?_)
      obtain ⟨rfl, x3, F3⟩ := h
      exact ze_rt1 rfl trivial ⟨rfl, zx_tr x2 (zx_wk x3 (by simp)), F3⟩
    · refine ze_brT rfl (by rw [if_neg c2]) ?_
      rw [if_neg c2]
      exact ze_rt1 rfl trivial ⟨rfl, x2, F1⟩
