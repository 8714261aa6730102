/-! the calls in the document's words -/
def zfb (D : zD) (r : Nat → Int32) : Bool := decide (∀ a, a < D.1 → -1 ≤ r a ∧ r a < nI (zlim (D.2.2.1 a)))
theorem zfb_y {D : zD} {r : Nat → Int32} : zfb D r = true ↔ zfit D r := decide_eq_true_iff
theorem zfb_n {D : zD} {r : Nat → Int32} : zfb D r = false ↔ ¬ zfit D r := decide_eq_false_iff_not
def zr4 (a b c d : Int32) (i : Nat) : Int32 := if i = 0 then a else if i = 1 then b else if i = 2 then c else d
def zn_attr (S : zSt) (x : Int32) : Int32 × zSt :=
  if (¬ x = 0 ∧ (x < 2 ∨ 4 < x)) ∨ 0 < S.1.2.1 then (-1, S) else if S.1.1 = 4 then (-2, S) else (nI S.1.1, (zatt S.1 x.toNatClampNeg, S.2))
def zn_add (S : zSt) (t a b c d : Int32) : Int32 × zSt :=
  if (t < 0 ∨ 3 ≤ t) ∨ zfb S.1 (zr4 a b c d) = false then (-1, S) else if S.1.2.1 = 24 then (-2, S) else (nI S.1.2.1, (zadd S.1 t.toNatClampNeg (zr4 a b c d), S.2))
def zn_grow (S : zSt) (m : Int32) : Int32 × zSt :=
  if m < 1 ∨ 5 < m then (-1, S) else if S.1.2.1 = 0 then (-3, S) else
    (nI (zpp S.1 3 [] (zgw S.1 m.toNatClampNeg 3 (zw0 S.1.2.1) 0 0)).length, (S.1, some (S.1.2.1, zgw S.1 m.toNatClampNeg 3 (zw0 S.1.2.1) 0 0), S.2.2))
def zn_prune (S : zSt) (x : Int32) : Int32 × zSt :=
  if x < 0 ∨ 2000 < x then (-1, S) else match S.2.1 with
    | none => (-3, S)
    | some q => (nI (zpp S.1 3 [] (zpn S.1 x.toNatClampNeg 3 (zw0 q.1) q.2)).length, (S.1, some (q.1, zpn S.1 x.toNatClampNeg 3 (zw0 q.1) q.2), S.2.2))
def zn_classify (S : zSt) (a b c d : Int32) : Int32 × zSt :=
  if zfb S.1 (zr4 a b c d) = false then (-1, S) else match S.2.1 with
    | none => (-3, S)
    | some q => (nI (zm_fg (zgv S.1 (zr4 a b c d) 3 (zw0 q.1) q.2 720) 3), (S.1, some q, zgv S.1 (zr4 a b c d) 3 (zw0 q.1) q.2 720))
def zn_share (S : zSt) (x : Int32) : Int32 := if x < 0 ∨ 3 ≤ x then 0 else nI (S.2.2 x.toNatClampNeg)
def zwr (D : zD) (q : Nat × zTr) : Nat → Nat
  | 0 => 0
  | i + 1 => if zm_fg (zgv D (D.2.2.2.2 i) 3 (zw0 q.1) q.2 720) 3 = D.2.2.2.1 i then zwr D q i else zwr D q i + 1
def zn_wrong (S : zSt) : Int32 := match S.2.1 with
  | none => -3
  | some q => nI (zwr S.1 q S.1.2.1)
def zn_root (S : zSt) (a m : Int32) : zO :=
  if a < 0 ∨ nI S.1.1 ≤ a ∨ (m < 1 ∨ 5 < m) then none else zm_ts (S.1.2.2.1 a.toNatClampNeg) (fun i => S.1.2.2.2.2 i a.toNatClampNeg) S.1.2.2.2.1 (zw0 S.1.2.1) S.1.2.1 m.toNatClampNeg
def zn_gain (S : zSt) (a m : Int32) : Int64 := match zn_root S a m with
  | none => -1
  | some q => if q.2.1 < 0 then -2 else q.2.1
def zn_split (S : zSt) (a m : Int32) : Int64 := match zn_root S a m with
  | none => -1
  | some q => q.2.2
def zn_cut (S : zSt) (a m : Int32) : Int32 := match zn_root S a m with
  | none => -1
  | some q => q.1
def zn_nodes (S : zSt) : Int32 := match S.2.1 with
  | none => 0
  | some q => nI (zpp S.1 3 [] q.2).length
def zn_tested (S : zSt) (x : Int32) : Int32 := zat S x fun _ T p => match T.1 p with
  | none => -1
  | some r => nI r.1
def zn_threshold (S : zSt) (x : Int32) : Int32 := zat S x fun _ T p => match T.1 p with
  | none => -1
  | some r => r.2
def zn_classOf (S : zSt) (x : Int32) : Int32 := zat S x fun _ T p => nI (T.2 p)
def zn_weight (S : zSt) (x c : Int32) : Int32 := zat S x fun n T p => if c < 0 ∨ 3 ≤ c then -1 else nI (zcw S.1 (zwp S.1 p T (zw0 n)) c.toNatClampNeg)
def zbk (S : zSt) (b : Int32) (k : Nat → zTr → List Nat → Nat × Int32 → Int32) (n : Nat) (T : zTr) (p : List Nat) : Int32 := match T.1 p with
  | none => -1
  | some r => if b < 0 ∨ nI (zm_nb (S.1.2.2.1 r.1)) ≤ b then -1 else k n T p r
def zn_child (S : zSt) (x b : Int32) : Int32 := zat S x (zbk S b fun _ T p _ => nI (zix (zpp S.1 3 [] T) (p ++ [b.toNatClampNeg])))
def zn_part (S : zSt) (x b : Int32) : Int32 := zat S x (zbk S b fun n T p r => nI (zpt S.1 r.1 r.2 (zwp S.1 p T (zw0 n)) b.toNatClampNeg))
def zn_log (x : Int32) : Int32 := if x < 1 ∨ 32767 < x then -1 else nI (zm_log x.toNatClampNeg)
/-! the class answers so -/
def zOut (σ : ze_S) (r : Int32) (S : zSt) : ze_P := fun v τ => v = some (.int r) ∧ zCR τ S ∧ zxp (fun k => k < 46) σ τ
def zOuL (σ : ze_S) (r : Int64) (S : zSt) : ze_P := fun v τ => v = some (.long r) ∧ zCR τ S ∧ zxp (fun k => k < 46) σ τ
theorem zn_le {x : Int32} {n : Nat} (hn : n < 2 ^ 31) (h0 : ¬ x < 0) (h : ¬ nI n < x) : ∃ k, x = nI k ∧ k ≤ n := by
  obtain ⟨k, hk, rfl⟩ := nI_of h0
  refine ⟨k, rfl, ?_⟩
  rw [nI_ltI hn hk] at h
  omega
theorem zn_lt {x : Int32} {n : Nat} (hn : n < 2 ^ 31) (h0 : ¬ x < 0) (h : ¬ nI n ≤ x) : ∃ k, x = nI k ∧ k < n := by
  obtain ⟨k, hk, rfl⟩ := nI_of h0
  refine ⟨k, rfl, Nat.lt_of_not_le (fun q => h (nI_le q hk))⟩
theorem zn_n0 {x : Int32} (h : ¬ x < 1) : ¬ x < 0 := fun q => h (Int32.lt_trans q (by decide))
theorem zk_attr {x : Int32} (h : ¬ (¬ x = 0 ∧ (x < 2 ∨ 4 < x))) : ∃ k, x = nI k ∧ (k = 0 ∨ (2 ≤ k ∧ k ≤ 4)) := by
  by_cases h0 : x = 0
  · exact ⟨0, h0, Or.inl rfl⟩
  · have h2 : ¬ x < 2 := fun q => h ⟨h0, Or.inl q⟩
    have h4 : ¬ 4 < x := fun q => h ⟨h0, Or.inr q⟩
    obtain ⟨k, e, hk⟩ := zn_le (n := 4) (by decide) (fun q => h2 (Int32.lt_trans q (by decide))) h4
    refine ⟨k, e, Or.inr ⟨?_, hk⟩⟩
    subst e
    exact Nat.le_of_not_lt (fun q => h2 (nI_lt q (by decide)))
theorem e_C_attribute {d : Nat} {σ : ze_S} {S : zSt} {x : Int32} (h : zCR σ S) : zM (d + 2) m_C_attribute [.ref 27, .int x] σ (zOut σ (zn_attr S x).1 (zn_attr S x).2) := by
  obtain ⟨hd, hB, h3, h4⟩ := h
  have h24 := hd.2.1
  refine zM_in t_C_attribute [some (.ref 27), some (.int x), none] rfl rfl ?_
  have bad : ((¬ x = 0 ∧ (x < 2 ∨ 4 < x)) ∨ 0 < S.1.2.1) → ∀ o, zE (d + 1) t_C_attribute (zOut σ (zn_attr S x).1 (zn_attr S x).2) (34, [some (.ref 27), some (.int x), o], [], σ) := by
    intro hb o
    refine ze_go1 rfl ?_
    refine ze_rt1 rfl trivial ?_
    unfold zn_attr
    rw [if_pos hb]
    exact ⟨rfl, ⟨hd, hB, h3, h4⟩, zxp_rf _ _⟩
  have good : ¬ (¬ x = 0 ∧ (x < 2 ∨ 4 < x)) → zE (d + 1) t_C_attribute (zOut σ (zn_attr S x).1 (zn_attr S x).2) (14, [some (.ref 27), some (.int x), none], [], σ) := by
    intro hk
    iterate 4 (refine ze_go1 rfl ?_)
    refine ze_brF rfl (by decide) ?_
    refine ze_go1 rfl ?_
    iterate 2 (refine ze_go2 rfl rfl ?_)
    rw [hB.2.1]
    by_cases hc : 0 < S.1.2.1
    · refine ze_brF rfl (nI_nle hc (by omega)) ?_
      exact bad (Or.inr hc) _
    · have hc0 : S.1.2.1 = 0 := by omega
      refine ze_brT rfl (by rw [hc0]; decide) ?_
      refine ze_go1 rfl ?_
      iterate 2 (refine ze_go2 rfl rfl ?_)
      refine ze_go1 rfl ?_
      rw [hB.1]
      have hnb : ¬ ((¬ x = 0 ∧ (x < 2 ∨ 4 < x)) ∨ 0 < S.1.2.1) := fun q => q.elim hk hc
      by_cases h4' : S.1.1 = 4
      · refine ze_brF rfl (by rw [h4']; decide) ?_
        refine ze_go1 rfl ?_
        refine ze_rt1 rfl trivial ?_
        unfold zn_attr
        rw [if_neg hnb, if_pos h4']
        exact ⟨rfl, ⟨hd, hB, h3, h4⟩, zxp_rf _ _⟩
      · have hlt : S.1.1 < 4 := by have := hd.1; omega
        refine ze_brT rfl (nI_lt hlt (by decide)) ?_
        refine ze_go1 rfl ?_
        refine ze_go2 rfl rfl ?_
        refine ze_go1 rfl ?_
        obtain ⟨k, ek, hk2⟩ := zk_attr hk
        have hk31 : k < 2 ^ 31 := by omega
        unfold zn_attr
        rw [if_neg hnb, if_neg h4', ek, zcl hk31]
        refine ze_ca1 rfl ⟨rfl, rfl⟩ (ze_M_le (e_putAttribute (d := 0) (k := k) hd hB hlt) (by omega)) (fun v τ q => ?_)
        obtain ⟨rfl, q1, q2⟩ := q
        refine ze_rt1 rfl trivial ⟨rfl, ⟨⟨?_, ?_, ?_, ?_, ?_⟩, q1, ?_, ?_⟩, zxp_of q2 (by simp)⟩
        · show S.1.1 + 1 ≤ 4
          omega
        · exact h24
        · intro a ha
          show (if a = S.1.1 then k else S.1.2.2.1 a) = 0 ∨ (2 ≤ (if a = S.1.1 then k else S.1.2.2.1 a) ∧ (if a = S.1.1 then k else S.1.2.2.1 a) ≤ 4)
          have ha : a < S.1.1 + 1 := ha
          by_cases e : a = S.1.1
          · rw [if_pos e]; exact hk2
          · rw [if_neg e]; exact hd.2.2.1 a (by omega)
        · intro i hi
          have hi : i < S.1.2.1 := hi
          omega
        · intro i hi
          have hi : i < S.1.2.1 := hi
          omega
        · rw [(q2 26 (by simp)).1]; exact h3
        · show (match S.2.1 with | none => τ.1 29 10 = nI 0 | some q => 1 ≤ q.1 ∧ q.1 ≤ S.1.2.1 ∧ zTC _ τ q.1 q.2)
          cases e : S.2.1 with
          | none =>
            rw [e] at h4
            show τ.1 29 10 = nI 0
            rw [(q2 29 (by simp)).1]
            exact h4
          | some r =>
            rw [e] at h4
            have := h4.1
            have := h4.2.1
            omega
  refine ze_go1 rfl ?_
  refine ze_br1 rfl (fun c => good (fun q => q.1 c)) (fun c => ?_)
  iterate 2 (refine ze_go1 rfl ?_)
  refine ze_br1 rfl (fun c2 => ?_) (fun c2 => ?_)
  · iterate 3 (refine ze_go1 rfl ?_)
    refine ze_brT rfl rfl ?_
    exact bad (Or.inl ⟨c, Or.inl c2⟩) _
  · iterate 2 (refine ze_go1 rfl ?_)
    refine ze_br1 rfl (fun c3 => ?_) (fun c3 => good (fun q => q.2.elim c2 c3))
    iterate 3 (refine ze_go1 rfl ?_)
    refine ze_brT rfl rfl ?_
    exact bad (Or.inl ⟨c, Or.inr c3⟩) _
theorem e_C_ask {e : Nat} {σ : ze_S} {a b c d : Int32} : zM (e + 1) m_C_ask [.ref 27, .int a, .int b, .int c, .int d] σ (fun v τ => v = none ∧ zx [25] σ τ ∧ ∀ i, i < 4 → τ.1 25 i = zr4 a b c d i) := by
  refine zM_in t_C_ask [some (.ref 27), some (.int a), some (.int b), some (.int c), some (.int d)] rfl rfl ?_
  refine ze_go1 rfl ?_
  refine ze_go2 rfl rfl ?_
  iterate 2 (refine ze_go1 rfl ?_)
  refine ze_go2 rfl ⟨rfl, vp_in_nI (N := 4) (n := 0) (by decide) (by decide)⟩ ?_
  refine ze_go1 rfl ?_
  refine ze_go2 rfl rfl ?_
  iterate 2 (refine ze_go1 rfl ?_)
  refine ze_go2 rfl ⟨rfl, vp_in_nI (N := 4) (n := 1) (by decide) (by decide)⟩ ?_
  refine ze_go1 rfl ?_
  refine ze_go2 rfl rfl ?_
  iterate 2 (refine ze_go1 rfl ?_)
  refine ze_go2 rfl ⟨rfl, vp_in_nI (N := 4) (n := 2) (by decide) (by decide)⟩ ?_
  refine ze_go1 rfl ?_
  refine ze_go2 rfl rfl ?_
  iterate 2 (refine ze_go1 rfl ?_)
  refine ze_go2 rfl ⟨rfl, vp_in_nI (N := 4) (n := 3) (by decide) (by decide)⟩ ?_
  refine ze_rt1 rfl trivial ⟨rfl, zx_tr (zx_tr (zx_tr (zx_ui (by simp) _ _ _) (zx_ui (by simp) _ _ _)) (zx_ui (by simp) _ _ _)) (zx_ui (by simp) _ _ _), fun i hi => ?_⟩
  have hc : i = 0 ∨ i = 1 ∨ i = 2 ∨ i = 3 := by omega
  rcases hc with rfl | rfl | rfl | rfl
  · exact rfl
  · exact rfl
  · exact rfl
  · exact rfl
