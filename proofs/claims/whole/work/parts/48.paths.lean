/-! the nodes of a tree by their paths, in their order -/
def zcatp (g : Nat → List (List Nat)) : Nat → List (List Nat)
  | 0 => []
  | j + 1 => zcatp g j ++ g j
def zpp (D : zD) : Nat → List Nat → zTr → List (List Nat)
  | 0, p, _ => [p]
  | f + 1, p, T => p :: (match T.1 [] with
    | none => []
    | some q => zcatp (fun b => zpp D f (p ++ [b]) (zsub T b)) (zm_nb (D.2.2.1 q.1)))
/-- the weights at a path -/
def zwp (D : zD) : List Nat → zTr → (Nat → Nat) → Nat → Nat
  | [], _, w => w
  | b :: s, T, w => match T.1 [] with
    | none => w
    | some q => zwp D s (zsub T b) (zsd D q.1 q.2 w b)
def zsp (T : zTr) (s : List Nat) : zTr := (fun q => T.1 (s ++ q), fun q => T.2 (s ++ q))
theorem zsp_1 (T : zTr) (s : List Nat) : (zsp T s).1 [] = T.1 s := by
  show T.1 (s ++ []) = _
  rw [List.append_nil]
theorem zsp_2 (T : zTr) (s : List Nat) : (zsp T s).2 [] = T.2 s := by
  show T.2 (s ++ []) = _
  rw [List.append_nil]
theorem zcat_map {g : Nat → List Nat} {h : Nat → List (List Nat)} {P : Nat → List Nat} : ∀ {n : Nat}, (∀ b, b < n → (g b).map P = h b) → (zcat g n).map P = zcatp h n
  | 0, _ => rfl
  | n + 1, q => by
    show (zcat g n ++ g n).map P = zcatp h n ++ h n
    rw [List.map_append, zcat_map (n := n) (fun b hb => q b (by omega)), q n (by omega)]
theorem zcat_mem {g : Nat → List Nat} {x b : Nat} : ∀ {n : Nat}, b < n → x ∈ g b → x ∈ zcat g n
  | 0, h, _ => by omega
  | n + 1, h, hx => by
    show x ∈ zcat g n ++ g n
    rw [List.mem_append]
    by_cases q : b = n
    · subst q; exact Or.inr hx
    · exact Or.inl (zcat_mem (n := n) (by omega) hx)
theorem zpre_map {D : zD} {σ : ze_S} {P : Nat → List Nat} : ∀ {f : Nat} {w : Nat → Nat} {pl : Nat} {p : List Nat} {T : zTr}, zRC D σ P f w pl p T → (zpre D σ f pl T).map P = zpp D f p T
  | 0, w, pl, p, T, h => by
    show [P pl] = [p]
    rw [h.1.2.1]
  | f + 1, w, pl, p, T, h => by
    show (pl :: (match T.1 [] with | none => [] | some q => zcat (fun b => zpre D σ f (zch σ pl b) (zsub T b)) (zm_nb (D.2.2.1 q.1)))).map P = p :: (match T.1 [] with | none => [] | some q => zcatp (fun b => zpp D f (p ++ [b]) (zsub T b)) (zm_nb (D.2.2.1 q.1)))
    rw [List.map_cons, h.1.2.1]
    rcases h.2 with ⟨e, -⟩ | ⟨a, t, e, -, -, -, -, -, -, c8⟩
    · rw [e]; rfl
    · rw [e]
      show p :: (zcat (fun b => zpre D σ f (zch σ pl b) (zsub T b)) (zm_nb (D.2.2.1 a))).map P = p :: zcatp (fun b => zpp D f (p ++ [b]) (zsub T b)) (zm_nb (D.2.2.1 a))
      rw [zcat_map (fun b hb => zpre_map (c8 b hb).2)]
theorem zpre_hd (D : zD) (σ : ze_S) (f pl : Nat) (T : zTr) : pl ∈ zpre D σ f pl T := by
  cases f with
  | zero => exact List.mem_cons_self
  | succ f => exact List.mem_cons_self
theorem zRC_at {D : zD} {σ : ze_S} {P : Nat → List Nat} : ∀ {f : Nat} {w : Nat → Nat} {pl : Nat} {p : List Nat} {T : zTr}, zRC D σ P f w pl p T → ∀ x, x ∈ zpre D σ f pl T → ∃ s f', P x = p ++ s ∧ zRC D σ P f' (zwp D s T w) x (p ++ s) (zsp T s) ∧ ∀ a t, T.1 s = some (a, t) → ∀ b, b < zm_nb (D.2.2.1 a) → zch σ x b ∈ zpre D σ f pl T ∧ P (zch σ x b) = p ++ s ++ [b]
  | 0, w, pl, p, T, h, x, hx => by
    have e : x = pl := by
      have : x ∈ [pl] := hx
      simpa using this
    subst e
    refine ⟨[], 0, by rw [List.append_nil]; exact h.1.2.1, by rw [List.append_nil]; exact h, fun a t e => ?_⟩
    rw [h.2.1] at e
    cases e
  | f + 1, w, pl, p, T, h, x, hx => by
    have e0 : zpre D σ (f + 1) pl T = pl :: (match T.1 [] with | none => [] | some q => zcat (fun b => zpre D σ f (zch σ pl b) (zsub T b)) (zm_nb (D.2.2.1 q.1))) := rfl
    rcases h.2 with ⟨e, -⟩ | ⟨a, t, e, h1, h2, h3, h4, h5, h6, c8⟩
    · rw [e0, e] at hx
      have e : x = pl := by
        have : x ∈ [pl] := hx
        simpa using this
      subst e
      refine ⟨[], f + 1, by rw [List.append_nil]; exact h.1.2.1, by rw [List.append_nil]; exact h, fun a t e2 => ?_⟩
      rw [e] at e2
      cases e2
    · rw [e0, e] at hx ⊢
      have hx : x ∈ pl :: zcat (fun b => zpre D σ f (zch σ pl b) (zsub T b)) (zm_nb (D.2.2.1 a)) := hx
      show ∃ s f', P x = p ++ s ∧ zRC D σ P f' (zwp D s T w) x (p ++ s) (zsp T s) ∧ ∀ a' t', T.1 s = some (a', t') → ∀ b, b < zm_nb (D.2.2.1 a') → zch σ x b ∈ pl :: zcat (fun b => zpre D σ f (zch σ pl b) (zsub T b)) (zm_nb (D.2.2.1 a)) ∧ P (zch σ x b) = p ++ s ++ [b]
      rcases List.mem_cons.1 hx with hx | hx
      · subst hx
        refine ⟨[], f + 1, by rw [List.append_nil]; exact h.1.2.1, by rw [List.append_nil]; exact h, fun a' t' e2 b hb => ?_⟩
        rw [e] at e2
        cases e2
        refine ⟨List.mem_cons_of_mem _ (zcat_mem hb (zpre_hd D σ f _ _)), ?_⟩
        rw [List.append_nil]
        exact (zRC_hd (c8 b hb).2).2.1
      · obtain ⟨b, hb, hx⟩ := zcat_in hx
        obtain ⟨s, f', i1, i2, i3⟩ := zRC_at (c8 b hb).2 x hx
        have ea : p ++ [b] ++ s = p ++ b :: s := by simp
        rw [ea] at i1 i2 i3
        refine ⟨b :: s, f', i1, ?_, fun a' t' e2 b' hb' => ?_⟩
        · have : zwp D (b :: s) T w = zwp D s (zsub T b) (zsd D a t w b) := by
            show (match T.1 [] with | none => w | some q => zwp D s (zsub T b) (zsd D q.1 q.2 w b)) = _
            rw [e]
          rw [this]
          exact i2
        · exact ⟨List.mem_cons_of_mem _ (zcat_mem hb (i3 a' t' e2 b' hb').1), (i3 a' t' e2 b' hb').2⟩
theorem zcatp_in {g : Nat → List (List Nat)} {x : List Nat} : ∀ {n : Nat}, x ∈ zcatp g n → ∃ b, b < n ∧ x ∈ g b
  | 0, h => by cases h
  | n + 1, h => by
    rcases List.mem_append.1 h with h | h
    · obtain ⟨b, hb, hx⟩ := zcatp_in h
      exact ⟨b, by omega, hx⟩
    · exact ⟨n, by omega, h⟩
theorem zpp_p {D : zD} : ∀ {f : Nat} {p : List Nat} {T : zTr} {x : List Nat}, x ∈ zpp D f p T → p <+: x
  | 0, p, T, x, h => by
    have : x ∈ [p] := h
    have : x = p := by simpa using this
    subst this
    exact List.prefix_refl _
  | f + 1, p, T, x, h => by
    rcases List.mem_cons.1 h with h | h
    · subst h
      exact List.prefix_refl _
    · cases e : T.1 [] with
      | none => rw [e] at h; cases h
      | some q =>
        rw [e] at h
        obtain ⟨b, -, h⟩ := zcatp_in h
        exact (List.prefix_append p [b]).trans (zpp_p h)
theorem zpp_nd {D : zD} : ∀ (f : Nat) (p : List Nat) (T : zTr), (zpp D f p T).Nodup
  | 0, p, T => by
    show [p].Nodup
    simp
  | f + 1, p, T => by
    show (p :: (match T.1 [] with | none => [] | some q => zcatp (fun b => zpp D f (p ++ [b]) (zsub T b)) (zm_nb (D.2.2.1 q.1)))).Nodup
    cases T.1 [] with
    | none => simp
    | some q =>
      show (p :: zcatp (fun b => zpp D f (p ++ [b]) (zsub T b)) (zm_nb (D.2.2.1 q.1))).Nodup
      rw [List.nodup_cons]
      refine ⟨fun hp => ?_, ?_⟩
      · obtain ⟨b, -, h⟩ := zcatp_in hp
        exact zpre3 (zpp_p h)
      · have : ∀ n, (zcatp (fun b => zpp D f (p ++ [b]) (zsub T b)) n).Nodup := by
          intro n
          induction n with
          | zero => exact List.nodup_nil
          | succ n ih =>
            show (zcatp (fun b => zpp D f (p ++ [b]) (zsub T b)) n ++ zpp D f (p ++ [n]) (zsub T n)).Nodup
            rw [List.nodup_append]
            refine ⟨ih, zpp_nd f _ _, fun x hx y hy e => ?_⟩
            subst e
            obtain ⟨b, hb, h⟩ := zcatp_in hx
            have := zpre4 (zpp_p h) (zpp_p hy)
            omega
        exact this _
def zix : List (List Nat) → List Nat → Nat
  | [], _ => 0
  | x :: l, y => if x = y then 0 else zix l y + 1
theorem zix_eq : ∀ {l : List (List Nat)} {k : Nat} {y : List Nat}, l.Nodup → l[k]? = some y → zix l y = k
  | [], k, y, _, h => by simp at h
  | x :: l, 0, y, _, h => by
    have : x = y := by simpa using h
    exact if_pos this
  | x :: l, k + 1, y, hn, h => by
    have h : l[k]? = some y := by simpa using h
    rw [List.nodup_cons] at hn
    have : ¬ x = y := fun e => by
      subst e
      exact hn.1 (List.mem_of_getElem? h)
    show (if x = y then 0 else zix l y + 1) = k + 1
    rw [if_neg this, zix_eq hn.2 h]
/-- the program's state in the document's words: the cases; the tree with the number of cases that it was grown from; the shares of the latest classify -/
abbrev zSt : Type := zD × Option (Nat × zTr) × (Nat → Nat)
def zat (S : zSt) (x : Int32) (k : Nat → zTr → List Nat → Int32) : Int32 := match S.2.1 with
  | none => -1
  | some q => if x < 0 then -1 else match (zpp S.1 3 [] q.2)[x.toNatClampNeg]? with
    | none => -1
    | some p => k q.1 q.2 p
def zCR (σ : ze_S) (S : zSt) : Prop := zdok S.1 ∧ zB σ S.1 ∧ (∀ c, c < 3 → σ.1 26 c = nI (S.2.2 c)) ∧ match S.2.1 with
  | none => σ.1 29 10 = nI 0
  | some q => 1 ≤ q.1 ∧ q.1 ≤ S.1.2.1 ∧ zTC S.1 σ q.1 q.2
def zF (S : Nat → Prop) : Prop := ∀ k, S k → (3 ≤ k ∧ k ≤ 14) ∨ k = 24 ∨ k = 25 ∨ (30 ≤ k ∧ k < 46)
theorem zTC_x {D : zD} {σ τ : ze_S} {n : Nat} {T : zTr} {S : Nat → Prop} (hd : zdok D) (h : zTC D σ n T) (hx : zxp S σ τ) (hF : zF S) : zTC D τ n T := by
  have q : ∀ k, 15 ≤ k → k ≤ 29 → k ≠ 24 → k ≠ 25 → τ.1 k = σ.1 k := fun k h1 h2 h3 h4 => (hx k (fun hs => by have := hF k hs; omega)).1
  obtain ⟨h1, ⟨P, h2⟩, h3, h4⟩ := h
  refine ⟨by rw [q 29 (by omega) (by omega) (by omega) (by omega)]; exact h1, ⟨P, zRC_eq hd h2 (fun x _ => ⟨zsame_xp hx (fun k k1 k2 hs => by have := hF k hs; omega) x, rfl⟩)⟩, ?_, ?_⟩
  · rw [zpre_eq (q 21 (by omega) (by omega) (by omega) (by omega)), q 29 (by omega) (by omega) (by omega) (by omega)]; exact h3
  · rw [zpre_eq (q 21 (by omega) (by omega) (by omega) (by omega))]
    unfold zNb at h4 ⊢
    rw [q 22 (by omega) (by omega) (by omega) (by omega), q 23 (by omega) (by omega) (by omega) (by omega)]
    exact h4
theorem zCR_x {σ τ : ze_S} {S : zSt} {X : Nat → Prop} (h : zCR σ S) (hx : zxp X σ τ) (hF : zF X) : zCR τ S := by
  have q : ∀ k, k < 30 → (k < 3 ∨ 15 ≤ k) → k ≠ 24 → k ≠ 25 → τ.1 k = σ.1 k := fun k h1 h2 h3 h4 => (hx k (fun hs => by have := hF k hs; omega)).1
  obtain ⟨h1, h2, h3, h4⟩ := h
  refine ⟨h1, zB_eq h2 (q 0 (by omega) (by omega) (by omega) (by omega)) (q 1 (by omega) (by omega) (by omega) (by omega)) (q 2 (by omega) (by omega) (by omega) (by omega)) (q 28 (by omega) (by omega) (by omega) (by omega)), ?_, ?_⟩
  · rw [q 26 (by omega) (by omega) (by omega) (by omega)]; exact h3
  · cases e : S.2.1 with
    | none =>
      rw [e] at h4
      show τ.1 29 10 = nI 0
      rw [q 29 (by omega) (by omega) (by omega) (by omega)]; exact h4
    | some r =>
      rw [e] at h4
      exact ⟨h4.1, h4.2.1, zTC_x h1 h4.2.2 hx hF⟩
theorem zCR_nd {σ : ze_S} {S : zSt} (h : zCR σ S) (x : Int32) : ∃ s, σ.1 29 10 = nI s ∧ s ≤ 85 ∧ ((¬ (¬ x < 0 ∧ ¬ nI s ≤ x) ∧ ∀ k, zat S x k = -1) ∨
    ((¬ x < 0 ∧ ¬ nI s ≤ x) ∧ ∃ j n T y p P f, x = nI j ∧ j < 85 ∧ S.2.1 = some (n, T) ∧ σ.1 22 j = nI y ∧ zRC S.1 σ P f (zwp S.1 p T (zw0 n)) y p (zsp T p) ∧ (∀ k, zat S x k = k n T p) ∧
      ∀ a t, T.1 p = some (a, t) → ∀ b, b < zm_nb (S.1.2.2.1 a) → zch σ y b < 85 ∧ σ.1 23 (zch σ y b) = nI (zix (zpp S.1 3 [] T) (p ++ [b])))) := by
  obtain ⟨hd, -, -, h4⟩ := h
  cases e : S.2.1 with
  | none =>
    rw [e] at h4
    refine ⟨0, h4, by omega, Or.inl ⟨fun q => ?_, fun k => ?_⟩⟩
    · have h0 : nI 0 = 0 := rfl
      rw [h0] at q
      exact q.2 (Int32.not_lt.1 q.1)
    · unfold zat
      rw [e]
  | some r =>
    obtain ⟨n, T⟩ := r
    rw [e] at h4
    obtain ⟨-, -, -, ⟨P, hR⟩, h5, h6⟩ := h4
    have hR : zRC S.1 σ P 3 (zw0 n) 0 [] T := hR
    have h5 : σ.1 29 10 = nI (zpre S.1 σ 3 0 T).length := h5
    have h6 : zNb σ 0 (zpre S.1 σ 3 0 T) := h6
    have hl := zpre_len hd hR
    have h85 : zN 3 = 85 := rfl
    have hm := zpre_map hR
    have hlen : (zpp S.1 3 [] T).length = (zpre S.1 σ 3 0 T).length := by rw [← hm, List.length_map]
    refine ⟨(zpre S.1 σ 3 0 T).length, h5, by omega, ?_⟩
    generalize hs : (zpre S.1 σ 3 0 T).length = s at hl hlen
    have ez : ∀ k, ¬ x < 0 → zat S x k = match (zpp S.1 3 [] T)[x.toNatClampNeg]? with | none => -1 | some p => k n T p := fun k hx => by
      unfold zat
      rw [e]
      exact if_neg hx
    by_cases hx : x < 0
    · refine Or.inl ⟨fun q => q.1 hx, fun k => ?_⟩
      unfold zat
      rw [e]
      exact if_pos hx
    · obtain ⟨j, hj, ej⟩ := nI_of hx
      subst ej
      rw [zcl hj] at ez
      have hc : (nI s ≤ nI j) ↔ s ≤ j := ⟨fun q => Nat.le_of_not_lt (fun z => nI_ge z (by omega) q), fun q => nI_le q hj⟩
      by_cases hjs : s ≤ j
      · refine Or.inl ⟨fun q => q.2 (hc.2 hjs), fun k => ?_⟩
        rw [ez k hx, List.getElem?_eq_none (by omega)]
      · refine Or.inr ⟨⟨hx, fun q => hjs (hc.1 q)⟩, ?_⟩
        obtain ⟨y, hy⟩ : ∃ y, (zpre S.1 σ 3 0 T)[j]? = some y := ⟨_, List.getElem?_eq_getElem (by omega)⟩
        have hym := List.mem_of_getElem? hy
        obtain ⟨p, f, i1, i2, i3⟩ := zRC_at hR y hym
        rw [List.nil_append] at i1 i2
        have hp : (zpp S.1 3 [] T)[j]? = some p := by
          rw [← hm, List.getElem?_map, hy, ← i1]; rfl
        refine ⟨j, n, T, y, p, P, f, rfl, by omega, rfl, ?_, i2, fun k => ?_, fun a t et b hb => ?_⟩
        · have := (h6 j y hy).1
          rwa [Nat.zero_add] at this
        · rw [ez k hx, hp]
        · obtain ⟨m1, m2⟩ := i3 a t et b hb
          refine ⟨(zpre_P hd hR _ m1).2, ?_⟩
          obtain ⟨k, hk⟩ := List.getElem?_of_mem m1
          have e1 := (h6 k _ hk).2
          rw [Nat.zero_add] at e1
          have e2 : (zpp S.1 3 [] T)[k]? = some (p ++ [b]) := by
            rw [← hm, List.getElem?_map, hk]
            show some (P (zch σ y b)) = _
            rw [m2, List.nil_append]
          rw [e1, zix_eq (zpp_nd 3 [] T) e2]
