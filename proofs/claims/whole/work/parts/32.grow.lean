/-! trees: a path from the root leads to a test, or to none, and to a type -/
abbrev zTr : Type := (List Nat → Option (Nat × Int32)) × (List Nat → Nat)
def zsub (T : zTr) (b : Nat) : zTr := (fun q => T.1 (b :: q), fun q => T.2 (b :: q))
def zmk (o : Option (Nat × Int32)) (ty : Nat) (ch : Nat → zTr) : zTr := (fun q => match q with
  | [] => o
  | b :: q => (ch b).1 q, fun q => match q with
  | [] => ty
  | b :: q => (ch b).2 q)
theorem zsub_mk (o : Option (Nat × Int32)) (ty : Nat) (ch : Nat → zTr) (b : Nat) : zsub (zmk o ty ch) b = ch b := rfl
theorem zmk_eta (T : zTr) : zmk (T.1 []) (T.2 []) (zsub T) = T := by
  have h1 : (zmk (T.1 []) (T.2 []) (zsub T)).1 = T.1 := by
    funext q
    cases q <;> rfl
  have h2 : (zmk (T.1 []) (T.2 []) (zsub T)).2 = T.2 := by
    funext q
    cases q <;> rfl
  exact Prod.ext h1 h2
def zlf : zTr := (fun _ => none, fun _ => 0)
/-- the weights below a test -/
def zsd (D : zD) (a : Nat) (t : Int32) (w : Nat → Nat) (b : Nat) : Nat → Nat := fun i => zm_sd (D.2.2.1 a) t (fun i => D.2.2.2.2 i a) w D.2.1 b i
def zcw (D : zD) (w : Nat → Nat) : Nat → Nat := zm_cw D.2.2.2.1 w D.2.1
def zpt (D : zD) (a : Nat) (t : Int32) (w : Nat → Nat) : Nat → Nat := zm_pt (D.2.2.1 a) t (fun i => D.2.2.2.2 i a) w D.2.1
def zty (D : zD) (w : Nat → Nat) (pt : Nat) : Nat := if zm_s (zcw D w) 3 = 0 then pt else zm_fg (zcw D w) 3
def zlf_c (D : zD) (w : Nat → Nat) (m : Nat) : Prop := zm_s (zcw D w) 3 < 1440 * m ∨ zcw D w (zm_fg (zcw D w) 3) = zm_s (zcw D w) 3
def zfos (D : zD) (w : Nat → Nat) (m c : Nat) (a : Nat) : zO := bif c.testBit a then none else zm_ts (D.2.2.1 a) (fun i => D.2.2.2.2 i a) D.2.2.2.1 w D.2.1 m
def zthr (o : zO) : Int32 := match o with
  | some q => q.1
  | none => -1
def zchs (D : zD) (w : Nat → Nat) (m c : Nat) : Option (Nat × Int32) := match zm_ch (zfos D w m c) D.1 with
  | none => none
  | some a => some (a, zthr (zfos D w m c a))
def zcm (D : zD) (a c : Nat) : Nat := if D.2.2.1 a = 0 then c else c ||| 2 ^ a
def zgt (D : zD) (w : Nat → Nat) (m c : Nat) : Option (Nat × Int32) := if zm_s (zcw D w) 3 < 1440 * m ∨ zcw D w (zm_fg (zcw D w) 3) = zm_s (zcw D w) 3 then none else zchs D w m c
def zgw (D : zD) (m : Nat) : Nat → (Nat → Nat) → Nat → Nat → zTr
  | 0, w, _, pt => zmk none (zty D w pt) (fun _ => zlf)
  | f + 1, w, c, pt => match zgt D w m c with
    | none => zmk none (zty D w pt) (fun _ => zlf)
    | some q => zmk (some q) (zty D w pt) (fun b => zgw D m f (zsd D q.1 q.2 w b) (zcm D q.1 c) (zty D w pt))
def zch (σ : ze_S) (pl b : Nat) : Nat := (σ.1 21 (4 * pl + b)).toNatClampNeg
/-- the tree T at a place, reached by the path p, with the weights w, at most f below; P tells each place its path -/
def zRC (D : zD) (σ : ze_S) (P : Nat → List Nat) : Nat → (Nat → Nat) → Nat → List Nat → zTr → Prop
  | 0, w, pl, p, T => (pl < 85 ∧ P pl = p ∧ σ.1 18 pl = nI (T.2 []) ∧ T.2 [] < 3 ∧ (∀ c, c < 3 → σ.1 19 (3 * pl + c) = nI (zcw D w c)) ∧ T.2 [] = zty D w (T.2 [])) ∧ (T.1 [] = none ∧ σ.1 15 pl = -1 ∧ σ.1 16 pl = -1 ∧ σ.1 17 pl = 0)
  | f + 1, w, pl, p, T => (pl < 85 ∧ P pl = p ∧ σ.1 18 pl = nI (T.2 []) ∧ T.2 [] < 3 ∧ (∀ c, c < 3 → σ.1 19 (3 * pl + c) = nI (zcw D w c)) ∧ T.2 [] = zty D w (T.2 [])) ∧ ((T.1 [] = none ∧ σ.1 15 pl = -1 ∧ σ.1 16 pl = -1 ∧ σ.1 17 pl = 0) ∨
    ∃ a t, T.1 [] = some (a, t) ∧ a < D.1 ∧ zth D a t ∧ σ.1 15 pl = nI a ∧ σ.1 16 pl = t ∧ σ.1 17 pl = nI (zm_nb (D.2.2.1 a)) ∧ (∀ b, b < 4 → σ.1 20 (4 * pl + b) = nI (zpt D a t w b)) ∧
      ∀ b, b < zm_nb (D.2.2.1 a) → σ.1 21 (4 * pl + b) = nI (zch σ pl b) ∧ zRC D σ P f (zsd D a t w b) (zch σ pl b) (p ++ [b]) (zsub T b))
/-- nothing differs at place q -/
def zsame (σ τ : ze_S) (q : Nat) : Prop := τ.1 15 q = σ.1 15 q ∧ τ.1 16 q = σ.1 16 q ∧ τ.1 17 q = σ.1 17 q ∧ τ.1 18 q = σ.1 18 q ∧ (∀ c, c < 3 → τ.1 19 (3 * q + c) = σ.1 19 (3 * q + c)) ∧ (∀ b, b < 4 → τ.1 20 (4 * q + b) = σ.1 20 (4 * q + b)) ∧ ∀ b, b < 4 → τ.1 21 (4 * q + b) = σ.1 21 (4 * q + b)
theorem zsame_rf (σ : ze_S) (q : Nat) : zsame σ σ q := ⟨rfl, rfl, rfl, rfl, fun _ _ => rfl, fun _ _ => rfl, fun _ _ => rfl⟩
theorem zsame_tr {σ τ υ : ze_S} {q : Nat} (h : zsame σ τ q) (k : zsame τ υ q) : zsame σ υ q :=
  ⟨k.1.trans h.1, k.2.1.trans h.2.1, k.2.2.1.trans h.2.2.1, k.2.2.2.1.trans h.2.2.2.1, fun c hc => (k.2.2.2.2.1 c hc).trans (h.2.2.2.2.1 c hc), fun c hc => (k.2.2.2.2.2.1 c hc).trans (h.2.2.2.2.2.1 c hc), fun c hc => (k.2.2.2.2.2.2 c hc).trans (h.2.2.2.2.2.2 c hc)⟩
theorem zsame_x {l : List Nat} {σ τ : ze_S} (h : zx l σ τ) (h15 : 15 ∉ l) (h16 : 16 ∉ l) (h17 : 17 ∉ l) (h18 : 18 ∉ l) (h19 : 19 ∉ l) (h20 : 20 ∉ l) (h21 : 21 ∉ l) (q : Nat) : zsame σ τ q := by
  unfold zsame
  rw [(h 15 h15).1, (h 16 h16).1, (h 17 h17).1, (h 18 h18).1, (h 19 h19).1, (h 20 h20).1, (h 21 h21).1]
  exact zsame_rf σ q
theorem zRC_hd {D : zD} {σ : ze_S} {P : Nat → List Nat} {f : Nat} {w : Nat → Nat} {pl : Nat} {p : List Nat} {T : zTr} (h : zRC D σ P f w pl p T) : pl < 85 ∧ P pl = p ∧ σ.1 18 pl = nI (T.2 []) ∧ T.2 [] < 3 ∧ (∀ c, c < 3 → σ.1 19 (3 * pl + c) = nI (zcw D w c)) ∧ T.2 [] = zty D w (T.2 []) := by
  cases f with
  | zero => exact h.1
  | succ f => exact h.1
theorem zRC_eq {D : zD} {σ τ : ze_S} {P R : Nat → List Nat} : ∀ {f : Nat} {w : Nat → Nat} {pl : Nat} {p : List Nat} {T : zTr}, zdok D → zRC D σ P f w pl p T → (∀ q, p <+: P q → zsame σ τ q ∧ R q = P q) → zRC D τ R f w pl p T
  | 0, w, pl, p, T, _, h, hs => by
    obtain ⟨⟨a1, a2, a3, a4, a5, a6⟩, b1, b2, b3, b4⟩ := h
    obtain ⟨⟨s15, s16, s17, s18, s19, s20, s21⟩, r⟩ := hs pl (by rw [a2]; exact List.prefix_rfl)
    exact ⟨⟨a1, by rw [r]; exact a2, by rw [s18]; exact a3, a4, fun c hc => by rw [s19 c hc]; exact a5 c hc, a6⟩, b1, by rw [s15]; exact b2, by rw [s16]; exact b3, by rw [s17]; exact b4⟩
  | f + 1, w, pl, p, T, hd, h, hs => by
    obtain ⟨⟨a1, a2, a3, a4, a5, a6⟩, hb⟩ := h
    obtain ⟨⟨s15, s16, s17, s18, s19, s20, s21⟩, r⟩ := hs pl (by rw [a2]; exact List.prefix_rfl)
    refine ⟨⟨a1, by rw [r]; exact a2, by rw [s18]; exact a3, a4, fun c hc => by rw [s19 c hc]; exact a5 c hc, a6⟩, ?_⟩
    rcases hb with ⟨b1, b2, b3, b4⟩ | ⟨a, t, c1, c2, c3, c4, c5, c6, c7, c8⟩
    · exact Or.inl ⟨b1, by rw [s15]; exact b2, by rw [s16]; exact b3, by rw [s17]; exact b4⟩
    · have hnb : zm_nb (D.2.2.1 a) ≤ 4 := by
        have := hd.2.2.1 a c2
        unfold zm_nb
        split <;> omega
      refine Or.inr ⟨a, t, c1, c2, c3, by rw [s15]; exact c4, by rw [s16]; exact c5, by rw [s17]; exact c6, fun b hb => by rw [s20 b hb]; exact c7 b hb, fun b hb => ?_⟩
      have e : zch τ pl b = zch σ pl b := by
        unfold zch
        rw [s21 b (by omega)]
      rw [e, s21 b (by omega)]
      exact ⟨(c8 b hb).1, zRC_eq hd (c8 b hb).2 (fun q hq => hs q ((List.prefix_append p [b]).trans hq))⟩
theorem znb4 {D : zD} (hd : zdok D) {a : Nat} (ha : a < D.1) : 2 ≤ zm_nb (D.2.2.1 a) ∧ zm_nb (D.2.2.1 a) ≤ 4 := by
  have := hd.2.2.1 a ha
  unfold zm_nb
  split <;> omega
theorem zcw_sum {D : zD} (hd : zdok D) {w : Nat → Nat} : zm_s (zcw D w) 3 = zm_s w D.2.1 := by
  rw [zm_s3]
  exact zm_cw_sum hd.2.2.2.1
theorem zsd_le {D : zD} {a : Nat} {t : Int32} {w : Nat → Nat} {b i : Nat} : zsd D a t w b i ≤ w i := zm_ps_le zm_pt_le
