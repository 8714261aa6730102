/-! cases that agree up to n -/
def zag (n : Nat) (D E : zD) : Prop := E.1 = D.1 ∧ E.2.2.1 = D.2.2.1 ∧ n ≤ D.2.1 ∧ n ≤ E.2.1 ∧ (∀ i, i < n → E.2.2.2.1 i = D.2.2.2.1 i) ∧ ∀ i, i < n → E.2.2.2.2 i = D.2.2.2.2 i
def zz (n : Nat) (w : Nat → Nat) : Prop := ∀ i, n ≤ i → w i = 0
theorem zm_s_cut {f : Nat → Nat} {n : Nat} (h : ∀ i, n ≤ i → f i = 0) : ∀ {m : Nat}, n ≤ m → zm_s f m = zm_s f n
  | 0, hm => by
    have : n = 0 := by omega
    rw [this]
  | m + 1, hm => by
    by_cases q : n = m + 1
    · rw [q]
    · show zm_s f m + f m = _
      rw [h m (by omega), zm_s_cut h (m := m) (by omega)]
      rfl
theorem zag_cw {n : Nat} {D E : zD} (h : zag n D E) {w : Nat → Nat} (hw : zz n w) : zcw E w = zcw D w := by
  funext c
  show zm_s (fun i => if E.2.2.2.1 i = c then w i else 0) E.2.1 = zm_s (fun i => if D.2.2.2.1 i = c then w i else 0) D.2.1
  rw [zm_s_cut (n := n) (fun i hi => by show (if E.2.2.2.1 i = c then w i else 0) = 0; rw [hw i hi]; split <;> rfl) h.2.2.2.1, zm_s_cut (n := n) (fun i hi => by show (if D.2.2.2.1 i = c then w i else 0) = 0; rw [hw i hi]; split <;> rfl) h.2.2.1]
  exact zm_s_eq (fun i hi => by rw [h.2.2.2.2.1 i hi])
theorem zag_pt {n : Nat} {D E : zD} (h : zag n D E) {w : Nat → Nat} (hw : zz n w) (a : Nat) (t : Int32) : zpt E a t w = zpt D a t w := by
  funext b
  show zm_s (fun i => if 0 ≤ E.2.2.2.2 i a ∧ zm_br (E.2.2.1 a) t (E.2.2.2.2 i a) = b then w i else 0) E.2.1 = zm_s (fun i => if 0 ≤ D.2.2.2.2 i a ∧ zm_br (D.2.2.1 a) t (D.2.2.2.2 i a) = b then w i else 0) D.2.1
  rw [zm_s_cut (n := n) (fun i hi => by show (if 0 ≤ E.2.2.2.2 i a ∧ zm_br (E.2.2.1 a) t (E.2.2.2.2 i a) = b then w i else 0) = 0; rw [hw i hi]; split <;> rfl) h.2.2.2.1, zm_s_cut (n := n) (fun i hi => by show (if 0 ≤ D.2.2.2.2 i a ∧ zm_br (D.2.2.1 a) t (D.2.2.2.2 i a) = b then w i else 0) = 0; rw [hw i hi]; split <;> rfl) h.2.2.1]
  exact zm_s_eq (fun i hi => by rw [h.2.2.2.2.2 i hi, h.2.1])
theorem zag_kn {n : Nat} {D E : zD} (h : zag n D E) {w : Nat → Nat} (hw : zz n w) (a : Nat) : zm_kn (fun i => E.2.2.2.2 i a) w E.2.1 = zm_kn (fun i => D.2.2.2.2 i a) w D.2.1 := by
  show zm_s (fun i => if 0 ≤ E.2.2.2.2 i a then w i else 0) E.2.1 = zm_s (fun i => if 0 ≤ D.2.2.2.2 i a then w i else 0) D.2.1
  rw [zm_s_cut (n := n) (fun i hi => by show (if 0 ≤ E.2.2.2.2 i a then w i else 0) = 0; rw [hw i hi]; split <;> rfl) h.2.2.2.1, zm_s_cut (n := n) (fun i hi => by show (if 0 ≤ D.2.2.2.2 i a then w i else 0) = 0; rw [hw i hi]; split <;> rfl) h.2.2.1]
  exact zm_s_eq (fun i hi => by rw [h.2.2.2.2.2 i hi])
theorem zz_sd {n : Nat} {D : zD} {w : Nat → Nat} (hw : zz n w) (a : Nat) (t : Int32) (b : Nat) : zz n (zsd D a t w b) := fun i hi => by
  have := zsd_le (D := D) (a := a) (t := t) (w := w) (b := b) (i := i)
  rw [hw i hi] at this
  omega
theorem zag_sd {n : Nat} {D E : zD} (h : zag n D E) {w : Nat → Nat} (hw : zz n w) (a : Nat) (t : Int32) (b : Nat) : zsd E a t w b = zsd D a t w b := by
  funext i
  by_cases hi : i < n
  · show zm_ps (E.2.2.1 a) t (zpt E a t w) (zm_kn (fun i => E.2.2.2.2 i a) w E.2.1) (zm_fg (zpt E a t w) 4) (w i) (E.2.2.2.2 i a) b = zm_ps (D.2.2.1 a) t (zpt D a t w) (zm_kn (fun i => D.2.2.2.2 i a) w D.2.1) (zm_fg (zpt D a t w) 4) (w i) (D.2.2.2.2 i a) b
    rw [zag_pt h hw, zag_kn h hw, h.2.1, h.2.2.2.2.2 i hi]
  · rw [zz_sd hw a t b i (by omega), zz_sd hw a t b i (by omega)]
theorem zag_ty {n : Nat} {D E : zD} (h : zag n D E) {w : Nat → Nat} (hw : zz n w) (ty : Nat) : zty E w ty = zty D w ty := by
  unfold zty
  rw [zag_cw h hw]
theorem zag_le {n : Nat} {D E : zD} (h : zag n D E) {w : Nat → Nat} (hw : zz n w) (ch : Nat) : zle E w ch = zle D w ch := by
  unfold zle
  rw [zag_cw h hw]
theorem zag_er {n : Nat} {D E : zD} (h : zag n D E) (ch : Nat) : ∀ (f : Nat) (w : Nat → Nat) (T : zTr), zz n w → zer E ch f w T = zer D ch f w T
  | 0, w, T, hw => zag_le h hw ch
  | f + 1, w, T, hw => by
    show (match T.1 [] with | none => zle E w ch | some q => zm_s (fun b => zer E ch f (zsd E q.1 q.2 w b) (zsub T b)) (zm_nb (E.2.2.1 q.1))) = (match T.1 [] with | none => zle D w ch | some q => zm_s (fun b => zer D ch f (zsd D q.1 q.2 w b) (zsub T b)) (zm_nb (D.2.2.1 q.1)))
    cases T.1 [] with
    | none => exact zag_le h hw ch
    | some q =>
      show zm_s (fun b => zer E ch f (zsd E q.1 q.2 w b) (zsub T b)) (zm_nb (E.2.2.1 q.1)) = zm_s (fun b => zer D ch f (zsd D q.1 q.2 w b) (zsub T b)) (zm_nb (D.2.2.1 q.1))
      rw [h.2.1]
      exact zm_s_eq (fun b _ => by rw [zag_sd h hw]; exact zag_er h ch f _ _ (zz_sd hw _ _ _))
theorem zag_rt {n : Nat} {D E : zD} (h : zag n D E) : ∀ (f : Nat) (w : Nat → Nat) (T : zTr), zz n w → zrt E f w T = zrt D f w T
  | 0, w, T, hw => by
    show zmk _ (zty E w (T.2 [])) _ = zmk _ (zty D w (T.2 [])) _
    rw [zag_ty h hw]
  | f + 1, w, T, hw => by
    show (match T.1 [] with | none => zmk none (zty E w (T.2 [])) (zsub T) | some q => zmk (some q) (zty E w (T.2 [])) (fun b => if b < zm_nb (E.2.2.1 q.1) then zrt E f (zsd E q.1 q.2 w b) (zsub T b) else zsub T b)) = (match T.1 [] with | none => zmk none (zty D w (T.2 [])) (zsub T) | some q => zmk (some q) (zty D w (T.2 [])) (fun b => if b < zm_nb (D.2.2.1 q.1) then zrt D f (zsd D q.1 q.2 w b) (zsub T b) else zsub T b))
    rw [zag_ty h hw, h.2.1]
    cases T.1 [] with
    | none => rfl
    | some q =>
      show zmk _ _ (fun b => if b < zm_nb (D.2.2.1 q.1) then zrt E f (zsd E q.1 q.2 w b) (zsub T b) else zsub T b) = zmk _ _ (fun b => if b < zm_nb (D.2.2.1 q.1) then zrt D f (zsd D q.1 q.2 w b) (zsub T b) else zsub T b)
      congr 1
      funext b
      rw [zag_sd h hw, zag_rt h f _ _ (zz_sd hw _ _ _)]
theorem zag_pl {n : Nat} {D E : zD} (h : zag n D E) (ch f : Nat) {w : Nat → Nat} (hw : zz n w) (ty a : Nat) (t : Int32) (S : Nat → zTr) : zpl E ch f w ty a t S = zpl D ch f w ty a t S := by
  have e1 : zhv E w a t = zhv D w a t := by
    unfold zhv
    rw [h.2.1]
    congr 1
    funext b
    rw [zag_sd h hw, zag_cw h (zz_sd hw _ _ _)]
  have e2 : zm_s (fun b => zer E ch f (zsd E a t w b) (S b)) (zm_nb (E.2.2.1 a)) = zm_s (fun b => zer D ch f (zsd D a t w b) (S b)) (zm_nb (D.2.2.1 a)) := by
    rw [h.2.1]
    exact zm_s_eq (fun b _ => by rw [zag_sd h hw]; exact zag_er h ch f _ _ (zz_sd hw _ _ _))
  unfold zpl
  rw [e1, e2, zag_le h hw, zag_er h ch f _ _ hw, zag_rt h f _ _ hw]
theorem zag_pn {n : Nat} {D E : zD} (h : zag n D E) (ch : Nat) : ∀ (f : Nat) (w : Nat → Nat) (T : zTr), zz n w → zpn E ch f w T = zpn D ch f w T
  | 0, w, T, hw => rfl
  | f + 1, w, T, hw => by
    show (match T.1 [] with | none => T | some q => zpl E ch f w (T.2 []) q.1 q.2 (fun b => if b < zm_nb (E.2.2.1 q.1) then zpn E ch f (zsd E q.1 q.2 w b) (zsub T b) else zsub T b)) = (match T.1 [] with | none => T | some q => zpl D ch f w (T.2 []) q.1 q.2 (fun b => if b < zm_nb (D.2.2.1 q.1) then zpn D ch f (zsd D q.1 q.2 w b) (zsub T b) else zsub T b))
    cases T.1 [] with
    | none => rfl
    | some q =>
      show zpl E ch f w (T.2 []) q.1 q.2 (fun b => if b < zm_nb (E.2.2.1 q.1) then zpn E ch f (zsd E q.1 q.2 w b) (zsub T b) else zsub T b) = zpl D ch f w (T.2 []) q.1 q.2 (fun b => if b < zm_nb (D.2.2.1 q.1) then zpn D ch f (zsd D q.1 q.2 w b) (zsub T b) else zsub T b)
      rw [zag_pl h ch f hw, h.2.1]
      congr 1
      funext b
      rw [zag_sd h hw, zag_pn h ch f _ _ (zz_sd hw _ _ _)]
theorem zag_gv {n : Nat} {D E : zD} (h : zag n D E) (vs : Nat → Int32) : ∀ (f : Nat) (w : Nat → Nat) (T : zTr) (x : Nat), zz n w → zgv E vs f w T x = zgv D vs f w T x
  | 0, w, T, x, hw => by
    funext c
    show zgl E w (T.2 []) x c = zgl D w (T.2 []) x c
    unfold zgl zpo
    rw [zag_cw h hw]
  | f + 1, w, T, x, hw => by
    funext c
    show (match T.1 [] with | none => zgl E w (T.2 []) x c | some q => zm_s (fun b => zgv E vs f (zsd E q.1 q.2 w b) (zsub T b) (zm_ps (E.2.2.1 q.1) q.2 (zpt E q.1 q.2 w) (zm_s (zpt E q.1 q.2 w) 4) (zm_fg (zpt E q.1 q.2 w) 4) x (vs q.1) b) c) (zm_nb (E.2.2.1 q.1))) = (match T.1 [] with | none => zgl D w (T.2 []) x c | some q => zm_s (fun b => zgv D vs f (zsd D q.1 q.2 w b) (zsub T b) (zm_ps (D.2.2.1 q.1) q.2 (zpt D q.1 q.2 w) (zm_s (zpt D q.1 q.2 w) 4) (zm_fg (zpt D q.1 q.2 w) 4) x (vs q.1) b) c) (zm_nb (D.2.2.1 q.1)))
    cases T.1 [] with
    | none =>
      show zgl E w (T.2 []) x c = zgl D w (T.2 []) x c
      unfold zgl zpo
      rw [zag_cw h hw]
    | some q =>
      show zm_s (fun b => zgv E vs f (zsd E q.1 q.2 w b) (zsub T b) (zm_ps (E.2.2.1 q.1) q.2 (zpt E q.1 q.2 w) (zm_s (zpt E q.1 q.2 w) 4) (zm_fg (zpt E q.1 q.2 w) 4) x (vs q.1) b) c) (zm_nb (E.2.2.1 q.1)) = zm_s (fun b => zgv D vs f (zsd D q.1 q.2 w b) (zsub T b) (zm_ps (D.2.2.1 q.1) q.2 (zpt D q.1 q.2 w) (zm_s (zpt D q.1 q.2 w) 4) (zm_fg (zpt D q.1 q.2 w) 4) x (vs q.1) b) c) (zm_nb (D.2.2.1 q.1))
      rw [h.2.1, zag_pt h hw]
      exact zm_s_eq (fun b _ => by rw [zag_sd h hw, zag_gv h vs f _ _ _ (zz_sd hw _ _ _)])
theorem zag_RC {n : Nat} {D E : zD} (h : zag n D E) {σ : ze_S} {P : Nat → List Nat} : ∀ {f : Nat} {w : Nat → Nat} {pl : Nat} {p : List Nat} {T : zTr}, zz n w → zRC D σ P f w pl p T → zRC E σ P f w pl p T
  | 0, w, pl, p, T, hw, hR => ⟨⟨hR.1.1, hR.1.2.1, hR.1.2.2.1, hR.1.2.2.2.1, by rw [zag_cw h hw]; exact hR.1.2.2.2.2.1, by rw [zag_ty h hw]; exact hR.1.2.2.2.2.2⟩, hR.2⟩
  | f + 1, w, pl, p, T, hw, hR => by
    refine ⟨⟨hR.1.1, hR.1.2.1, hR.1.2.2.1, hR.1.2.2.2.1, by rw [zag_cw h hw]; exact hR.1.2.2.2.2.1, by rw [zag_ty h hw]; exact hR.1.2.2.2.2.2⟩, ?_⟩
    rcases hR.2 with c | ⟨a, t, c1, c2, c3, c4, c5, c6, c7, c8⟩
    · exact Or.inl c
    · refine Or.inr ⟨a, t, c1, by rw [h.1]; exact c2, by unfold zth; rw [h.2.1]; exact c3, c4, c5, by rw [h.2.1]; exact c6, by rw [zag_pt h hw]; exact c7, fun b hb => ?_⟩
      rw [h.2.1] at hb
      rw [zag_sd h hw]
      exact ⟨(c8 b hb).1, zag_RC h (zz_sd hw _ _ _) (c8 b hb).2⟩
theorem zpre_k {D E : zD} (h : E.2.2.1 = D.2.2.1) (σ : ze_S) : ∀ (f pl : Nat) (T : zTr), zpre E σ f pl T = zpre D σ f pl T
  | 0, _, _ => rfl
  | f + 1, pl, T => by
    show pl :: (match T.1 [] with | none => [] | some q => zcat (fun b => zpre E σ f (zch σ pl b) (zsub T b)) (zm_nb (E.2.2.1 q.1))) = pl :: (match T.1 [] with | none => [] | some q => zcat (fun b => zpre D σ f (zch σ pl b) (zsub T b)) (zm_nb (D.2.2.1 q.1)))
    congr 1
    cases T.1 [] with
    | none => rfl
    | some q =>
      show zcat _ (zm_nb (E.2.2.1 q.1)) = zcat _ (zm_nb (D.2.2.1 q.1))
      rw [h]
      exact zcat_eq (fun b _ => zpre_k h σ f _ _)
theorem zz_w0 (n : Nat) : zz n (zw0 n) := fun i hi => if_neg (by omega)
theorem zag_add {D : zD} {n t : Nat} {r : Nat → Int32} (hn : n ≤ D.2.1) : zag n D (zadd D t r) :=
  ⟨rfl, rfl, hn, Nat.le_succ_of_le hn, fun i hi => if_neg (by omega), fun i hi => by
    show (fun a => if i = D.2.1 then r a else D.2.2.2.2 i a) = _
    funext a
    exact if_neg (by omega)⟩
def ztr (D : zD) (n : Nat) : zD := (D.1, n, D.2.2)
theorem zag_tr {D : zD} {n : Nat} (hn : n ≤ D.2.1) : zag n D (ztr D n) := ⟨rfl, rfl, hn, Nat.le_refl _, fun _ _ => rfl, fun _ _ => rfl⟩
theorem zag_TC {D E : zD} {n : Nat} {σ : ze_S} {T : zTr} (h : zag n D E) (hT : zTC D σ n T) : zTC E σ n T := by
  obtain ⟨h1, ⟨P, h2⟩, h3, h4⟩ := hT
  refine ⟨h1, ⟨P, zag_RC h (zz_w0 n) h2⟩, ?_, ?_⟩
  · rw [zpre_k h.2.1]; exact h3
  · rw [zpre_k h.2.1]; exact h4
