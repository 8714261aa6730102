/-! A small machine over abstract cells: frames of abstract values, a row an instruction; its judgement `ze_ev` is a weakest precondition, least fixed point. References are numbers of cells. -/
abbrev ze_S : Type := (Nat → Nat → Int32) × (Nat → Nat → Int64)
abbrev ze_F : Type := Nat × List (Option Value) × List Value × ze_S
abbrev ze_R : Type := (Prop × ze_F) ⊕ (Prop × ze_F × ze_F) ⊕ (Prop × Nat × List Value × ze_S × (Option Value → ze_S → ze_F)) ⊕ (Prop × Option Value × ze_S)
abbrev ze_P : Type := Option Value → ze_S → Prop
abbrev ze_T : Type := List (Nat × (ze_F → ze_R))
def ze_bad : ze_R := .inl (False, (0, [], [], (fun _ _ => 0, fun _ _ => 0)))
def ze_go (f : ze_F) : ze_R := .inl (True, f)
def ze_gi (g : Prop) (f : ze_F) : ze_R := .inl (g, f)
def ze_br (c : Prop) (a b : ze_F) : ze_R := .inr (.inl (c, a, b))
def ze_ca (g : Prop) (mi : Nat) (as : List Value) (σ : ze_S) (k : Option Value → ze_S → ze_F) : ze_R := .inr (.inr (.inl (g, mi, as, σ, k)))
def ze_rt (g : Prop) (v : Option Value) (σ : ze_S) : ze_R := .inr (.inr (.inr (g, v, σ)))
def ze_pre (M : Nat → List Value → ze_S → ze_P → Prop) (Q : ze_P) (X : ze_F → Prop) : ze_R → Prop
  | .inl (g, f) => g ∧ X f
  | .inr (.inl (c, a, b)) => (c → X a) ∧ (¬ c → X b)
  | .inr (.inr (.inl (g, mi, as, σ, k))) => g ∧ ∃ P : ze_P, M mi as σ P ∧ ∀ v σ', P v σ' → X (k v σ')
  | .inr (.inr (.inr (g, v, σ))) => g ∧ Q v σ
theorem ze_pre_mono {M M' : Nat → List Value → ze_S → ze_P → Prop} {Q Q' : ze_P} {X X' : ze_F → Prop} (hM : ∀ mi as σ P, M mi as σ P → M' mi as σ P) (hQ : ∀ v σ, Q v σ → Q' v σ) (hX : ∀ f, X f → X' f) :
    ∀ r : ze_R, ze_pre M Q X r → ze_pre M' Q' X' r
  | .inl (_, _), h => ⟨h.1, hX _ h.2⟩
  | .inr (.inl (_, _, _)), h => ⟨fun c => hX _ (h.1 c), fun c => hX _ (h.2 c)⟩
  | .inr (.inr (.inl (_, _, _, _, _))), h => by
    obtain ⟨hg, P, hp, hk⟩ := h
    exact ⟨hg, P, hM _ _ _ _ hp, fun v σ' q => hX _ (hk v σ' q)⟩
  | .inr (.inr (.inr (_, _, _))), h => ⟨h.1, hQ _ _ h.2⟩
def ze_ev (M : Nat → List Value → ze_S → ze_P → Prop) (op : ze_F → ze_R) (Q : ze_P) (f : ze_F) : Prop := ∀ X : ze_F → Prop, (∀ f, ze_pre M Q X (op f) → X f) → X f
section ZeEv
variable {M M' : Nat → List Value → ze_S → ze_P → Prop} {op : ze_F → ze_R} {Q Q' : ze_P} {f f' a b : ze_F} {g c : Prop} {mi : Nat} {as : List Value} {σ : ze_S} {k : Option Value → ze_S → ze_F} {v : Option Value}
theorem ze_in (h : ze_pre M Q (ze_ev M op Q) (op f)) : ze_ev M op Q f := fun X hX => hX f (ze_pre_mono (fun _ _ _ _ h => h) (fun _ _ h => h) (fun _ hf => hf X hX) _ h)
theorem ze_ev_mono (hM : ∀ mi as σ P, M mi as σ P → M' mi as σ P) (hQ : ∀ v σ, Q v σ → Q' v σ) (h : ze_ev M op Q f) : ze_ev M' op Q' f := h _ (fun _ hf => ze_in (ze_pre_mono hM hQ (fun _ q => q) _ hf))
theorem ze_ev_post (h : ze_ev M op Q f) (hQ : ∀ v σ, Q v σ → Q' v σ) : ze_ev M op Q' f := ze_ev_mono (fun _ _ _ _ h => h) hQ h
theorem ze_go1 (h : op f = ze_go f') (kk : ze_ev M op Q f') : ze_ev M op Q f := ze_in (by rw [h]; exact ⟨trivial, kk⟩)
theorem ze_go2 (h : op f = ze_gi g f') (hg : g) (kk : ze_ev M op Q f') : ze_ev M op Q f := ze_in (by rw [h]; exact ⟨hg, kk⟩)
theorem ze_br1 (h : op f = ze_br c a b) (k1 : c → ze_ev M op Q a) (k2 : ¬ c → ze_ev M op Q b) : ze_ev M op Q f := ze_in (by rw [h]; exact ⟨k1, k2⟩)
theorem ze_brT (h : op f = ze_br c a b) (hc : c) (k1 : ze_ev M op Q a) : ze_ev M op Q f := ze_br1 h (fun _ => k1) (fun n => absurd hc n)
theorem ze_brF (h : op f = ze_br c a b) (hc : ¬ c) (k1 : ze_ev M op Q b) : ze_ev M op Q f := ze_br1 h (fun n => absurd n hc) (fun _ => k1)
theorem ze_ca1 {P : ze_P} (h : op f = ze_ca g mi as σ k) (hg : g) (hM : M mi as σ P) (kk : ∀ v σ', P v σ' → ze_ev M op Q (k v σ')) : ze_ev M op Q f := ze_in (by rw [h]; exact ⟨hg, P, hM, kk⟩)
theorem ze_rt1 (h : op f = ze_rt g v σ) (hg : g) (hq : Q v σ) : ze_ev M op Q f := ze_in (by rw [h]; exact ⟨hg, hq⟩)
end ZeEv
def ze_lk : ze_T → Nat → ze_F → ze_R
  | [], _, _ => ze_bad
  | q :: t, pc, f => bif Nat.beq q.1 pc then q.2 f else ze_lk t pc f
def ze_op (t : ze_T) (f : ze_F) : ze_R := ze_lk t f.1 f
def ze_ent (n : Nat) (as : List Value) : List (Option Value) := as.map some ++ List.replicate (n - as.length) none
def ze_M (tb : Nat → ze_T) (nl : Nat → Nat) : Nat → Nat → List Value → ze_S → ze_P → Prop
  | 0, _, _, _, _ => False
  | d + 1, mi, as, σ, Q => ze_ev (ze_M tb nl d) (ze_op (tb mi)) Q (0, ze_ent (nl mi) as, [], σ)
theorem ze_M_up (tb : Nat → ze_T) (nl : Nat → Nat) : ∀ (d : Nat) (mi : Nat) (as : List Value) (σ : ze_S) (Q : ze_P), ze_M tb nl d mi as σ Q → ze_M tb nl (d + 1) mi as σ Q
  | 0, _, _, _, _, h => h.elim
  | d + 1, _, _, _, _, h => ze_ev_mono (ze_M_up tb nl d) (fun _ _ q => q) h
theorem ze_M_le {tb : Nat → ze_T} {nl : Nat → Nat} {d d' mi : Nat} {as : List Value} {σ : ze_S} {Q : ze_P} (h : ze_M tb nl d mi as σ Q) (hd : d ≤ d') : ze_M tb nl d' mi as σ Q := by
  induction hd with
  | refl => exact h
  | step _ ih => exact ze_M_up tb nl _ _ _ _ _ ih
theorem ze_M_post {tb : Nat → ze_T} {nl : Nat → Nat} {d mi : Nat} {as : List Value} {σ : ze_S} {Q Q' : ze_P} (h : ze_M tb nl d mi as σ Q) (hQ : ∀ v σ, Q v σ → Q' v σ) : ze_M tb nl d mi as σ Q' := by
  cases d with
  | zero => exact h.elim
  | succ d => exact ze_ev_post h hQ
/-! the frame's variables -/
def ze_g : List (Option Value) → Nat → Option Value
  | [], _ => none
  | o :: _, 0 => o
  | _ :: l, n + 1 => ze_g l n
def ze_s : List (Option Value) → Nat → Option Value → List (Option Value)
  | [], _, _ => []
  | _ :: l, 0, o => o :: l
  | a :: l, n + 1, o => a :: ze_s l n o
def ze_2 : Option Value → Bool
  | some (.long _) => true
  | some (.double _) => true
  | _ => false
def ze_v : List (Option Value) → Nat → List (Option Value)
  | L, 0 => L
  | L, j + 1 => bif ze_2 (ze_g L j) then ze_s L j none else L
def ze_s1 (L : List (Option Value)) (i : Nat) (v : Value) : List (Option Value) := ze_v (ze_s L i (some v)) i
def ze_s2 (L : List (Option Value)) (i : Nat) (v : Value) : List (Option Value) := ze_v (ze_s (ze_s L i (some v)) (i + 1) none) i
theorem ze_g_s : ∀ (L : List (Option Value)) (i j : Nat) (o : Option Value), ze_g (ze_s L i o) j = if j = i ∧ i < L.length then o else ze_g L j
  | [], i, j, o => by simp [ze_s, ze_g]
  | a :: l, 0, 0, o => by simp [ze_s, ze_g]
  | a :: l, 0, j + 1, o => by simp [ze_s, ze_g]
  | a :: l, i + 1, 0, o => by simp [ze_s, ze_g]
  | a :: l, i + 1, j + 1, o => by
    simp only [ze_s, ze_g, ze_g_s l i j o, List.length_cons, Nat.add_right_cancel_iff, Nat.add_lt_add_iff_right]
theorem ze_g_v {L : List (Option Value)} {i j : Nat} {w : Value} (h : ze_g (ze_v L i) j = some w) : ze_g L j = some w ∧ ¬ (j + 1 = i ∧ w.category = 2) := by
  cases i with
  | zero => exact ⟨h, fun q => by omega⟩
  | succ i =>
    cases h2 : ze_2 (ze_g L i) with
    | false =>
      have e : ze_v L (i + 1) = L := by simp [ze_v, h2]
      rw [e] at h
      refine ⟨h, fun q => ?_⟩
      have e2 : j = i := by omega
      subst e2
      rw [h] at h2
      cases w <;> simp_all [ze_2, Value.category]
    | true =>
      have e : ze_v L (i + 1) = ze_s L i none := by simp [ze_v, h2]
      rw [e, ze_g_s] at h
      by_cases q : j = i ∧ i < L.length
      · rw [if_pos q] at h; cases h
      · rw [if_neg q] at h
        refine ⟨h, fun q2 => ?_⟩
        have e2 : j = i := by omega
        subst e2
        have : ¬ j < L.length := fun z => q ⟨rfl, z⟩
        have : ∀ (l : List (Option Value)) (n : Nat), ¬ n < l.length → ze_g l n = none := by
          intro l
          induction l with
          | nil => intro n _; rfl
          | cons a l ih =>
            intro n hn
            cases n with
            | zero => exact absurd (Nat.zero_lt_succ _) hn
            | succ n => exact ih n (fun z => hn (Nat.succ_lt_succ z))
        rw [this L j ‹_›] at h
        cases h
/-! taking values off the stack -/
def ze_wi (o : Option Value) (k : Int32 → ze_R) : ze_R := match o with
  | some (.int x) => k x
  | _ => ze_bad
def ze_wl (o : Option Value) (k : Int64 → ze_R) : ze_R := match o with
  | some (.long x) => k x
  | _ => ze_bad
def ze_wr (o : Option Value) (k : Nat → ze_R) : ze_R := match o with
  | some (.ref x) => k x
  | _ => ze_bad
def ze_pi (st : List Value) (k : Int32 → List Value → ze_R) : ze_R := match st with
  | .int x :: r => k x r
  | _ => ze_bad
def ze_pl (st : List Value) (k : Int64 → List Value → ze_R) : ze_R := match st with
  | .long x :: r => k x r
  | _ => ze_bad
def ze_pr (st : List Value) (k : Nat → List Value → ze_R) : ze_R := match st with
  | .ref x :: r => k x r
  | _ => ze_bad
def ze_pv (st : List Value) (k : Value → List Value → ze_R) : ze_R := match st with
  | x :: r => k x r
  | _ => ze_bad
section ZePre
variable {M : Nat → List Value → ze_S → ze_P → Prop} {Q : ze_P} {X : ze_F → Prop}
theorem ze_no {C : Prop} (h : ze_pre M Q X ze_bad) : C := False.elim (And.left h)
theorem ze_wi_pre {o : Option Value} {k : Int32 → ze_R} (h : ze_pre M Q X (ze_wi o k)) : ∃ x, o = some (.int x) ∧ ze_pre M Q X (k x) := by
  cases o with
  | none => exact ze_no h
  | some v => cases v <;> first | exact ze_no h | exact ⟨_, rfl, h⟩
theorem ze_wl_pre {o : Option Value} {k : Int64 → ze_R} (h : ze_pre M Q X (ze_wl o k)) : ∃ x, o = some (.long x) ∧ ze_pre M Q X (k x) := by
  cases o with
  | none => exact ze_no h
  | some v => cases v <;> first | exact ze_no h | exact ⟨_, rfl, h⟩
theorem ze_wr_pre {o : Option Value} {k : Nat → ze_R} (h : ze_pre M Q X (ze_wr o k)) : ∃ x, o = some (.ref x) ∧ ze_pre M Q X (k x) := by
  cases o with
  | none => exact ze_no h
  | some v => cases v <;> first | exact ze_no h | exact ⟨_, rfl, h⟩
theorem ze_pi_pre {st : List Value} {k : Int32 → List Value → ze_R} (h : ze_pre M Q X (ze_pi st k)) : ∃ x r, st = .int x :: r ∧ ze_pre M Q X (k x r) := by
  cases st with
  | nil => exact ze_no h
  | cons v r => cases v <;> first | exact ze_no h | exact ⟨_, _, rfl, h⟩
theorem ze_pl_pre {st : List Value} {k : Int64 → List Value → ze_R} (h : ze_pre M Q X (ze_pl st k)) : ∃ x r, st = .long x :: r ∧ ze_pre M Q X (k x r) := by
  cases st with
  | nil => exact ze_no h
  | cons v r => cases v <;> first | exact ze_no h | exact ⟨_, _, rfl, h⟩
theorem ze_pr_pre {st : List Value} {k : Nat → List Value → ze_R} (h : ze_pre M Q X (ze_pr st k)) : ∃ x r, st = .ref x :: r ∧ ze_pre M Q X (k x r) := by
  cases st with
  | nil => exact ze_no h
  | cons v r => cases v <;> first | exact ze_no h | exact ⟨_, _, rfl, h⟩
theorem ze_pv_pre {st : List Value} {k : Value → List Value → ze_R} (h : ze_pre M Q X (ze_pv st k)) : ∃ x r, st = x :: r ∧ ze_pre M Q X (k x r) := by
  cases st with
  | nil => exact ze_no h
  | cons v r => exact ⟨_, _, rfl, h⟩
end ZePre
/-! the instructions -/
def zo_k (v : Value) (n : Nat) : ze_F → ze_R
  | (pc, L, st, σ) => ze_go (pc + n, L, v :: st, σ)
def zo_il (i n : Nat) : ze_F → ze_R
  | (pc, L, st, σ) => ze_wi (ze_g L i) fun x => ze_go (pc + n, L, .int x :: st, σ)
def zo_ll (i n : Nat) : ze_F → ze_R
  | (pc, L, st, σ) => ze_wl (ze_g L i) fun x => ze_go (pc + n, L, .long x :: st, σ)
def zo_al (i n : Nat) : ze_F → ze_R
  | (pc, L, st, σ) => ze_wr (ze_g L i) fun x => ze_go (pc + n, L, .ref x :: st, σ)
def zo_is (i n : Nat) : ze_F → ze_R
  | (pc, L, st, σ) => ze_pi st fun x r => ze_go (pc + n, ze_s1 L i (.int x), r, σ)
def zo_ls (i n : Nat) : ze_F → ze_R
  | (pc, L, st, σ) => ze_pl st fun x r => ze_go (pc + n, ze_s2 L i (.long x), r, σ)
def zo_as (i n : Nat) : ze_F → ze_R
  | (pc, L, st, σ) => ze_pr st fun x r => ze_go (pc + n, ze_s1 L i (.ref x), r, σ)
def zo_inc (i : Nat) (c : Int32) : ze_F → ze_R
  | (pc, L, st, σ) => ze_wi (ze_g L i) fun x => ze_go (pc + 3, ze_s1 L i (.int (x + c)), st, σ)
def zo_iadd : ze_F → ze_R
  | (pc, L, st, σ) => ze_pi st fun y r => ze_pi r fun x r => ze_go (pc + 1, L, .int (x + y) :: r, σ)
def zo_isub : ze_F → ze_R
  | (pc, L, st, σ) => ze_pi st fun y r => ze_pi r fun x r => ze_go (pc + 1, L, .int (x - y) :: r, σ)
def zo_imul : ze_F → ze_R
  | (pc, L, st, σ) => ze_pi st fun y r => ze_pi r fun x r => ze_go (pc + 1, L, .int (x * y) :: r, σ)
def zo_idiv : ze_F → ze_R
  | (pc, L, st, σ) => ze_pi st fun y r => ze_pi r fun x r => ze_gi (¬ y = 0) (pc + 1, L, .int (x / y) :: r, σ)
def zo_iand : ze_F → ze_R
  | (pc, L, st, σ) => ze_pi st fun y r => ze_pi r fun x r => ze_go (pc + 1, L, .int (x &&& y) :: r, σ)
def zo_ior : ze_F → ze_R
  | (pc, L, st, σ) => ze_pi st fun y r => ze_pi r fun x r => ze_go (pc + 1, L, .int (x ||| y) :: r, σ)
def zo_ishl : ze_F → ze_R
  | (pc, L, st, σ) => ze_pi st fun y r => ze_pi r fun x r => ze_go (pc + 1, L, .int (x <<< (y &&& 31)) :: r, σ)
def zo_ishr : ze_F → ze_R
  | (pc, L, st, σ) => ze_pi st fun y r => ze_pi r fun x r => ze_go (pc + 1, L, .int (x >>> (y &&& 31)) :: r, σ)
def zo_i2l : ze_F → ze_R
  | (pc, L, st, σ) => ze_pi st fun x r => ze_go (pc + 1, L, .long x.toInt64 :: r, σ)
def zo_ladd : ze_F → ze_R
  | (pc, L, st, σ) => ze_pl st fun y r => ze_pl r fun x r => ze_go (pc + 1, L, .long (x + y) :: r, σ)
def zo_lsub : ze_F → ze_R
  | (pc, L, st, σ) => ze_pl st fun y r => ze_pl r fun x r => ze_go (pc + 1, L, .long (x - y) :: r, σ)
def zo_lmul : ze_F → ze_R
  | (pc, L, st, σ) => ze_pl st fun y r => ze_pl r fun x r => ze_go (pc + 1, L, .long (x * y) :: r, σ)
def zo_lcmp : ze_F → ze_R
  | (pc, L, st, σ) => ze_pl st fun y r => ze_pl r fun x r => ze_go (pc + 1, L, .int (lg_cmp x y) :: r, σ)
def zo_dup : ze_F → ze_R
  | (pc, L, st, σ) => ze_pv st fun v r => ze_gi (v.category = 1) (pc + 1, L, v :: v :: r, σ)
def zo_pop : ze_F → ze_R
  | (pc, L, st, σ) => ze_pv st fun v r => ze_gi (v.category = 1) (pc + 1, L, r, σ)
def zo_dupx1 : ze_F → ze_R
  | (pc, L, st, σ) => ze_pv st fun v r => ze_pv r fun w r => ze_gi (v.category = 1 ∧ w.category = 1) (pc + 1, L, v :: w :: v :: r, σ)
def zo_dupx2 : ze_F → ze_R
  | (pc, L, st, σ) => ze_pv st fun v r => ze_pv r fun w r => ze_pv r fun u r => ze_gi (v.category = 1 ∧ w.category = 1 ∧ u.category = 1) (pc + 1, L, v :: w :: u :: v :: r, σ)
def zo_dup2 : ze_F → ze_R
  | (pc, L, st, σ) => ze_pv st fun v r => ze_pv r fun w r => ze_gi (v.category = 1 ∧ w.category = 1) (pc + 1, L, v :: w :: v :: w :: r, σ)
def zo_goto (t : Nat) : ze_F → ze_R
  | (_, L, st, σ) => ze_go (t, L, st, σ)
def zo_ifeq (t : Nat) : ze_F → ze_R
  | (pc, L, st, σ) => ze_pi st fun x r => ze_br (x = 0) (t, L, r, σ) (pc + 3, L, r, σ)
def zo_ifne (t : Nat) : ze_F → ze_R
  | (pc, L, st, σ) => ze_pi st fun x r => ze_br (¬ x = 0) (t, L, r, σ) (pc + 3, L, r, σ)
def zo_iflt (t : Nat) : ze_F → ze_R
  | (pc, L, st, σ) => ze_pi st fun x r => ze_br (x < 0) (t, L, r, σ) (pc + 3, L, r, σ)
def zo_ifge (t : Nat) : ze_F → ze_R
  | (pc, L, st, σ) => ze_pi st fun x r => ze_br (0 ≤ x) (t, L, r, σ) (pc + 3, L, r, σ)
def zo_ifgt (t : Nat) : ze_F → ze_R
  | (pc, L, st, σ) => ze_pi st fun x r => ze_br (0 < x) (t, L, r, σ) (pc + 3, L, r, σ)
def zo_ifle (t : Nat) : ze_F → ze_R
  | (pc, L, st, σ) => ze_pi st fun x r => ze_br (x ≤ 0) (t, L, r, σ) (pc + 3, L, r, σ)
def zo_ceq (t : Nat) : ze_F → ze_R
  | (pc, L, st, σ) => ze_pi st fun y r => ze_pi r fun x r => ze_br (x = y) (t, L, r, σ) (pc + 3, L, r, σ)
def zo_cne (t : Nat) : ze_F → ze_R
  | (pc, L, st, σ) => ze_pi st fun y r => ze_pi r fun x r => ze_br (¬ x = y) (t, L, r, σ) (pc + 3, L, r, σ)
def zo_clt (t : Nat) : ze_F → ze_R
  | (pc, L, st, σ) => ze_pi st fun y r => ze_pi r fun x r => ze_br (x < y) (t, L, r, σ) (pc + 3, L, r, σ)
def zo_cge (t : Nat) : ze_F → ze_R
  | (pc, L, st, σ) => ze_pi st fun y r => ze_pi r fun x r => ze_br (y ≤ x) (t, L, r, σ) (pc + 3, L, r, σ)
def zo_cgt (t : Nat) : ze_F → ze_R
  | (pc, L, st, σ) => ze_pi st fun y r => ze_pi r fun x r => ze_br (y < x) (t, L, r, σ) (pc + 3, L, r, σ)
def zo_cle (t : Nat) : ze_F → ze_R
  | (pc, L, st, σ) => ze_pi st fun y r => ze_pi r fun x r => ze_br (x ≤ y) (t, L, r, σ) (pc + 3, L, r, σ)
def ze_ui (σ : ze_S) (k j : Nat) (x : Int32) : ze_S := (va_up σ.1 k (upd (σ.1 k) j x), σ.2)
def ze_ul (σ : ze_S) (k j : Nat) (x : Int64) : ze_S := (σ.1, va_up σ.2 k (vp_updL (σ.2 k) j x))
def ze_uf (σ : ze_S) (k : Nat) (f : Nat → Int32) : ze_S := (va_up σ.1 k f, σ.2)
def zo_gi (ci j : Nat) : ze_F → ze_R
  | (pc, L, st, σ) => ze_pr st fun k r => ze_gi (ze_cl k = ci) (pc + 3, L, .int (σ.1 k j) :: r, σ)
def zo_gl (ci j : Nat) : ze_F → ze_R
  | (pc, L, st, σ) => ze_pr st fun k r => ze_gi (ze_cl k = ci) (pc + 3, L, .long (σ.2 k j) :: r, σ)
def zo_gr (ci j : Nat) : ze_F → ze_R
  | (pc, L, st, σ) => ze_pr st fun k r => ze_gi (ze_cl k = ci) (pc + 3, L, .ref (ze_tg ci j k) :: r, σ)
def zo_gc (ci t : Nat) : ze_F → ze_R
  | (pc, L, st, σ) => ze_pr st fun k r => ze_gi (ze_cl k = ci) (pc + 3, L, .ref t :: r, σ)
def zo_gf (ci : Nat) : ze_F → ze_R
  | (pc, L, st, σ) => ze_pr st fun k r => ze_gi (ze_cl k = ci) (pc + 3, L, .ref (k - 33) :: r, σ)
def zo_aq (q b : Nat) : ze_F → ze_R
  | (pc, L, st, σ) => ze_pi st fun i r => ze_pr r fun k r => ze_gi (k = q ∧ vp_in i 4) (pc + 1, L, .ref (b + i.toNatClampNeg) :: r, σ)
def zo_pi (ci j : Nat) : ze_F → ze_R
  | (pc, L, st, σ) => ze_pi st fun x r => ze_pr r fun k r => ze_gi (ze_cl k = ci) (pc + 3, L, r, ze_ui σ k j x)
def zo_pz (ci j : Nat) : ze_F → ze_R
  | (pc, L, st, σ) => ze_pi st fun x r => ze_pr r fun k r => ze_gi (ze_cl k = ci ∧ (x = 0 ∨ x = 1)) (pc + 3, L, r, ze_ui σ k j x)
def zo_pl (ci j : Nat) : ze_F → ze_R
  | (pc, L, st, σ) => ze_pl st fun x r => ze_pr r fun k r => ze_gi (ze_cl k = ci) (pc + 3, L, r, ze_ul σ k j x)
def zo_ia : ze_F → ze_R
  | (pc, L, st, σ) => ze_pi st fun i r => ze_pr r fun k r => ze_gi (ze_isI k = true ∧ vp_in i (ze_len k)) (pc + 1, L, .int (σ.1 k i.toNatClampNeg) :: r, σ)
def zo_ias : ze_F → ze_R
  | (pc, L, st, σ) => ze_pi st fun x r => ze_pi r fun i r => ze_pr r fun k r => ze_gi (ze_isI k = true ∧ vp_in i (ze_len k)) (pc + 1, L, r, ze_ui σ k i.toNatClampNeg x)
def zo_aa : ze_F → ze_R
  | (pc, L, st, σ) => ze_pi st fun i r => ze_pr r fun k r => ze_gi (ze_isQ k = true ∧ vp_in i 4) (pc + 1, L, .ref (ze_qb k + i.toNatClampNeg) :: r, σ)
def zo_len : ze_F → ze_R
  | (pc, L, st, σ) => ze_pr st fun k r => ze_gi (ze_isI k = true) (pc + 1, L, .int (nI (ze_len k)) :: r, σ)
def zo_cpy : ze_F → ze_R
  | (pc, L, st, σ) => ze_pi st fun n r => ze_pi r fun dp r => ze_pr r fun k1 r => ze_pi r fun sp r => ze_pr r fun k0 r =>
    ze_gi ((r.map fun v => v.category).sum ≤ 8 ∧ ze_isI k0 = true ∧ ze_isI k1 = true ∧ ¬ sp < 0 ∧ ¬ dp < 0 ∧ ¬ n < 0 ∧ sp.toNatClampNeg + n.toNatClampNeg ≤ ze_len k0 ∧ dp.toNatClampNeg + n.toNatClampNeg ≤ ze_len k1)
      (pc + 3, L, r, ze_uf σ k1 (va_cpy (σ.1 k0) (σ.1 k1) sp.toNatClampNeg dp.toNatClampNeg n.toNatClampNeg))
def ze_c1 (as : List Value) : Bool := as.all fun v => Nat.beq v.category 1
def ze_rc (ci : Nat) : List Value → Prop
  | .ref k :: _ => ze_cl k = ci
  | _ => False
def ze_ok (n : Nat) (st : List Value) : Bool := Nat.ble n st.length && (Nat.ble (((st.drop n).map fun v => v.category).sum) 8 && ze_c1 (st.take n).reverse)
/-- a static call of method mi with n arguments -/
def zo_cs (mi n : Nat) : ze_F → ze_R
  | (pc, L, st, σ) => ze_ca (ze_ok n st = true) mi (st.take n).reverse σ (fun v σ' => (pc + 3, L, v.toList ++ st.drop n, σ'))
/-- a call of method mi on an object of kind ci, n arguments with the object -/
def zo_cv (mi ci n : Nat) : ze_F → ze_R
  | (pc, L, st, σ) => ze_ca (ze_ok n st = true ∧ ze_rc ci (st.take n).reverse) mi (st.take n).reverse σ (fun v σ' => (pc + 3, L, v.toList ++ st.drop n, σ'))
def zo_ir : ze_F → ze_R
  | (_, _, [.int x], σ) => ze_rt True (some (.int x)) σ
  | _ => ze_bad
def zo_zr : ze_F → ze_R
  | (_, _, [.int x], σ) => ze_rt (x = 0 ∨ x = 1) (some (.int x)) σ
  | _ => ze_bad
def zo_lr : ze_F → ze_R
  | (_, _, [.long x], σ) => ze_rt True (some (.long x)) σ
  | _ => ze_bad
def zo_vr : ze_F → ze_R
  | (_, _, [], σ) => ze_rt True none σ
  | _ => ze_bad
