/-! The small machine is sound: what holds of ze_ev holds of the bytecode. -/
abbrev ze_G : Type := va_G × (Nat → Nat) × (Nat → ClassId)
abbrev ze_I : Type := MethodName × ByteArray × Nat × Option FieldType × List Cond
def ze_ws (i : ze_I) : List Cond := Cond.code i.1 i.2.1 i.2.2.1 i.2.2.2.1 :: i.2.2.2.2
def ze_c (ad : Nat → Nat) : Value → Value
  | .ref k => .ref (ad k)
  | v => v
theorem ze_c_cat (ad : Nat → Nat) (v : Value) : (ze_c ad v).category = v.category := by cases v <;> rfl
def ze_fv (ad : Nat → Nat) (σ : ze_S) (k ci j : Nat) : Value := match ze_kd ci j with
  | 0 => .int (σ.1 k j)
  | 1 => .long (σ.2 k j)
  | _ => .ref (ad (ze_tg ci j k))
def ze_E (G : ze_G) (σ : ze_S) (k : Nat) : va_E :=
  bif ze_isI k then .inl (G.2.2 0, ze_len k, .inl (σ.1 k))
  else bif ze_isQ k then .inl (G.2.2 (ze_qt k), 4, .inr (.inr (.inr (.inr (fun j => some (G.2.1 (ze_qb k + j)))))))
  else .inr (ze_cl k, (List.range (ze_nf (ze_cl k))).map (ze_fv G.2.1 σ k (ze_cl k)))
def ze_w (G : ze_G) (σ : ze_S) : va_W := (List.range ze_N).map fun k => (G.2.1 k, ze_E G σ k)
def ze_ty (G : ze_G) : List (ClassId × FieldType) := (List.range 4).map fun t => (G.2.2 t, ze_at t)
def ze_inj (G : ze_G) : Prop := ∀ i j : Nat, i < ze_N → j < ze_N → G.2.1 i = G.2.1 j → i = j
def ze_A (G : ze_G) : Nat → Prop := fun q => ∃ k, k < ze_N ∧ G.2.1 k = q
theorem ze_w_at (G : ze_G) (σ : ze_S) {k : Nat} (h : k < ze_N) : (ze_w G σ)[k]? = some (G.2.1 k, ze_E G σ k) := by
  simp [ze_w, List.getElem?_map, List.getElem?_range h]
theorem ze_w_in {G : ze_G} {σ : ze_S} {k : Nat} {q : Nat × va_E} (h : (ze_w G σ)[k]? = some q) : k < ze_N ∧ q = (G.2.1 k, ze_E G σ k) := by
  have hk : k < ze_N := by
    have := (List.getElem?_eq_some_iff.mp h).1
    simpa [ze_w] using this
  rw [ze_w_at G σ hk] at h
  exact ⟨hk, (Option.some.inj h).symm⟩
theorem ze_w_D {G : ze_G} (hi : ze_inj G) (σ : ze_S) : va_D (ze_A G) (ze_w G σ) := by
  refine ⟨fun i j p q h1 h2 e => ?_, fun k q h => ?_⟩
  · obtain ⟨k1, rfl⟩ := ze_w_in h1
    obtain ⟨k2, rfl⟩ := ze_w_in h2
    exact hi i j k1 k2 e
  · obtain ⟨k1, rfl⟩ := ze_w_in h
    exact ⟨k, k1, rfl⟩
theorem ze_fv_eq {ad : Nat → Nat} {σ σ' : ze_S} {k ci : Nat} (h1 : σ'.1 k = σ.1 k) (h2 : σ'.2 k = σ.2 k) : ze_fv ad σ' k ci = ze_fv ad σ k ci := by
  funext j
  unfold ze_fv
  rw [h1, h2]
theorem ze_E_eq {G : ze_G} {σ σ' : ze_S} {k : Nat} (h1 : σ'.1 k = σ.1 k) (h2 : σ'.2 k = σ.2 k) : ze_E G σ' k = ze_E G σ k := by
  unfold ze_E
  rw [h1, ze_fv_eq h1 h2]
theorem ze_w_set {G : ze_G} {σ σ' : ze_S} {k : Nat} {e : va_E} (hk : k < ze_N) (he : ze_E G σ' k = e) (ho : ∀ j, j ≠ k → σ'.1 j = σ.1 j ∧ σ'.2 j = σ.2 j) : (ze_w G σ).set k (G.2.1 k, e) = ze_w G σ' := by
  apply List.ext_getElem?
  intro i
  by_cases hi : i < ze_N
  · rw [ze_w_at G σ' hi, List.getElem?_set]
    by_cases h : k = i
    · subst h
      rw [if_pos rfl, he]
      have : k < (ze_w G σ).length := by simpa [ze_w] using hk
      simp [this]
    · rw [if_neg h, ze_w_at G σ hi, ze_E_eq (ho i (Ne.symm h)).1 (ho i (Ne.symm h)).2]
  · have a1 : ((ze_w G σ).set k (G.2.1 k, e)).length ≤ i := by simpa [ze_w] using hi
    have a2 : (ze_w G σ').length ≤ i := by simpa [ze_w] using hi
    rw [List.getElem?_eq_none a1, List.getElem?_eq_none a2]
theorem ze_E_i (G : ze_G) (σ : ze_S) {k : Nat} (h : ze_isI k = true) : ze_E G σ k = .inl (G.2.2 0, ze_len k, .inl (σ.1 k)) := by
  unfold ze_E; rw [h]; rfl
theorem ze_up_at {α : Type} (f : Nat → α) (k : Nat) (v : α) : va_up f k v k = v := if_pos rfl
theorem ze_up_ne {α : Type} (f : Nat → α) {k j : Nat} (v : α) (h : j ≠ k) : va_up f k v j = f j := if_neg h
def ze_K (G : ze_G) (U : State) : Prop := va_K G.1 vwCl (ze_ty G) U ∧ ∀ q ∈ zn, va_Nw (.methodLinkNest q.1 q.2.1 q.2.2 "CaseTree") U
theorem ze_K_warm {G : ze_G} {s U : State} (hW : s.WarmedH U.vm) (h : ze_K G s) : ze_K G U := ⟨va_K.moved hW.alike h.1, fun q hq => va_Nw.warmM hW (h.2 q hq)⟩
def ze_rm (d : Nat) : Room := { frames := d + 1, cells := 0, slots := 0, locals := 60 * (d + 1) }
def ze_Q (G : ze_G) (Q : ze_P) : Array Value → State → Outcome → State → Prop := fun _ st oc t =>
  (∃ (v : Option Value) (σ' : ze_S), oc = .returned (v.map (ze_c G.2.1)) ∧ Q v σ' ∧ va_P G.1 vwCl (ze_w G σ') t.heap) ∧ va_F (ze_A G) st t
def ze_B (G : ze_G) (σ : ze_S) (U : State) : Prop := va_P G.1 vwCl (ze_w G σ) U.heap ∧ ze_K G U
def ze_Met (I : Nat → ze_I) (l : Launch) (d mi : Nat) (G : ze_G) (as : List Value) (σ : ze_S) (Q : ze_P) : Prop :=
  Met l (I mi).1 (ze_ws (I mi)) (ze_rm d) (va_Pc (as.map (ze_c G.2.1)) (ze_B G σ)) (ze_Q G Q) 0 0 (ze_A G)
def ze_lo (ad : Nat → Nat) (ls : Array Slot) (nL : Nat) (L : List (Option Value)) : Prop := ls.size = nL ∧ lv_wf ls ∧ ∀ i v, ze_g L i = some v → ls[i]? = some (.val (ze_c ad v))
def ze_Cx (I : Nat → ze_I) (Ex : ze_G → State → Prop) (M : Nat → List Value → ze_S → ze_P → Prop) (l : Launch) (d : Nat) (i : ze_I) (G : ze_G) (R : Room) (cs sl : Nat) (p : Program) (s : State) (m : MethodId) (args : Array Value) (meth : Method) (c : Code) (Q : ze_P) (Qc : Array Value → State → Outcome → State → Prop) (free : Addr → Prop) : Prop :=
  p.tables.exec = Jvm.exec ∧ c.code = i.2.1 ∧ c.maxLocals = i.2.2.1 ∧ s.vm.findClass i.1.cls = some m.cls ∧ (∀ w ∈ ze_ws i, w.before args s = true) ∧ ze_K G s ∧ ze_inj G ∧ meth.sig.returnType = i.2.2.2.1 ∧ meth.locks = false ∧
  (∀ mi as σ P, M mi as σ P → ze_c1 as = true → as.length ≤ (I mi).2.2.1 → ze_Met I l d mi G as σ P) ∧ (d + 2 ≤ R.frames ∧ 60 * (d + 2) ≤ R.locals ∧ cs ≤ R.cells ∧ sl ≤ R.slots) ∧ Ex G s ∧
  (∀ (v : Option Value) (σ : ze_S) (H : Heap) (locs : List Loc), Q v σ → va_P G.1 vwCl (ze_w G σ) H → va_S (ze_A G) s.heap H locs → (∀ t : State, t.heap = H → s.WarmedH t.vm → Qc args s (.returned (v.map (ze_c G.2.1))) t) ∧ ∀ q ∈ locs, free q.base)
def ze_Z (l : Launch) (nL : Nat) (G : ze_G) (R : Room) (cs sl : Nat) (p : Program) (e : Env) (s : State) (m : MethodId) (args : Array Value) (below : List Frame) (meth : Method) (c : Code) (Qc : Array Value → State → Outcome → State → Prop) (free : Addr → Prop) (f : ze_F) : Prop :=
  ∀ (H : Heap) (locs : List Loc) (ls : Array Slot), va_P G.1 vwCl (ze_w G f.2.2.2) H → va_S (ze_A G) s.heap H locs → ze_lo G.2.1 ls nL f.2.1 →
    W p l e R s m args below meth c H locs cs sl (MQ below Qc args s cs sl free) (F0 m f.1 ls (f.2.2.1.map (ze_c G.2.1)))
def ze_snd (I : Nat → ze_I) (Ex : ze_G → State → Prop) (i : ze_I) (pc : Nat) (op : ze_F → ze_R) : Prop :=
  ∀ (M : Nat → List Value → ze_S → ze_P → Prop) (l : Launch) (d : Nat) (G : ze_G) (R : Room) (cs sl : Nat) (p : Program) (e : Env) (s : State) (m : MethodId) (args : Array Value) (below : List Frame) (meth : Method) (c : Code) (Q : ze_P) (Qc : Array Value → State → Outcome → State → Prop) (free : Addr → Prop),
    ze_Cx I Ex M l d i G R cs sl p s m args meth c Q Qc free → ∀ (L : List (Option Value)) (st : List Value) (σ : ze_S), ze_pre M Q (ze_Z l i.2.2.1 G R cs sl p e s m args below meth c Qc free) (op (pc, L, st, σ)) → ze_Z l i.2.2.1 G R cs sl p e s m args below meth c Qc free (pc, L, st, σ)
/-! variables of the frame -/
def ze_al (ad : Nat → Nat) (L : List (Option Value)) : List (Nat × Value) := (List.range L.length).filterMap fun i => (ze_g L i).map fun v => (i, ze_c ad v)
theorem ze_g_lt : ∀ {L : List (Option Value)} {i : Nat} {v : Value}, ze_g L i = some v → i < L.length
  | [], _, _, h => by cases h
  | _ :: _, 0, _, _ => Nat.zero_lt_succ _
  | _ :: _, _ + 1, _, h => Nat.succ_lt_succ (ze_g_lt (L := _) h)
theorem ze_al_in {ad : Nat → Nat} {L : List (Option Value)} {i : Nat} {v : Value} (h : ze_g L i = some v) : (i, ze_c ad v) ∈ ze_al ad L :=
  List.mem_filterMap.mpr ⟨i, List.mem_range.mpr (ze_g_lt h), by rw [h]; rfl⟩
theorem ze_lo_has {ad : Nat → Nat} {ls : Array Slot} {nL : Nat} {L : List (Option Value)} (h : ze_lo ad ls nL L) : lv_has ls nL (ze_al ad L) := by
  refine ⟨h.1, h.2.1, fun q hq => ?_⟩
  obtain ⟨i, -, e⟩ := List.mem_filterMap.mp hq
  cases hg : ze_g L i with
  | none => rw [hg] at e; cases e
  | some v =>
    rw [hg] at e
    cases e
    exact h.2.2 i v hg
theorem ze_lo_1 {ad : Nat → Nat} {ls' : Array Slot} {nL i : Nat} {L : List (Option Value)} {v : Value} (h : lv_has ls' nL ((i, ze_c ad v) :: (ze_al ad L).filter (fun q => !(q.1 == i) && !(q.1 + 1 == i && q.2.category == 2)))) : ze_lo ad ls' nL (ze_s1 L i v) := by
  refine ⟨h.1, h.2.1, fun j w hj => ?_⟩
  obtain ⟨h1, h2⟩ := ze_g_v hj
  rw [ze_g_s] at h1
  by_cases q : j = i ∧ i < L.length
  · rw [if_pos q] at h1
    cases h1
    rw [q.1]
    exact h.2.2 _ List.mem_cons_self
  · rw [if_neg q] at h1
    have hji : j ≠ i := fun z => q ⟨z, z ▸ ze_g_lt h1⟩
    refine h.2.2 (j, ze_c ad w) (List.mem_cons_of_mem _ (List.mem_filter.mpr ⟨ze_al_in h1, ?_⟩))
    have h3 : ¬ (j + 1 = i ∧ (ze_c ad w).category = 2) := by rw [ze_c_cat]; exact h2
    simp only [Bool.and_eq_true, Bool.not_eq_true', beq_eq_false_iff_ne, Bool.and_eq_false_imp, beq_iff_eq]
    exact ⟨hji, fun a b => h3 ⟨a, b⟩⟩
theorem ze_lo_2 {ad : Nat → Nat} {ls' : Array Slot} {nL i : Nat} {L : List (Option Value)} {v : Value} (h : lv_has ls' nL ((i, ze_c ad v) :: (ze_al ad L).filter (fun q => !(q.1 == i) && (!(q.1 == i + 1) && !(q.1 + 1 == i && q.2.category == 2))))) : ze_lo ad ls' nL (ze_s2 L i v) := by
  refine ⟨h.1, h.2.1, fun j w hj => ?_⟩
  obtain ⟨h1, h2⟩ := ze_g_v hj
  rw [ze_g_s] at h1
  by_cases q : j = i + 1 ∧ i + 1 < (ze_s L i (some v)).length
  · rw [if_pos q] at h1; cases h1
  · rw [if_neg q, ze_g_s] at h1
    by_cases q2 : j = i ∧ i < L.length
    · rw [if_pos q2] at h1
      cases h1
      rw [q2.1]
      exact h.2.2 _ List.mem_cons_self
    · rw [if_neg q2] at h1
      have hji : j ≠ i := fun z => q2 ⟨z, z ▸ ze_g_lt h1⟩
      have hlen : ∀ (l : List (Option Value)) (n : Nat) (o : Option Value), (ze_s l n o).length = l.length := by
        intro l
        induction l with
        | nil => intro n o; rfl
        | cons a l ih =>
          intro n o
          cases n with
          | zero => rfl
          | succ n => exact congrArg Nat.succ (ih n o)
      have hji2 : j ≠ i + 1 := fun z => q ⟨z, by rw [hlen]; exact z ▸ ze_g_lt h1⟩
      refine h.2.2 (j, ze_c ad w) (List.mem_cons_of_mem _ (List.mem_filter.mpr ⟨ze_al_in h1, ?_⟩))
      have h3 : ¬ (j + 1 = i ∧ (ze_c ad w).category = 2) := by rw [ze_c_cat]; exact h2
      simp only [Bool.and_eq_true, Bool.not_eq_true', beq_eq_false_iff_ne, Bool.and_eq_false_imp, beq_iff_eq]
      exact ⟨hji, hji2, fun a b => h3 ⟨a, b⟩⟩
