/-! building the world: rows for the constructors -/
def zAa (U : State) : Prop := (Cond.arrayOver (.array .int)).before #[] U = true
theorem zAa_spec {U : State} (h : zAa U) : ∃ comp c k, U.vm.findClass (FieldType.array .int).toString = some comp ∧ (U.vm.classes.findIdx? fun (x : Class) => match x.kind with | .array component _ => component == comp | _ => false) = some c ∧ U.vm.classes[c]? = some k ∧ k.kind = .array comp (.array .int) ∧ U.vm.findClass ("[" ++ (FieldType.array .int).toString) = some c := by
  unfold zAa Cond.before at h
  simp only [Cond.holds, Cond.value, beq_iff_eq] at h
  cases hc : U.vm.findClass (FieldType.array .int).toString with
  | none => simp [hc] at h
  | some comp =>
    simp only [hc, Option.bind_some, Option.bind_eq_some_iff, Option.map_eq_some_iff] at h
    obtain ⟨c, hi, k, hk, hb⟩ := h
    have hi2 := hi
    obtain ⟨hlt, hp, -⟩ := Array.findIdx?_eq_some_iff_getElem.mp hi
    have hkk : U.vm.classes[c] = k := (Array.getElem?_eq_some_iff.mp hk).2
    rw [hkk] at hp
    cases hkind : k.kind with
    | array component ty =>
      rw [hkind] at hb hp
      simp at hb hp
      exact ⟨comp, c, k, rfl, hi2, hk, by rw [hkind, hp, hb.1], hb.2⟩
    | _ => rw [hkind] at hb; simp at hb
theorem zAa_moved {u U : State} (hvm : u.vm.Alike U.vm) (h : zAa u) : zAa U := by
  obtain ⟨comp, c, k, h1, h2, h3, h4, h5⟩ := zAa_spec h
  obtain ⟨k', hk', he⟩ := hvm.2.2 _ _ h3
  have hbe : U.vm.bare = u.vm.bare := by first | exact hvm.bare_eq | exact hvm.bare_eq.symm
  have hi : (U.vm.classes.findIdx? fun (x : Class) => match x.kind with | .array component _ => component == comp | _ => false) = some c := by
    refine Eq.trans (va_idx_bare U.vm comp).symm ?_
    rw [hbe]
    exact (va_idx_bare u.vm comp).trans h2
  have hkind : k'.kind = .array comp (.array .int) := by rw [he]; exact h4
  have f1 : U.vm.findClass (FieldType.array .int).toString = some comp := by rw [hvm.findClass]; exact h1
  have f2 : U.vm.findClass ("[" ++ (FieldType.array .int).toString) = some c := by rw [hvm.findClass]; exact h5
  unfold zAa Cond.before Cond.holds
  simp only [Cond.value]
  rw [f1, Option.bind_some]
  refine (congrArg (fun o : Option Nat => (o.bind (fun c => (U.vm.classes[c]?).map fun (k : Class) => match k.kind with | .array _ ty => decide (ty = FieldType.array .int) && decide (U.vm.findClass ("[" ++ (FieldType.array .int).toString) = some c) | _ => false) == some true)) hi).trans ?_
  simp [hk', hkind, f2]
def znc : List (String × Nat × MethodName) := [("CaseTree", 9, ⟨"CaseTree$Cases", "<init>", "()V"⟩), ("CaseTree", 18, ⟨"CaseTree$Tree", "<init>", "()V"⟩), ("CaseTree$Path", 30, ⟨"CaseTree$Fork", "<init>", "()V"⟩), ("CaseTree$Tester", 31, ⟨"CaseTree$Finding", "<init>", "()V"⟩)]
def zcty (ac : Nat → ClassId) : List (ClassId × FieldType) := [(ac 0, .int), (ac 1, .object "CaseTree$Finding"), (ac 2, .object "CaseTree$Fork"), (ac 3, .array .int)]
/-- what the constructors need of the classes -/
def zKc (D : va_G) (ac : Nat → ClassId) (U : State) : Prop := va_K D vwCl (zcty ac) U ∧ (∀ q ∈ znc, va_Nw (.methodLinkNest q.1 q.2.1 q.2.2 "CaseTree") U) ∧ va_AO "CaseTree$Finding" U ∧ va_AO "CaseTree$Fork" U ∧ zAa U
theorem zKc_warm {D : va_G} {ac : Nat → ClassId} {s U : State} (hW : s.WarmedH U.vm) (h : zKc D ac s) : zKc D ac U := ⟨va_K.moved hW.alike h.1, fun q hq => va_Nw.warmM hW (h.2.1 q hq), va_AO.moved hW.alike h.2.2.1, va_AO.moved hW.alike h.2.2.2.1, zAa_moved hW.alike h.2.2.2.2⟩
theorem zKc_call {D : va_G} {ac : Nat → ClassId} {U : State} {g : JFrame} {mk : MethodId} {a : Array Value} (h : zKc D ac U) : zKc D ac (U.calling g mk a) := ⟨va_K.moved (u := U) (U := U.calling g mk a) (Vm.Alike.refl U.vm) h.1, fun q hq => va_Nw.same (U := U.calling g mk a) rfl rfl (h.2.1 q hq), va_AO.moved (u := U) (U := U.calling g mk a) (Vm.Alike.refl U.vm) h.2.2.1, va_AO.moved (u := U) (U := U.calling g mk a) (Vm.Alike.refl U.vm) h.2.2.2.1, zAa_moved (u := U) (U := U.calling g mk a) (Vm.Alike.refl U.vm) h.2.2.2.2⟩
def zkB (D : va_G) (ac : Nat → ClassId) (sz : Nat) (ws : va_W) (U : State) : Prop := U.heap.size = sz ∧ va_P D vwCl ws U.heap ∧ zKc D ac U ∧ va_D (fun _ => True) ws
def zkE (D : va_G) (A : Nat → Prop) (ws : va_W) (t : State) : Prop := va_P D vwCl ws t.heap ∧ va_D A ws
theorem zk_blind (D : va_G) (ac : Nat → ClassId) (sz : Nat) (ws : va_W) (av : List Value) : FrameBlind (va_Pc av (zkB D ac sz ws)) := fun a U g mk q => by
  obtain ⟨q0, q1, qP, qK, qD⟩ := q
  exact ⟨q0, q1, qP, zKc_call qK, qD⟩
abbrev zIa (c : ClassId) (n : Nat) : va_E := .inl (c, n, .inl (fun _ => 0))
abbrev zQa (c : ClassId) (f : Nat → Option Nat) : va_E := .inl (c, 4, .inr (.inr (.inr (.inr f))))
theorem zD_push {A : Nat → Prop} {ws : va_W} {h : Nat} {e : va_E} (hD : va_D A ws) (hl : ∀ (k : Nat) (x : Nat × va_E), ws[k]? = some x → x.1 < h) (hA : A h) : va_D A (ws ++ [(h, e)]) ∧ ∀ (k : Nat) (x : Nat × va_E), (ws ++ [(h, e)])[k]? = some x → x.1 < h + 1 := by
  have at' : ∀ (k : Nat) (x : Nat × va_E), (ws ++ [(h, e)])[k]? = some x → (ws[k]? = some x ∧ x.1 < h ∧ k < ws.length) ∨ (k = ws.length ∧ x.1 = h) := by
    intro k x hx
    by_cases hk : k < ws.length
    · rw [List.getElem?_append_left hk] at hx
      exact Or.inl ⟨hx, hl k x hx, hk⟩
    · rw [List.getElem?_append_right (by omega)] at hx
      have hz : k - ws.length < 1 := (List.getElem?_eq_some_iff.mp hx).1
      rw [show k - ws.length = 0 by omega] at hx
      cases hx
      exact Or.inr ⟨by omega, rfl⟩
  refine ⟨⟨fun i j p q hi hj hpq => ?_, fun k x hx => ?_⟩, fun k x hx => ?_⟩
  · rcases at' i p hi with ⟨h1, h2, h3⟩ | ⟨h1, h2⟩ <;> rcases at' j q hj with ⟨k1, k2, k3⟩ | ⟨k1, k2⟩
    · exact hD.1 i j p q h1 k1 hpq
    · omega
    · omega
    · omega
  · rcases at' k x hx with ⟨h1, -, -⟩ | ⟨-, h2⟩
    · exact hD.2 k x h1
    · rw [h2]; exact hA
  · rcases at' k x hx with ⟨-, h2, -⟩ | ⟨-, h2⟩ <;> omega
/-! new int[4][24], out of the machine's own words -/
def zoC (c : ClassId) (h i : Nat) : Cell := arrV c 4 (fun j => if j < i then .ref (h + 1 + j) else .null)
def ziC (c : ClassId) : Cell := arrV c 24 (fun _ => .int 0)
/-- the machine behind i rows -/
def zfl (s : State) (c d : ClassId) : Nat → State
  | 0 => s.pushCell (zoC c s.heap.size 0)
  | i + 1 => ((zfl s c d i).pushCell (ziC d)).setCell s.heap.size (zoC c s.heap.size (i + 1))
theorem zoC_0 (c : ClassId) (h : Nat) : zoC c h 0 = { cls := c, slots := Array.replicate 4 .null, vm := .none } := by
  rw [arrV_new]
  exact congrArg (arrV c 4) (funext fun j => if_neg (Nat.not_lt_zero j))
theorem ziC_0 (c : ClassId) : ziC c = { cls := c, slots := Array.replicate 24 (.int 0), vm := .none } := by
  rw [arrV_new]
  rfl
theorem zoC_up (c : ClassId) (h i : Nat) : (zoC c h i).setSlot i (.ref (h + 1 + i)) = zoC c h (i + 1) := by
  unfold zoC
  rw [arrV_store]
  refine congrArg (arrV c 4) (funext fun j => ?_)
  by_cases e : j = i
  · subst e
    simp [updV]
  · by_cases q : j < i
    · simp [updV, e, q, Nat.lt_succ_of_lt q]
    · simp [updV, e, q, show ¬ j < i + 1 by omega]
theorem zfl_at (s : State) (c d : ClassId) : ∀ i, (zfl s c d i).heap.size = s.heap.size + 1 + i ∧ (zfl s c d i).heap[s.heap.size]? = some (zoC c s.heap.size i) ∧ (zfl s c d i).vm = s.vm ∧ (zfl s c d i).slotsUsed = s.slotsUsed + 4 + i * 24
  | 0 => by
    have hz : (zoC c s.heap.size 0).slots.size = 4 := arrV_size _ _ _
    refine ⟨by simp [zfl], by simp [zfl], rfl, ?_⟩
    simp [zfl, hz]
  | i + 1 => by
    obtain ⟨a1, a2, a3, a4⟩ := zfl_at s c d i
    have hz : (ziC d).slots.size = 24 := arrV_size _ _ _
    have hlt : s.heap.size < (zfl s c d i).heap.size := by omega
    have h2 : ((zfl s c d i).pushCell (ziC d)).heap[s.heap.size]? = some (zoC c s.heap.size i) := by
      rw [State.heap_pushCell_of_lt (h := hlt)]
      exact a2
    refine ⟨?_, State.heap_setCell_self h2, by simp [zfl, a3], ?_⟩
    · simp [zfl, State.setCell, a1]
      omega
    · simp [zfl, a4, hz, Nat.succ_mul]
      omega
theorem zfl_old (s : State) (c d : ClassId) {a : Addr} (ha : a < s.heap.size) : ∀ i, (zfl s c d i).heap[a]? = s.heap[a]?
  | 0 => State.heap_pushCell_of_lt _ _ ha
  | i + 1 => by
    have a1 := (zfl_at s c d i).1
    show (((zfl s c d i).pushCell (ziC d)).setCell s.heap.size _).heap[a]? = _
    rw [State.heap_setCell_other (Nat.ne_of_gt ha), State.heap_pushCell_of_lt (h := Nat.lt_of_lt_of_le ha (by rw [a1]; omega))]
    exact zfl_old s c d ha i
theorem zfl_in (s : State) (c d : ClassId) : ∀ i j, j < i → (zfl s c d i).heap[s.heap.size + 1 + j]? = some (ziC d)
  | 0, _, h => absurd h (Nat.not_lt_zero _)
  | i + 1, j, h => by
    have a1 := (zfl_at s c d i).1
    show (((zfl s c d i).pushCell (ziC d)).setCell s.heap.size _).heap[s.heap.size + 1 + j]? = _
    rw [State.heap_setCell_other (show s.heap.size ≠ s.heap.size + 1 + j by omega)]
    by_cases q : j = i
    · subst q
      rw [← a1]
      exact State.heap_pushCell_size _ _
    · have hlt : s.heap.size + 1 + j < (zfl s c d i).heap.size := by rw [a1]; omega
      rw [State.heap_pushCell_of_lt (h := hlt)]
      exact zfl_in s c d i j (by omega)
theorem zfl_top (s : State) (f : JFrame) (c d : ClassId) : ∀ i, zfl (s.setTop f) c d i = (zfl s c d i).setTop f
  | 0 => rfl
  | i + 1 => by simp only [zfl, zfl_top s f c d i, State.heap_setTop, State.pushCell_setTop, State.setCell_setTop]
section ZMul
variable {E : CtlPost} {e : Env} {d : Bool} {acts : List Action} {s : State}
theorem zwp_na {c comp : ClassId} {k : Class} {ty : FieldType} {n : Nat} {v : Value} (hk : s.vm.classes[c]? = some k) (hd : k.kind = .array comp ty) (h1 : ¬ n > e.platform.arrayLengthLimit) (h2 : ¬ n * componentBytes ty > e.platform.maxHeapBytes) (hf : fits ty v = true) (hv : v.isDefault = true) {Q : Addr → Pre}
    (h3 : s.heap.size < e.platform.maxCells) (h4 : s.slotsUsed + n ≤ e.platform.maxSlots) (hq : Q s.heap.size d acts (s.pushCell { cls := c, slots := Array.replicate n v, vm := .none })) : wp (Jvm.newArray c n v) Q E e d acts s := by
  have ha : allocActs (Array.replicate n v) s.heap.size acts = acts := by
    unfold allocActs
    rw [if_pos]
    rw [Array.all_replicate]
    split <;> simp [hv]
  have h5 : ¬ n > e.platform.maxSlots := by omega
  simp only [Jvm.newArray, Jvm.arrayFits, wp_bind', Jvm.W.ask, Jvm.W.ite, h1, if_false, wp_pure', Jvm.W.theClass, hk, hd, h2, Jvm.W.alloc, Jvm.W.stop, Option.some.injEq, exists_eq_left', Array.size_replicate, ha, h5]
  refine ⟨h3, h4, fun i w hw => ?_, hq⟩
  rw [Array.getElem?_replicate] at hw
  split at hw
  · cases hw
    simp [State.fitsSlot, State.slotType?, hk, hd, hf]
  · cases hw
theorem zwp_mk {c comp cc : ClassId} {k kc : Class} (hk : s.vm.classes[c]? = some k) (hd : k.kind = .array comp (.array .int)) (hkc : s.vm.classes[comp]? = some kc) (hdc : kc.kind = .array cc .int)
    (h1 : ¬ 24 > e.platform.arrayLengthLimit) (h2 : ¬ 96 > e.platform.maxHeapBytes) (h3 : s.heap.size + 5 ≤ e.platform.maxCells) (h4 : s.slotsUsed + 100 ≤ e.platform.maxSlots) {Q : Addr → Pre} (hq : ∀ d' acts', Q s.heap.size d' acts' (zfl s c comp 4)) :
    wp (Jvm.Op.multianewarray.make c [4, 24]) Q E e d acts s := by
  rw [Jvm.Op.multianewarray.make]
  simp only [wp_bind', Jvm.W.ite, show ¬ (4 : Int32) < 0 by decide, if_false, wp_pure', Jvm.W.theClass, hk, hd, Option.some.injEq, exists_eq_left']
  refine zwp_na hk hd (show ¬ 4 > _ by omega) (show ¬ 4 * 4 > _ by omega) rfl rfl (by omega) (show s.slotsUsed + 4 ≤ _ by omega) ?_
  simp only [show ([(24 : Int32)].find? (· < 0)) = none by decide]
  rw [ite_self, wp_bind', Std.Legacy.Range.forIn_eq_forIn_range']
  show wp (forIn (List.range' 0 4 1) PUnit.unit _) _ E e d acts _
  refine wp_forIn_inv (fun r s' => ∃ i, i ≤ 4 ∧ r = List.range' i (4 - i) ∧ s' = zfl s c comp i) _ _ ⟨0, Nat.zero_le _, rfl, ?_⟩ ?_ ?_
  · show _ = s.pushCell (zoC c s.heap.size 0)
    rw [zoC_0]
  · rintro x r s' d' acts' Q' ⟨i, hi, hl, rfl⟩ hn
    have hlt : i < 4 := by
      rcases Nat.lt_or_ge i 4 with h | h
      · exact h
      · rw [show 4 - i = 0 by omega] at hl
        cases hl
    rw [show 4 - i = (4 - (i + 1)) + 1 by omega, List.range'_succ] at hl
    obtain ⟨rfl, hr⟩ := List.cons.inj hl
    obtain ⟨a1, a2, a3, a4⟩ := zfl_at s c comp x
    have hz : (zoC c s.heap.size x).slots.size = 4 := arrV_size _ _ _
    simp only [wp_bind']
    rw [Jvm.Op.multianewarray.make]
    simp only [wp_bind', Jvm.W.ite, show ¬ (24 : Int32) < 0 by decide, if_false, wp_pure', Jvm.W.theClass, a3, hkc, hdc, Option.some.injEq, exists_eq_left']
    refine zwp_na (by rw [a3]; exact hkc) hdc h1 (show ¬ 24 * 4 > _ by omega) rfl rfl (by rw [a1]; omega) (show (zfl s c comp x).slotsUsed + 24 ≤ _ by rw [a4]; omega) ?_
    have hlt0 : s.heap.size < (zfl s c comp x).heap.size := by rw [a1]; omega
    have hzi : ({ cls := comp, slots := Array.replicate 24 (defaultValue FieldType.int), vm := .none } : Cell) = ziC comp := (ziC_0 comp).symm
    rw [hzi]
    simp only [wp_bind', Jvm.W.writeLoc, wp_pure']
    refine ⟨zoC c s.heap.size x, (by rw [State.heap_pushCell_of_lt (h := hlt0)]; exact a2), (fun h => (by cases h)), (by rw [hz]; exact hlt), ?_, hn _ _ _ ⟨x + 1, hlt, hr, ?_⟩⟩
    · show State.fitsSlot _ c VmData.none x _ = true
      simp [State.fitsSlot, State.slotType?, a3, hk, hd, fits]
    · show _ = ((zfl s c comp x).pushCell (ziC comp)).setCell s.heap.size (zoC c s.heap.size (x + 1))
      rw [← zoC_up, a1]
  · rintro s' d' acts' ⟨i, hi, hl, rfl⟩
    have e4 : i = 4 := by
      rcases Nat.lt_or_ge i 4 with h | h
      · rw [show 4 - i = (4 - (i + 1)) + 1 by omega, List.range'_succ] at hl
        cases hl
      · omega
    subst e4
    simp only [wp_pure']
    exact hq _ _
end ZMul
section ZMul2
variable {p : Program} {l : Launch} {e : Env} {R : Room} {s : State} {m : MethodId} {args : Array Value} {below : List Frame} {meth : Method} {c : Code} {T : State} {locs : List Loc} {cells slots : Nat}
theorem zfl_X (X : Stand p l e R s m args below meth c T locs cells slots) (cA comp : ClassId) : ∀ i, Stand p l e R s m args below meth c (zfl T cA comp i) (locs ++ (List.range i).map fun j => ⟨T.heap.size, j⟩) (cells + 1 + i) (slots + 4 + i * 24)
  | 0 => by
    have h := X.pushed (zoC cA T.heap.size 0)
    rw [show (zoC cA T.heap.size 0).slots.size = 4 from arrV_size _ _ _] at h
    simpa [zfl] using h
  | i + 1 => by
    have Xi := zfl_X X cA comp i
    obtain ⟨a1, a2, a3, a4⟩ := zfl_at T cA comp i
    have hlt0 : T.heap.size < (zfl T cA comp i).heap.size := by rw [a1]; omega
    have h := (Xi.pushed (ziC comp)).stored (a := T.heap.size) (cell := zoC cA T.heap.size i) (by rw [State.heap_pushCell_of_lt (h := hlt0)]; exact a2) i (.ref (T.heap.size + 1 + i))
    rw [zoC_up, show (ziC comp).slots.size = 24 from arrV_size _ _ _] at h
    rw [show (locs ++ (List.range (i + 1)).map fun j => (⟨T.heap.size, j⟩ : Loc)) = (locs ++ (List.range i).map fun j => (⟨T.heap.size, j⟩ : Loc)) ++ [⟨T.heap.size, i⟩] by simp [List.range_succ, List.append_assoc], show slots + 4 + (i + 1) * 24 = slots + 4 + i * 24 + 24 by omega]
    exact h
theorem zmulti (X : Stand p l e R s m args below meth c T locs cells slots) (hexec : p.tables.exec = Jvm.exec) {own : String} {index : Nat} (hown : s.vm.findClass own = some m.cls) (hclink : (Cond.classLink own index "[[I").before args s = true) (hover : zAa s) (harr : (Cond.arrayClass .int).before args s = true)
    {g : JFrame} (hg : g.method = m) (hdg : decode c.code g.pc = .ok (.multianewarray index 2, 4)) {rest : List Value} (hstack : g.stack = .int 24 :: .int 4 :: rest) (hcells : cells + 5 ≤ R.cells) (hslots : slots + 100 ≤ R.slots) :
    ∃ (vm₁ : Vm) (cA comp : ClassId), s.vm.findClass ("[" ++ (FieldType.array .int).toString) = some cA ∧ s.vm.findClass ("[" ++ FieldType.int.toString) = some comp ∧ Stand p l e R s m args below meth c (zfl (T.setVm vm₁) cA comp 4) locs (cells + 5) (slots + 100) ∧
      ∀ target, Steps p.tables e below ((zfl (T.setVm vm₁) cA comp 4).setTop { g with pc := g.pc + 4, stack := .ref T.heap.size :: rest }) target → Steps p.tables e below (T.setTop g) target := by
  subst hg
  have hpl : e.platform.magicAccessors = ({} : Platform).magicAccessors := by rw [X.admits.platform]
  obtain ⟨comp, cA, kA, b1, -, b3, b4, b5⟩ := zAa_spec hover
  obtain ⟨comp', kC, cc, d1, d2, d3⟩ := Cond.arrayClass_spec harr
  have ec : comp' = comp := Option.some.inj (d1.symm.trans b1)
  subst ec
  obtain ⟨c0, f0, hcl⟩ := Cond.classLink_spec hown hclink e.platform hpl
  have ea : cA = c0 := Option.some.inj (b5.symm.trans f0)
  subst ea
  obtain ⟨hg₁, hw₁, hr₁⟩ := State.classEntry (e := e) X.warmed hcl
  generalize T.vm.noted g.method.cls index (.cls cA) = vm₁ at hg₁ hw₁ hr₁
  obtain ⟨kA₁, q1, q2⟩ := hw₁.alike.2.2 _ _ b3
  obtain ⟨kC₁, q3, q4⟩ := hw₁.alike.2.2 _ _ d2
  have X₁ := X.noted hw₁
  obtain ⟨r1, r2⟩ := X.roomAbove hcells hslots
  have XF := zfl_X X₁ cA comp' 4
  refine ⟨vm₁, cA, comp', b5, d1, Stand.forget (extra := (List.range 4).map fun j => ⟨(T.setVm vm₁).heap.size, j⟩) (cells := cells + 5) (slots := slots + 100) XF (fun y hy => ?_), fun target hrest => ?_⟩
  · obtain ⟨j, -, rfl⟩ := List.mem_map.mp hy
    exact X.heapGrown
  · jvm_step X.here [hexec, hdg]
    simp only [Jvm.Op.multianewarray.sem, wp_bind', Jvm.W.resolveClassAt_links (State.method?_setTop g X.here.top) hg₁]
    rw [Jvm.W.popN, if_neg (by decide)]
    refine ⟨g, State.topJava?_setTop' (s := T.setVm vm₁) g X.here.top, [.int 4, .int 24], rest, rfl, hstack, ?_⟩
    simp only [List.mapM_cons, List.mapM_nil, wp_bind', wp_pure']
    refine zwp_mk (k := kA₁) (kc := kC₁) (comp := comp') (cc := cc) q1 (by rw [q2]; exact b4) q3 (by rw [q4]; exact d3) (by rw [Launch.admits_arrayLengthLimit X.admits]; decide) (by rw [Launch.admits_maxHeapBytes X.admits]; decide) (by show T.heap.size + 5 ≤ _; exact r1) (by show T.slotsUsed + 100 ≤ _; exact r2) (fun d' acts' => ?_)
    have eS : ((T.setTop g).setVm vm₁).setTop { g with stack := rest } = (T.setVm vm₁).setTop { g with stack := rest } := by
      show ((T.setVm vm₁).setTop g).setTop _ = _
      rw [State.setTop_setTop]
    rw [eS, zfl_top]
    simp only [wp_bind', Jvm.W.mark, Jvm.W.pushRef, State.topJava?_setTop' _ XF.here.top, Option.some.injEq, exists_eq_left', State.setTop_setTop, State.heap_setTop]
    intro acts
    simp [jvm, XF.here.top]
    exact hrest
end ZMul2
section ZCR
variable {p : Program} {l : Launch} {e : Env} {R : Room} {s : State} {m : MethodId} {args : Array Value} {below : List Frame} {meth : Method} {c : Code} {H : Heap} {locs : List Loc} {cells slots : Nat} {Q : State → Prop}
variable {cc : ByteArray} {pc : Nat} {ls : Array Slot} {rest : List Value} {D : va_G} {A : Nat → Prop} {ac : Nat → ClassId} {ws : va_W} {H0 : Heap}
theorem zc_newa (hexec : p.tables.exec = Jvm.exec) (hb : c.code = cc) (harr : (Cond.arrayClass .int).before args s = true) (hK : zKc D ac s) (hP : va_P D vwCl ws H) (hD : va_D A ws) (hS : va_S A H0 H locs) (hA : ∀ q, H0.size ≤ q → A q)
    {n : Int32} {N' : Nat} (hn : ¬ n < 0) (hN : n.toNatClampNeg = N') (hbytes : N' * 4 ≤ 536870912) (hcells : cells + 1 ≤ R.cells) (hslots : slots + N' ≤ R.slots) (hdg : decode cc pc = .ok (.newarray .int, 2))
    (kk : ∀ (q : Nat) (H1 : Heap), va_P D vwCl (ws ++ [(q, zIa (ac 0) N')]) H1 → va_D A (ws ++ [(q, zIa (ac 0) N')]) → va_S A H0 H1 locs → W p l e R s m args below meth c H1 locs (cells + 1) (slots + N') Q (F0 m (pc + 2) ls (.ref q :: rest))) : W p l e R s m args below meth c H locs cells slots Q (F0 m pc ls (.int n :: rest)) := by
  refine va_newa (ty := .int) (a0 := (N', .inl (fun _ => 0))) hexec hb (atype := .int) harr rfl hK.1 hP hD hS hA (fun cA => rfl) hn hN hbytes hcells hslots hdg (fun q cA H1 k1 p1 d1 s1 => ?_)
  have e1 : s.vm.findClass ("[" ++ FieldType.int.toString) = some cA := (k1.2 4 (cA, .int) rfl).2
  have e2 : s.vm.findClass ("[" ++ FieldType.int.toString) = some (ac 0) := (hK.1.2 0 (ac 0, .int) rfl).2
  have e3 : cA = ac 0 := Option.some.inj (e1.symm.trans e2)
  subst e3
  exact kk q H1 p1 d1 s1
theorem zc_newq (hexec : p.tables.exec = Jvm.exec) (hb : c.code = cc) {own C : String} {index : Nat} (t : Nat) (ht : (zcty ac)[t]? = some (ac t, .object C)) (hown : s.vm.findClass own = some m.cls) (hclink : (Cond.classLink own index C).before args s = true) (hover : va_AO C s) (hK : zKc D ac s) (hP : va_P D vwCl ws H) (hD : va_D A ws) (hS : va_S A H0 H locs) (hA : ∀ q, H0.size ≤ q → A q)
    (hcells : cells + 1 ≤ R.cells) (hslots : slots + 4 ≤ R.slots) (hdg : decode cc pc = .ok (.anewarray index, 3))
    (kk : ∀ (q : Nat) (H1 : Heap), va_P D vwCl (ws ++ [(q, zQa (ac t) (fun _ => none))]) H1 → va_D A (ws ++ [(q, zQa (ac t) (fun _ => none))]) → va_S A H0 H1 locs → W p l e R s m args below meth c H1 locs (cells + 1) (slots + 4) Q (F0 m (pc + 3) ls (.ref q :: rest))) : W p l e R s m args below meth c H locs cells slots Q (F0 m pc ls (.int 4 :: rest)) := by
  refine va_newq (n := 4) (N' := 4) hexec hb hown hclink hover hK.1 hP hD hS hA (by decide) rfl (by decide) hcells hslots hdg (fun q cA H1 k1 p1 d1 s1 => ?_)
  obtain ⟨-, -, -, -, -, e1⟩ := (k1.2 4 (cA, .object C) rfl).2
  obtain ⟨-, -, -, -, -, e2⟩ := (hK.1.2 t (ac t, .object C) ht).2
  have e3 : cA = ac t := Option.some.inj (e1.symm.trans e2)
  subst e3
  exact kk q H1 p1 d1 s1
theorem zc_multi (hexec : p.tables.exec = Jvm.exec) (hb : c.code = cc) {own : String} {index : Nat} (hown : s.vm.findClass own = some m.cls) (hclink : (Cond.classLink own index "[[I").before args s = true) (harr : (Cond.arrayClass .int).before args s = true) (hK : zKc D ac s) (hP : va_P D vwCl ws H) (hD : va_D A ws) (hS : va_S A H0 H locs) (hA : ∀ q, H0.size ≤ q → A q)
    (hcells : cells + 5 ≤ R.cells) (hslots : slots + 100 ≤ R.slots) (hdg : decode cc pc = .ok (.multianewarray index 2, 4))
    (kk : ∀ (q : Nat) (H1 : Heap), va_P D vwCl (ws ++ [(q, zQa (ac 3) (fun j => if j < 4 then some (q + 1 + j) else none)), (q + 1, zIa (ac 0) 24), (q + 2, zIa (ac 0) 24), (q + 3, zIa (ac 0) 24), (q + 4, zIa (ac 0) 24)]) H1 → va_D A (ws ++ [(q, zQa (ac 3) (fun j => if j < 4 then some (q + 1 + j) else none)), (q + 1, zIa (ac 0) 24), (q + 2, zIa (ac 0) 24), (q + 3, zIa (ac 0) 24), (q + 4, zIa (ac 0) 24)]) → va_S A H0 H1 locs → W p l e R s m args below meth c H1 locs (cells + 5) (slots + 100) Q (F0 m (pc + 4) ls (.ref q :: rest))) : W p l e R s m args below meth c H locs cells slots Q (F0 m pc ls (.int 24 :: .int 4 :: rest)) := by
  intro T hT X
  obtain ⟨vm₁, cA, comp, fA, fC, X', step⟩ := zmulti X hexec hown hclink hK.2.2.2.2 harr (g := F0 m pc ls (.int 24 :: .int 4 :: rest)) rfl (by rw [hb]; exact hdg) rfl hcells hslots
  have e2 : s.vm.findClass ("[" ++ FieldType.int.toString) = some (ac 0) := (hK.1.2 0 (ac 0, .int) rfl).2
  have e3 : s.vm.findClass ("[" ++ (FieldType.array .int).toString) = some (ac 3) := (hK.1.2 3 (ac 3, .array .int) rfl).2
  have ec : comp = ac 0 := Option.some.inj (fC.symm.trans e2)
  have ea : cA = ac 3 := Option.some.inj (fA.symm.trans e3)
  subst ec ea
  generalize hF : zfl (T.setVm vm₁) (ac 3) (ac 0) 4 = F at X' step
  have hTh : (T.setVm vm₁).heap = H := hT
  obtain ⟨f1, f2, -, -⟩ := zfl_at (T.setVm vm₁) (ac 3) (ac 0) 4
  rw [hF, hTh] at f1 f2
  have hold : ∀ x : Nat, x < H.size → F.heap[x]? = H[x]? := fun x hx => by
    have := zfl_old (T.setVm vm₁) (ac 3) (ac 0) (a := x) (by rw [hTh]; exact hx) 4
    rw [hF, hTh] at this
    exact this
  have hrow : ∀ j : Nat, j < 4 → F.heap[H.size + 1 + j]? = some (vp_cell (ac 0) (24, .inl (fun _ => 0))) := fun j hj => by
    have := zfl_in (T.setVm vm₁) (ac 3) (ac 0) 4 j hj
    rw [hF, hTh] at this
    exact this
  have hout : zoC (ac 3) H.size 4 = vp_cell (ac 3) (4, .inr (.inr (.inr (.inr (fun j => if j < 4 then some (H.size + 1 + j) else none))))) := by
    rw [vp_cell_q]
    refine congrArg (arrV (ac 3) 4) (funext fun j => ?_)
    by_cases q : j < 4
    · rw [if_pos q, if_pos q]; rfl
    · rw [if_neg q, if_neg q]; rfl
  rw [hout] at f2
  have hl0 : ∀ (k : Nat) (x : Nat × va_E), ws[k]? = some x → x.1 < H.size := fun k x hx => (hP k x hx).lt
  have hP0 : va_P D vwCl ws F.heap := hP.kept (fun k x hx => hold x.1 (hl0 k x hx))
  have hAA : ∀ j, A (H.size + j) := fun j => hA _ (by have := hS.1; omega)
  obtain ⟨d1, l1⟩ := zD_push (e := zQa (ac 3) (fun j => if j < 4 then some (H.size + 1 + j) else none)) hD hl0 (hAA 0)
  obtain ⟨d2, l2⟩ := zD_push (e := zIa (ac 0) 24) d1 l1 (hAA 1)
  obtain ⟨d3, l3⟩ := zD_push (e := zIa (ac 0) 24) d2 l2 (hAA 2)
  obtain ⟨d4, l4⟩ := zD_push (e := zIa (ac 0) 24) d3 l3 (hAA 3)
  obtain ⟨d5, l5⟩ := zD_push (e := zIa (ac 0) 24) d4 l4 (hAA 4)
  rw [List.append_assoc, List.append_assoc, List.append_assoc, List.append_assoc] at d5
  have hPn : va_P D vwCl [(H.size, zQa (ac 3) (fun j => if j < 4 then some (H.size + 1 + j) else none)), (H.size + 1, zIa (ac 0) 24), (H.size + 2, zIa (ac 0) 24), (H.size + 3, zIa (ac 0) 24), (H.size + 4, zIa (ac 0) 24)] F.heap := by
    intro k x hx
    match k, hx with
    | 0, hx => cases hx; exact f2
    | 1, hx => cases hx; exact hrow 0 (by decide)
    | 2, hx => cases hx; exact hrow 1 (by decide)
    | 3, hx => cases hx; exact hrow 2 (by decide)
    | 4, hx => cases hx; exact hrow 3 (by decide)
    | k + 5, hx => cases hx
  obtain ⟨t, a1, b1⟩ := kk H.size F.heap (hP0.app hPn) d5 ⟨by rw [f1]; have := hS.1; omega, fun x h1 h2 => (hold x (Nat.lt_of_lt_of_le h1 hS.1)).trans (hS.2.1 x h1 h2), hS.2.2⟩ F rfl X'
  refine ⟨t, step t ?_, b1⟩
  have e : T.heap.size = H.size := by rw [hT]
  rw [e]
  exact a1
end ZCR
