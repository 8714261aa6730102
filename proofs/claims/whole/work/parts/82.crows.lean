/-! building the world: rows for the constructors -/
def zAa (U : State) : Prop := (Cond.arrayOver (.array .int)).before #[] U = true
theorem zAa_spec {U : State} (h : zAa U) : ∃ comp c k, U.vm.findClass (FieldType.array .int).toString = some comp ∧ (U.vm.classes.findIdx? fun (x : Class) => match x.kind with | .array component _ => component == comp | _ => false) = some c ∧ U.vm.classes[c]? = some k ∧ k.kind = .array comp (.array .int) ∧ U.vm.findClass ("[" ++ (FieldType.array .int).toString) = some c := by
  unfold zAa Cond.before at h
  simp only [Cond.holds, Cond.value, beq_iff_eq] at h
  cases hc : U.vm.findClass (FieldType.array .int).toString with
  | none => simp [hc] at h
  | some comp =>
    simp only [hc, Option.bind_some, Option.bind_eq_some_iff, Option.map_eq_some_iff] at h
    obtain ⟨c, hi, k, hk, hb⟩ := h
    have hi2 := hi
    obtain ⟨hlt, hp, -⟩ := Array.findIdx?_eq_some_iff_getElem.mp hi
    have hkk : U.vm.classes[c] = k := (Array.getElem?_eq_some_iff.mp hk).2
    rw [hkk] at hp
    cases hkind : k.kind with
    | array component ty =>
      rw [hkind] at hb hp
      simp at hb hp
      exact ⟨comp, c, k, rfl, hi2, hk, by rw [hkind, hp, hb.1], hb.2⟩
    | _ => rw [hkind] at hb; simp at hb
theorem zAa_moved {u U : State} (hvm : u.vm.Alike U.vm) (h : zAa u) : zAa U := by
  obtain ⟨comp, c, k, h1, h2, h3, h4, h5⟩ := zAa_spec h
  obtain ⟨k', hk', he⟩ := hvm.2.2 _ _ h3
  have hbe : U.vm.bare = u.vm.bare := by first | exact hvm.bare_eq | exact hvm.bare_eq.symm
  have hi : (U.vm.classes.findIdx? fun (x : Class) => match x.kind with | .array component _ => component == comp | _ => false) = some c := by
    refine Eq.trans (va_idx_bare U.vm comp).symm ?_
    rw [hbe]
    exact (va_idx_bare u.vm comp).trans h2
  have hkind : k'.kind = .array comp (.array .int) := by rw [he]; exact h4
  have f1 : U.vm.findClass (FieldType.array .int).toString = some comp := by rw [hvm.findClass]; exact h1
  have f2 : U.vm.findClass ("[" ++ (FieldType.array .int).toString) = some c := by rw [hvm.findClass]; exact h5
  unfold zAa Cond.before Cond.holds
  simp only [Cond.value]
  rw [f1, Option.bind_some]
  refine (congrArg (fun o : Option Nat => (o.bind (fun c => (U.vm.classes[c]?).map fun (k : Class) => match k.kind with | .array _ ty => decide (ty = FieldType.array .int) && decide (U.vm.findClass ("[" ++ (FieldType.array .int).toString) = some c) | _ => false) == some true)) hi).trans ?_
  simp [hk', hkind, f2]
def znc : List (String × Nat × MethodName) := [("CaseTree", 9, ⟨"CaseTree$Cases", "<init>", "()V"⟩), ("CaseTree", 18, ⟨"CaseTree$Tree", "<init>", "()V"⟩), ("CaseTree$Path", 30, ⟨"CaseTree$Fork", "<init>", "()V"⟩), ("CaseTree$Tester", 31, ⟨"CaseTree$Finding", "<init>", "()V"⟩)]
def zcty (ac : Nat → ClassId) : List (ClassId × FieldType) := [(ac 0, .int), (ac 1, .object "CaseTree$Finding"), (ac 2, .object "CaseTree$Fork"), (ac 3, .array .int)]
/-- what the constructors need of the classes -/
def zKc (D : va_G) (ac : Nat → ClassId) (U : State) : Prop := va_K D vwCl (zcty ac) U ∧ (∀ q ∈ znc, va_Nw (.methodLinkNest q.1 q.2.1 q.2.2 "CaseTree") U) ∧ va_AO "CaseTree$Finding" U ∧ va_AO "CaseTree$Fork" U ∧ zAa U
theorem zKc_warm {D : va_G} {ac : Nat → ClassId} {s U : State} (hW : s.WarmedH U.vm) (h : zKc D ac s) : zKc D ac U := ⟨va_K.moved hW.alike h.1, fun q hq => va_Nw.warmM hW (h.2.1 q hq), va_AO.moved hW.alike h.2.2.1, va_AO.moved hW.alike h.2.2.2.1, zAa_moved hW.alike h.2.2.2.2⟩
theorem zKc_call {D : va_G} {ac : Nat → ClassId} {U : State} {g : JFrame} {mk : MethodId} {a : Array Value} (h : zKc D ac U) : zKc D ac (U.calling g mk a) := ⟨va_K.moved (u := U) (U := U.calling g mk a) (Vm.Alike.refl U.vm) h.1, fun q hq => va_Nw.same (U := U.calling g mk a) rfl rfl (h.2.1 q hq), va_AO.moved (u := U) (U := U.calling g mk a) (Vm.Alike.refl U.vm) h.2.2.1, va_AO.moved (u := U) (U := U.calling g mk a) (Vm.Alike.refl U.vm) h.2.2.2.1, zAa_moved (u := U) (U := U.calling g mk a) (Vm.Alike.refl U.vm) h.2.2.2.2⟩
def zkB (D : va_G) (ac : Nat → ClassId) (sz : Nat) (ws : va_W) (U : State) : Prop := U.heap.size = sz ∧ va_P D vwCl ws U.heap ∧ zKc D ac U ∧ va_D (fun _ => True) ws
def zkE (D : va_G) (A : Nat → Prop) (ws : va_W) (t : State) : Prop := va_P D vwCl ws t.heap ∧ va_D A ws
theorem zk_blind (D : va_G) (ac : Nat → ClassId) (sz : Nat) (ws : va_W) (av : List Value) : FrameBlind (va_Pc av (zkB D ac sz ws)) := fun a U g mk q => by
  obtain ⟨q0, q1, qP, qK, qD⟩ := q
  exact ⟨q0, q1, qP, zKc_call qK, qD⟩
abbrev zIa (c : ClassId) (n : Nat) : va_E := .inl (c, n, .inl (fun _ => 0))
abbrev zQa (c : ClassId) (f : Nat → Option Nat) : va_E := .inl (c, 4, .inr (.inr (.inr (.inr f))))
theorem zD_push {A : Nat → Prop} {ws : va_W} {h : Nat} {e : va_E} (hD : va_D A ws) (hl : ∀ (k : Nat) (x : Nat × va_E), ws[k]? = some x → x.1 < h) (hA : A h) : va_D A (ws ++ [(h, e)]) ∧ ∀ (k : Nat) (x : Nat × va_E), (ws ++ [(h, e)])[k]? = some x → x.1 < h + 1 := by
  have at' : ∀ (k : Nat) (x : Nat × va_E), (ws ++ [(h, e)])[k]? = some x → (ws[k]? = some x ∧ x.1 < h ∧ k < ws.length) ∨ (k = ws.length ∧ x.1 = h) := by
    intro k x hx
    by_cases hk : k < ws.length
    · rw [List.getElem?_append_left hk] at hx
      exact Or.inl ⟨hx, hl k x hx, hk⟩
    · rw [List.getElem?_append_right (by omega)] at hx
      have hz : k - ws.length < 1 := (List.getElem?_eq_some_iff.mp hx).1
      rw [show k - ws.length = 0 by omega] at hx
      cases hx
      exact Or.inr ⟨by omega, rfl⟩
  refine ⟨⟨fun i j p q hi hj hpq => ?_, fun k x hx => ?_⟩, fun k x hx => ?_⟩
  · rcases at' i p hi with ⟨h1, h2, h3⟩ | ⟨h1, h2⟩ <;> rcases at' j q hj with ⟨k1, k2, k3⟩ | ⟨k1, k2⟩
    · exact hD.1 i j p q h1 k1 hpq
    · omega
    · omega
    · omega
  · rcases at' k x hx with ⟨h1, -, -⟩ | ⟨-, h2⟩
    · exact hD.2 k x h1
    · rw [h2]; exact hA
  · rcases at' k x hx with ⟨-, h2, -⟩ | ⟨-, h2⟩ <;> omega
section ZCR
variable {p : Program} {l : Launch} {e : Env} {R : Room} {s : State} {m : MethodId} {args : Array Value} {below : List Frame} {meth : Method} {c : Code} {H : Heap} {locs : List Loc} {cells slots : Nat} {Q : State → Prop}
variable {cc : ByteArray} {pc : Nat} {ls : Array Slot} {rest : List Value} {D : va_G} {A : Nat → Prop} {ac : Nat → ClassId} {ws : va_W} {H0 : Heap}
theorem zc_newa (hexec : p.tables.exec = Jvm.exec) (hb : c.code = cc) (harr : (Cond.arrayClass .int).before args s = true) (hK : zKc D ac s) (hP : va_P D vwCl ws H) (hD : va_D A ws) (hS : va_S A H0 H locs) (hA : ∀ q, H0.size ≤ q → A q)
    {n : Int32} {N' : Nat} (hn : ¬ n < 0) (hN : n.toNatClampNeg = N') (hbytes : N' * 4 ≤ 536870912) (hcells : cells + 1 ≤ R.cells) (hslots : slots + N' ≤ R.slots) (hdg : decode cc pc = .ok (.newarray .int, 2))
    (kk : ∀ (q : Nat) (H1 : Heap), va_P D vwCl (ws ++ [(q, zIa (ac 0) N')]) H1 → va_D A (ws ++ [(q, zIa (ac 0) N')]) → va_S A H0 H1 locs → W p l e R s m args below meth c H1 locs (cells + 1) (slots + N') Q (F0 m (pc + 2) ls (.ref q :: rest))) : W p l e R s m args below meth c H locs cells slots Q (F0 m pc ls (.int n :: rest)) := by
  refine va_newa (ty := .int) (a0 := (N', .inl (fun _ => 0))) hexec hb (atype := .int) harr rfl hK.1 hP hD hS hA (fun cA => rfl) hn hN hbytes hcells hslots hdg (fun q cA H1 k1 p1 d1 s1 => ?_)
  have e1 : s.vm.findClass ("[" ++ FieldType.int.toString) = some cA := (k1.2 4 (cA, .int) rfl).2
  have e2 : s.vm.findClass ("[" ++ FieldType.int.toString) = some (ac 0) := (hK.1.2 0 (ac 0, .int) rfl).2
  have e3 : cA = ac 0 := Option.some.inj (e1.symm.trans e2)
  subst e3
  exact kk q H1 p1 d1 s1
theorem zc_newq (hexec : p.tables.exec = Jvm.exec) (hb : c.code = cc) {own C : String} {index : Nat} (t : Nat) (ht : (zcty ac)[t]? = some (ac t, .object C)) (hown : s.vm.findClass own = some m.cls) (hclink : (Cond.classLink own index C).before args s = true) (hover : va_AO C s) (hK : zKc D ac s) (hP : va_P D vwCl ws H) (hD : va_D A ws) (hS : va_S A H0 H locs) (hA : ∀ q, H0.size ≤ q → A q)
    (hcells : cells + 1 ≤ R.cells) (hslots : slots + 4 ≤ R.slots) (hdg : decode cc pc = .ok (.anewarray index, 3))
    (kk : ∀ (q : Nat) (H1 : Heap), va_P D vwCl (ws ++ [(q, zQa (ac t) (fun _ => none))]) H1 → va_D A (ws ++ [(q, zQa (ac t) (fun _ => none))]) → va_S A H0 H1 locs → W p l e R s m args below meth c H1 locs (cells + 1) (slots + 4) Q (F0 m (pc + 3) ls (.ref q :: rest))) : W p l e R s m args below meth c H locs cells slots Q (F0 m pc ls (.int 4 :: rest)) := by
  refine va_newq (n := 4) (N' := 4) hexec hb hown hclink hover hK.1 hP hD hS hA (by decide) rfl (by decide) hcells hslots hdg (fun q cA H1 k1 p1 d1 s1 => ?_)
  obtain ⟨-, -, -, -, -, e1⟩ := (k1.2 4 (cA, .object C) rfl).2
  obtain ⟨-, -, -, -, -, e2⟩ := (hK.1.2 t (ac t, .object C) ht).2
  have e3 : cA = ac t := Option.some.inj (e1.symm.trans e2)
  subst e3
  exact kk q H1 p1 d1 s1
theorem zc_multi (hexec : p.tables.exec = Jvm.exec) (hb : c.code = cc) {own : String} {index : Nat} (hown : s.vm.findClass own = some m.cls) (hclink : (Cond.classLink own index "[[I").before args s = true) (harr : (Cond.arrayClass .int).before args s = true) (hK : zKc D ac s) (hP : va_P D vwCl ws H) (hD : va_D A ws) (hS : va_S A H0 H locs) (hA : ∀ q, H0.size ≤ q → A q)
    (hcells : cells + 5 ≤ R.cells) (hslots : slots + 100 ≤ R.slots) (hdg : decode cc pc = .ok (.multianewarray index 2, 4))
    (kk : ∀ (q : Nat) (H1 : Heap), va_P D vwCl (ws ++ [(q, zQa (ac 3) (fun j => if j < 4 then some (q + 1 + j) else none)), (q + 1, zIa (ac 0) 24), (q + 2, zIa (ac 0) 24), (q + 3, zIa (ac 0) 24), (q + 4, zIa (ac 0) 24)]) H1 → va_D A (ws ++ [(q, zQa (ac 3) (fun j => if j < 4 then some (q + 1 + j) else none)), (q + 1, zIa (ac 0) 24), (q + 2, zIa (ac 0) 24), (q + 3, zIa (ac 0) 24), (q + 4, zIa (ac 0) 24)]) → va_S A H0 H1 locs → W p l e R s m args below meth c H1 locs (cells + 5) (slots + 100) Q (F0 m (pc + 4) ls (.ref q :: rest))) : W p l e R s m args below meth c H locs cells slots Q (F0 m pc ls (.int 24 :: .int 4 :: rest)) := by
  intro T hT X
  obtain ⟨vm₁, cA, comp, -, fA, fC, hO, -, X', step⟩ := X.multianewarray2F hexec hown (ty := .int) hclink hK.2.2.2.2 harr (g := F0 m pc ls (.int 24 :: .int 4 :: rest)) rfl (by rw [hb]; exact hdg) rfl (by decide) (by decide) (by decide) (by decide) (by decide) rfl rfl hcells hslots
  have e2 : s.vm.findClass ("[" ++ FieldType.int.toString) = some (ac 0) := (hK.1.2 0 (ac 0, .int) rfl).2
  have e3 : s.vm.findClass ("[" ++ (FieldType.array .int).toString) = some (ac 3) := (hK.1.2 3 (ac 3, .array .int) rfl).2
  have ec : comp = ac 0 := Option.some.inj (fC.symm.trans e2)
  have ea : cA = ac 3 := Option.some.inj (fA.symm.trans e3)
  subst ec ea
  have hn4 : (4 : Int32).toNatClampNeg = 4 := rfl
  have hn24 : (24 : Int32).toNatClampNeg = 24 := rfl
  rw [hn4, hn24] at X' step
  generalize hF : Jvm.Free.Multi.fill (T.setVm vm₁) (ac 3) (ac 0) 4 24 (defaultValue .int) 4 = F at X' step
  have hTh : (T.setVm vm₁).heap = H := hT
  obtain ⟨f1, f2, -, -⟩ := Jvm.Free.Multi.fill_facts (T.setVm vm₁) (ac 3) (ac 0) 4 24 (defaultValue .int) 4
  rw [hF, hTh] at f1 f2
  have hold : ∀ x : Nat, x < H.size → F.heap[x]? = H[x]? := fun x hx => by
    have := Jvm.Free.Multi.fill_old (T.setVm vm₁) (ac 3) (ac 0) 4 24 (defaultValue .int) (a := x) (by rw [hTh]; exact hx) 4
    rw [hF, hTh] at this
    exact this
  have hrow : ∀ j : Nat, j < 4 → F.heap[H.size + 1 + j]? = some (vp_cell (ac 0) (24, .inl (fun _ => 0))) := fun j hj => by
    have := Jvm.Free.Multi.fill_inner (T.setVm vm₁) (ac 3) (ac 0) 4 24 (defaultValue .int) 4 j hj
    rw [hF, hTh] at this
    rw [this]
    show some (Jvm.Free.Multi.innerC (ac 0) 24 (.int 0)) = some (arrV (ac 0) 24 (fun _ => .int 0))
    rw [← arrV_new]
    rfl
  have hout : Jvm.Free.Multi.outerC (ac 3) 4 H.size 4 = vp_cell (ac 3) (4, .inr (.inr (.inr (.inr (fun j => if j < 4 then some (H.size + 1 + j) else none))))) := by
    rw [vp_cell_q]
    have hg : ∀ i : Nat, Jvm.Free.Multi.outerC (ac 3) 4 H.size i = arrV (ac 3) 4 (fun j => va_rf (if j < i then some (H.size + 1 + j) else none)) := by
      intro i
      induction i with
      | zero =>
        show ({ cls := ac 3, slots := Array.replicate 4 .null, vm := .none } : Cell) = _
        rw [arrV_new]
        refine congrArg (arrV (ac 3) 4) (funext fun j => ?_)
        simp [va_rf]
      | succ i ih =>
        show (Jvm.Free.Multi.outerC (ac 3) 4 H.size i).setSlot i (.ref (H.size + 1 + i)) = _
        rw [ih, arrV_store]
        refine congrArg (arrV (ac 3) 4) (funext fun j => ?_)
        by_cases e : j = i
        · subst e
          simp [updV, va_rf]
        · by_cases h : j < i
          · simp [updV, e, h, Nat.lt_succ_of_lt h]
          · simp [updV, e, h, show ¬ j < i + 1 by omega]
    exact hg 4
  rw [hout] at f2
  have hl0 : ∀ (k : Nat) (x : Nat × va_E), ws[k]? = some x → x.1 < H.size := fun k x hx => (hP k x hx).lt
  have hP0 : va_P D vwCl ws F.heap := hP.kept (fun k x hx => hold x.1 (hl0 k x hx))
  have hAA : ∀ j, A (H.size + j) := fun j => hA _ (by have := hS.1; omega)
  obtain ⟨d1, l1⟩ := zD_push (e := zQa (ac 3) (fun j => if j < 4 then some (H.size + 1 + j) else none)) hD hl0 (hAA 0)
  obtain ⟨d2, l2⟩ := zD_push (e := zIa (ac 0) 24) d1 l1 (hAA 1)
  obtain ⟨d3, l3⟩ := zD_push (e := zIa (ac 0) 24) d2 l2 (hAA 2)
  obtain ⟨d4, l4⟩ := zD_push (e := zIa (ac 0) 24) d3 l3 (hAA 3)
  obtain ⟨d5, l5⟩ := zD_push (e := zIa (ac 0) 24) d4 l4 (hAA 4)
  rw [List.append_assoc, List.append_assoc, List.append_assoc, List.append_assoc] at d5
  have hPn : va_P D vwCl [(H.size, zQa (ac 3) (fun j => if j < 4 then some (H.size + 1 + j) else none)), (H.size + 1, zIa (ac 0) 24), (H.size + 2, zIa (ac 0) 24), (H.size + 3, zIa (ac 0) 24), (H.size + 4, zIa (ac 0) 24)] F.heap := by
    intro k x hx
    match k, hx with
    | 0, hx => cases hx; exact f2
    | 1, hx => cases hx; exact hrow 0 (by decide)
    | 2, hx => cases hx; exact hrow 1 (by decide)
    | 3, hx => cases hx; exact hrow 2 (by decide)
    | 4, hx => cases hx; exact hrow 3 (by decide)
    | k + 5, hx => cases hx
  obtain ⟨t, a1, b1⟩ := kk H.size F.heap (hP0.app hPn) d5 ⟨by rw [f1]; have := hS.1; omega, fun x h1 h2 => (hold x (Nat.lt_of_lt_of_le h1 hS.1)).trans (hS.2.1 x h1 h2), hS.2.2⟩ F rfl X'
  refine ⟨t, step t ?_, b1⟩
  have e : T.heap.size = H.size := by rw [hT]
  rw [e]
  exact a1
end ZCR
