theorem zw_in_C : Cond.instantiable "CaseTree" 9 ∈ zb := zb_in 58 (by decide +kernel) (by decide +kernel)
theorem zw_in_M : Cond.instantiable "CaseTreeModel" 30 ∈ zb := zb_in 708 (by decide +kernel) (by decide +kernel)
theorem zw_cl_L_7 : Cond.classLink "CaseTreeLaw" 7 "CaseTree" ∈ zb := zb_in 57 (by decide +kernel) (by decide +kernel)
theorem zw_ml_L_9 : Cond.methodLink "CaseTreeLaw" 9 ⟨"CaseTree", "<init>", "()V"⟩ ∈ zb := zb_in 59 (by decide +kernel) (by decide +kernel)
theorem zim_C_init : Cond.instanceMethod ⟨"CaseTree", "<init>", "()V"⟩ ∈ zb := zb_in 60 (by decide +kernel) (by decide +kernel)
theorem zw_cl_L_10 : Cond.classLink "CaseTreeLaw" 10 "CaseTreeModel" ∈ zb := zb_in 707 (by decide +kernel) (by decide +kernel)
theorem zw_ml_L_12 : Cond.methodLink "CaseTreeLaw" 12 ⟨"CaseTreeModel", "<init>", "()V"⟩ ∈ zb := zb_in 709 (by decide +kernel) (by decide +kernel)
theorem zim_M_init : Cond.instanceMethod ⟨"CaseTreeModel", "<init>", "()V"⟩ ∈ zb := zb_in 710 (by decide +kernel) (by decide +kernel)
/-! THE CLAIM OUT OF ONE WALK OF THE LAW'S BODY. Your part is whole_start (and what it stands on); all else here is the same for every law, but numbers. -/
def R_law : String := "CaseTreeLaw"
def lw_P (b : Addr) (xs : List Int32) (args : Array Value) (s : State) : Prop := args = #[.ref b] ∧ s.IntsAt b xs ∧ xs.length ≤ 3072 ∧ (Jvm.Cond.and given_1 narrow_1).before args s = true
def lw_Q (_ : Array Value) (s : State) (o : Outcome) (t : State) : Prop := o = .returned (some (.int 1)) ∧ Framed s o t [] 600000 7302250
def lw_Z (below : List Frame) (a : Array Value) (s : State) : State → Prop := fun t => ∃ o, t.status = .running ∧ Ended t below o ∧ lw_Q a s o t
/-- what holds at the law's entry: the machine, the code, the tables' words (any of lw_tbl by 'hts w (by decide +kernel)'), the script of L ints xs at the cell b, what the Statement gives of the start (any of its parts by flat_of_before) -/
def lw_At (p : Program) (s : State) (m : MethodId) (meth : Method) (c : Code) (b L : Nat) (xs : Nat → Int32) : Prop :=
  p.tables.exec = Jvm.exec ∧ c.code = code ∧ meth.sig.returnType = ret ∧ c.maxLocals = 4 ∧ s.vm.findClass R_law = some m.cls ∧ (∀ w ∈ lw_tbl, w.before #[Value.ref b] s = true) ∧ va_X b L xs s s.heap ∧ b < s.heap.size ∧ meth.locks = false ∧ (Jvm.Cond.and given_1 narrow_1).before #[Value.ref b] s = true ∧ (Cond.code x code maxLocals ret).before #[Value.ref b] s = true
theorem zd_L_0 : decode code 0 = .ok (.new 7, 3) := by decide +kernel
theorem zd_L_3 : decode code 3 = .ok (.dup, 1) := by decide +kernel
theorem zd_L_4 : decode code 4 = .ok (.invokespecial 9, 3) := by decide +kernel
theorem zd_L_7 : decode code 7 = .ok (.astore_n 1, 1) := by decide +kernel
theorem zd_L_8 : decode code 8 = .ok (.new 10, 3) := by decide +kernel
theorem zd_L_11 : decode code 11 = .ok (.dup, 1) := by decide +kernel
theorem zd_L_12 : decode code 12 = .ok (.invokespecial 12, 3) := by decide +kernel
theorem zd_L_15 : decode code 15 = .ok (.astore_n 2, 1) := by decide +kernel
theorem zd_L_16 : decode code 16 = .ok (.iconst 0, 1) := by decide +kernel
theorem zd_L_17 : decode code 17 = .ok (.istore_n 3, 1) := by decide +kernel
set_option maxRecDepth 100000 in
theorem zn_tbl : ∀ q ∈ zn, Cond.methodLinkNest q.1 q.2.1 q.2.2 "CaseTree" ∈ lw_tbl := by decide +kernel
set_option maxRecDepth 100000 in
theorem znc_tbl : ∀ q ∈ znc, Cond.methodLinkNest q.1 q.2.1 q.2.2 "CaseTree" ∈ lw_tbl := by decide +kernel
theorem zFramed {s t : State} {o : Outcome} {L : List Loc} (h : FrameEnd s o t L 65 7776) (hL : ∀ q ∈ L, s.heap.size ≤ q.base) : Framed s o t [] 600000 7302250 := by
  obtain ⟨h1, h2, e1, e2, e3, e4, e5, e6⟩ := h
  refine ⟨h1, h2, e1, e2, Nat.le_trans e3 (by omega), e4, Nat.le_trans e5 (by decide), fun a c hc => ?_⟩
  obtain ⟨c', g1, g2, g3, g4⟩ := e6 a c hc
  refine ⟨c', g1, g2, g3, fun i _ => g4 i (fun hm => ?_)⟩
  have h8 : s.heap.size ≤ a := hL _ hm
  have h9 : a < s.heap.size := (Array.getElem?_eq_some_iff.mp hc).1
  exact absurd h9 (Nat.not_lt.mpr h8)
set_option maxHeartbeats 8000000 in
set_option maxRecDepth 100000 in
/-- from the entry, for every script of at most 3072 ints, the law comes to its end with true -/
theorem whole_start {p : Program} {e : Env} {s : State} {m : MethodId} {below : List Frame} {meth : Method} {c : Code} (l : Launch) {b L : Nat} {xs : Nat → Int32} (hL : L ≤ 3072) (C0 : lw_At p s m meth c b L xs) : W p l e room_1 s m #[Value.ref b] below meth c s.heap [] 0 0 (lw_Z below #[Value.ref b] s) (entryFrame m ([Value.ref b] : List Value).toArray 4) := by
  obtain ⟨hx, hb, hr, hml, hown, htb, hX, hbl, hlocks, hgv, hcw⟩ := C0
  have hown : s.vm.findClass "CaseTreeLaw" = some m.cls := hown
  have hts : ∀ w ∈ (Cond.code x code 4 ret :: zb), w.before #[Value.ref b] s = true := fun w hw => (List.mem_cons.mp hw).elim (fun h => by rw [h]; exact hcw) (fun h => htb w (zb_tbl w h))
  obtain ⟨c0, i0, h0⟩ := u_known hts (fun w h => List.mem_cons_of_mem _ (zu_C w h)) (hts _ (List.mem_cons_of_mem _ zw_in_C))
  obtain ⟨c1, i1, h1⟩ := u_known hts (fun w h => List.mem_cons_of_mem _ (zu_Cs w h)) (hts _ (List.mem_cons_of_mem _ zw_in_Cs))
  obtain ⟨c2, i2, h2⟩ := u_known hts (fun w h => List.mem_cons_of_mem _ (zu_Fi w h)) (hts _ (List.mem_cons_of_mem _ zw_in_Fi))
  obtain ⟨c3, i3, h3⟩ := u_known hts (fun w h => List.mem_cons_of_mem _ (zu_Fo w h)) (hts _ (List.mem_cons_of_mem _ zw_in_Fo))
  obtain ⟨c4, i4, h4⟩ := u_known hts (fun w h => List.mem_cons_of_mem _ (zu_Gr w h)) (hts _ (List.mem_cons_of_mem _ zw_in_Gr))
  obtain ⟨c5, i5, h5⟩ := u_known hts (fun w h => List.mem_cons_of_mem _ (zu_Ju w h)) (hts _ (List.mem_cons_of_mem _ zw_in_Ju))
  obtain ⟨c6, i6, h6⟩ := u_known hts (fun w h => List.mem_cons_of_mem _ (zu_Pa w h)) (hts _ (List.mem_cons_of_mem _ zw_in_Pa))
  obtain ⟨c7, i7, h7⟩ := u_known hts (fun w h => List.mem_cons_of_mem _ (zu_Pr w h)) (hts _ (List.mem_cons_of_mem _ zw_in_Pr))
  obtain ⟨c8, i8, h8⟩ := u_known hts (fun w h => List.mem_cons_of_mem _ (zu_Te w h)) (hts _ (List.mem_cons_of_mem _ zw_in_Te))
  obtain ⟨c9, i9, h9⟩ := u_known hts (fun w h => List.mem_cons_of_mem _ (zu_Tr w h)) (hts _ (List.mem_cons_of_mem _ zw_in_Tr))
  obtain ⟨c10, i10, h10⟩ := u_known hts (fun w h => List.mem_cons_of_mem _ (zu_M w h)) (hts _ (List.mem_cons_of_mem _ zw_in_M))
  obtain ⟨D, hKn⟩ : ∃ D : va_G, ∀ (c : Nat) (q : vw_C), vwCl[c]? = some q → u_Kn s q.1 q.2.1 q.2.2 (D.1 c) (D.2 c) := by
    refine ⟨(fun i => ([c0, c1, c2, c3, c4, c5, c6, c7, c8, c9, c10] : List ClassId).getD i 0, fun i => ([i0, i1, i2, i3, i4, i5, i6, i7, i8, i9, i10] : List (Nat → Nat)).getD i (fun _ => 0)), fun c q hq => ?_⟩
    have hc : c < 11 := (List.getElem?_eq_some_iff.mp hq).1
    rcases (show c = 0 ∨ c = 1 ∨ c = 2 ∨ c = 3 ∨ c = 4 ∨ c = 5 ∨ c = 6 ∨ c = 7 ∨ c = 8 ∨ c = 9 ∨ c = 10 by omega) with rfl | rfl | rfl | rfl | rfl | rfl | rfl | rfl | rfl | rfl | rfl
    · cases hq; exact h0
    · cases hq; exact h1
    · cases hq; exact h2
    · cases hq; exact h3
    · cases hq; exact h4
    · cases hq; exact h5
    · cases hq; exact h6
    · cases hq; exact h7
    · cases hq; exact h8
    · cases hq; exact h9
    · cases hq; exact h10
  have hao1 := htb (Cond.arrayOver (FieldType.object "CaseTree$Finding")) (List.mem_of_getElem? (i := 231) (by decide +kernel))
  have hao2 := htb (Cond.arrayOver (FieldType.object "CaseTree$Fork")) (List.mem_of_getElem? (i := 170) (by decide +kernel))
  have hao3 : zAa s := htb (Cond.arrayOver (FieldType.array FieldType.int)) (List.mem_of_getElem? (i := 168) (by decide +kernel))
  obtain ⟨d0, k0, p0, a01, a02, a03⟩ := Cond.arrayClass_spec (hts _ (List.mem_cons_of_mem _ zw_arrI))
  obtain ⟨p1, d1, k1, a11, -, a12, a13, a14⟩ := Cond.arrayOver_spec hao1
  obtain ⟨p2, d2, k2, a21, -, a22, a23, a24⟩ := Cond.arrayOver_spec hao2
  obtain ⟨p3, d3, k3, a31, -, a32, a33, a34⟩ := zAa_spec hao3
  obtain ⟨ac, hac⟩ : ∃ ac : Nat → ClassId, va_K D vwCl (zcty ac) s := by
    refine ⟨fun i => ([d0, d1, d2, d3] : List ClassId).getD i 0, hKn, fun k q hk => ?_⟩
    have hc : k < 4 := (List.getElem?_eq_some_iff.mp hk).1
    rcases (show k = 0 ∨ k = 1 ∨ k = 2 ∨ k = 3 by omega) with rfl | rfl | rfl | rfl
    · cases hk; exact ⟨fun n z => ⟨fun k h => (by cases h), k0, a02, p0, a03⟩, a01⟩
    · cases hk; exact ⟨fun n z => ⟨fun k h => (by cases h), k1, a12, p1, a13⟩, k1, p1, a12, a13, a11, a14⟩
    · cases hk; exact ⟨fun n z => ⟨fun k h => (by cases h), k2, a22, p2, a23⟩, k2, p2, a22, a23, a21, a24⟩
    · cases hk; exact ⟨fun n z => ⟨fun k h => (by cases h), k3, a32, p3, a33⟩, a34⟩
  have hK : zKc D ac s := ⟨hac, fun q hq => va_Nw.of rfl (htb _ (znc_tbl q hq)), va_AO.of hao1, va_AO.of hao2, hao3⟩
  have hA : ∀ q : Nat, s.heap.size ≤ q → (fun q : Nat => s.heap.size ≤ q) q := fun _ h => h
  have hS : va_S (fun q : Nat => s.heap.size ≤ q) s.heap s.heap [] := va_S.rf
  have hP : va_P D vwCl [] s.heap := fun k q h => by cases h
  have hD : va_D (fun q : Nat => s.heap.size ≤ q) [] := ⟨fun i j p q h => (by cases h), fun k q h => by cases h⟩
  have hl := lv_entry ([.ref b]) (n := 4) (Nat.le_of_ble_eq_true rfl)
  rw [lg_entry_eq]
  generalize (lg_sl ([.ref b]) ++ List.replicate (4 - (lg_sl ([.ref b])).length) Slot.unset).toArray = ls at hl ⊢
  have hl : lv_has ls 4 [(0, .ref b)] := hl
  refine va_new (ci := 0) (fs := [.null, .null, .null, .null, .null, .null, .null, .null, .null]) (C := "CaseTree") (T := zT_C) (N := 9) hx hb hts (fun w h => List.mem_cons_of_mem _ (zu_C w h)) zy_C zy_C_ok hown (hts _ (List.mem_cons_of_mem _ zw_cl_L_7)) (hts _ (List.mem_cons_of_mem _ zw_in_C)) (hts _ (List.mem_cons_of_mem _ zl_ini_C)) hK.1 hP hD hS hA rfl (fun j hj => by rcases (show j = 0 ∨ j = 1 ∨ j = 2 ∨ j = 3 ∨ j = 4 ∨ j = 5 ∨ j = 6 ∨ j = 7 ∨ j = 8 by omega) with rfl | rfl | rfl | rfl | rfl | rfl | rfl | rfl | rfl <;> rfl) (Nat.le_of_ble_eq_true rfl) (Nat.le_of_ble_eq_true rfl) zd_L_0 (fun qx H hP hD hS => ?_)
  have hP : va_P D vwCl [(qx, .inr (0, [.null, .null, .null, .null, .null, .null, .null, .null, .null]))] H := hP
  have hD : va_D (fun q : Nat => s.heap.size ≤ q) [(qx, .inr (0, [.null, .null, .null, .null, .null, .null, .null, .null, .null]))] := hD
  refine W.widen (k := 1) (n := 9) (Nat.le_refl _) (Nat.le_refl _) ?_
  refine lv_dup hx hb zd_L_3 rfl ?_
  have hPc := hP.sub (ws' := [(qx, .inr (0, [.null, .null, .null, .null, .null, .null, .null, .null, .null]))]) [0] rfl
  have hDc := hD.sub (ws' := [(qx, .inr (0, [.null, .null, .null, .null, .null, .null, .null, .null, .null]))]) [0] (by decide) rfl
  have hFc := va_free (wc := [(qx, .inr (0, [.null, .null, .null, .null, .null, .null, .null, .null, .null]))]) hD hS hA [0] rfl
  refine va_callv (va_runI (As := []) (rest := [.ref qx]) ⟨hx, hb, hml, hown, hts⟩ (k_C l D ac qx H.size) (cwI 0 hts (zg_code zc_C_init) rfl rfl rfl (hts _ (List.mem_cons_of_mem _ zl_ini_C)) (hts _ (List.mem_cons_of_mem _ zw_ml_L_9)) (hts _ (List.mem_cons_of_mem _ zim_C_init)) rfl (by decide +kernel) ⟨(Nat.le_of_ble_eq_true rfl), (Nat.le_of_ble_eq_true rfl)⟩) ⟨zk_blind _ _ _ _ _, fun U hU hW => ⟨rfl, by rw [hU], by rw [hU]; exact hPc, zKc_warm hW hK, hDc.weaken (fun _ _ _ _ => trivial)⟩⟩ rfl rfl hl.1 rfl (lv_room (Nat.le_of_ble_eq_true rfl)) zd_L_4 ⟨(Nat.le_of_ble_eq_true rfl), (Nat.le_of_ble_eq_true rfl)⟩) hS (fun q _ h => hFc q h) hFc (fun u t H1 locs ht hvm h5 hB hz1 hk1 hS => ?_)
  obtain ⟨hP1, hD1⟩ := hB
  rw [ht] at hP1
  obtain ⟨hP, hD⟩ := va_join (wr := []) (w1 := wc_C ac qx u) hP hD [0] [] rfl rfl (by decide) (by decide) hk1 hFc hP1 hD1
  generalize H1 = H at hP hS ⊢
  refine W.widen (k := 46) (n := 1812) (Nat.le_refl _) (Nat.le_refl _) ?_
  have hP : va_P D vwCl (wc_C ac qx u) H := hP
  have hD : va_D (fun q : Nat => s.heap.size ≤ q) (wc_C ac qx u) := hD
  refine lv_astore_n hx hb zd_L_7 rfl hl (by decide) rfl (fun ls hl => ?_)
  have hl : lv_has ls 4 [(1, .ref qx), (0, .ref b)] := hl
  refine va_new (ci := 10) (fs := [.int 0, .null, .int 0, .null, .null, .int 0, .int 0, .int 0, .null, .null, .null, .null, .null, .null, .null, .null, .null, .int 0, .int 0, .long 0, .long 0, .int 0, .int 0, .int 0, .null, .null, .null, .null, .null, .null]) (C := "CaseTreeModel") (T := zT_M) (N := 30) hx hb hts (fun w h => List.mem_cons_of_mem _ (zu_M w h)) zy_M zy_M_ok hown (hts _ (List.mem_cons_of_mem _ zw_cl_L_10)) (hts _ (List.mem_cons_of_mem _ zw_in_M)) (hts _ (List.mem_cons_of_mem _ zl_ini_M)) hK.1 hP hD hS hA rfl (fun j hj => by rcases (show j = 0 ∨ j = 1 ∨ j = 2 ∨ j = 3 ∨ j = 4 ∨ j = 5 ∨ j = 6 ∨ j = 7 ∨ j = 8 ∨ j = 9 ∨ j = 10 ∨ j = 11 ∨ j = 12 ∨ j = 13 ∨ j = 14 ∨ j = 15 ∨ j = 16 ∨ j = 17 ∨ j = 18 ∨ j = 19 ∨ j = 20 ∨ j = 21 ∨ j = 22 ∨ j = 23 ∨ j = 24 ∨ j = 25 ∨ j = 26 ∨ j = 27 ∨ j = 28 ∨ j = 29 by omega) with rfl | rfl | rfl | rfl | rfl | rfl | rfl | rfl | rfl | rfl | rfl | rfl | rfl | rfl | rfl | rfl | rfl | rfl | rfl | rfl | rfl | rfl | rfl | rfl | rfl | rfl | rfl | rfl | rfl | rfl <;> rfl) (Nat.le_of_ble_eq_true rfl) (Nat.le_of_ble_eq_true rfl) zd_L_8 (fun qm H hP hD hS => ?_)
  have hP : va_P D vwCl (wc_C ac qx u ++ [(qm, .inr (10, [.int 0, .null, .int 0, .null, .null, .int 0, .int 0, .int 0, .null, .null, .null, .null, .null, .null, .null, .null, .null, .int 0, .int 0, .long 0, .long 0, .int 0, .int 0, .int 0, .null, .null, .null, .null, .null, .null]))]) H := hP
  have hD : va_D (fun q : Nat => s.heap.size ≤ q) (wc_C ac qx u ++ [(qm, .inr (10, [.int 0, .null, .int 0, .null, .null, .int 0, .int 0, .int 0, .null, .null, .null, .null, .null, .null, .null, .null, .null, .int 0, .int 0, .long 0, .long 0, .int 0, .int 0, .int 0, .null, .null, .null, .null, .null, .null]))]) := hD
  refine W.widen (k := 47) (n := 1842) (Nat.le_refl _) (Nat.le_refl _) ?_
  refine lv_dup hx hb zd_L_11 rfl ?_
  have hPc := hP.sub (ws' := [(qm, .inr (10, [.int 0, .null, .int 0, .null, .null, .int 0, .int 0, .int 0, .null, .null, .null, .null, .null, .null, .null, .null, .null, .int 0, .int 0, .long 0, .long 0, .int 0, .int 0, .int 0, .null, .null, .null, .null, .null, .null]))]) [46] rfl
  have hDc := hD.sub (ws' := [(qm, .inr (10, [.int 0, .null, .int 0, .null, .null, .int 0, .int 0, .int 0, .null, .null, .null, .null, .null, .null, .null, .null, .null, .int 0, .int 0, .long 0, .long 0, .int 0, .int 0, .int 0, .null, .null, .null, .null, .null, .null]))]) [46] (by decide) rfl
  have hFc := va_free (wc := [(qm, .inr (10, [.int 0, .null, .int 0, .null, .null, .int 0, .int 0, .int 0, .null, .null, .null, .null, .null, .null, .null, .null, .null, .int 0, .int 0, .long 0, .long 0, .int 0, .int 0, .int 0, .null, .null, .null, .null, .null, .null]))]) hD hS hA [46] rfl
  refine va_callv (va_runI (As := []) (rest := [.ref qm]) ⟨hx, hb, hml, hown, hts⟩ (k_M l D ac qm H.size) (cwI 0 hts (zg_code zc_M_init) rfl rfl rfl (hts _ (List.mem_cons_of_mem _ zl_ini_M)) (hts _ (List.mem_cons_of_mem _ zw_ml_L_12)) (hts _ (List.mem_cons_of_mem _ zim_M_init)) rfl (by decide +kernel) ⟨(Nat.le_of_ble_eq_true rfl), (Nat.le_of_ble_eq_true rfl)⟩) ⟨zk_blind _ _ _ _ _, fun U hU hW => ⟨rfl, by rw [hU], by rw [hU]; exact hPc, zKc_warm hW hK, hDc.weaken (fun _ _ _ _ => trivial)⟩⟩ rfl rfl hl.1 rfl (lv_room (Nat.le_of_ble_eq_true rfl)) zd_L_12 ⟨(Nat.le_of_ble_eq_true rfl), (Nat.le_of_ble_eq_true rfl)⟩) hS (fun q _ h => hFc q h) hFc (fun v t H1 locs ht hvm h5 hB hz1 hk1 hS => ?_)
  obtain ⟨hP1, hD1⟩ := hB
  rw [ht] at hP1
  obtain ⟨hP, hD⟩ := va_join (wr := wc_C ac qx u) (w1 := wc_M ac qm v) hP hD [46] [0, 1, 2, 3, 4, 5, 6, 7, 8, 9, 10, 11, 12, 13, 14, 15, 16, 17, 18, 19, 20, 21, 22, 23, 24, 25, 26, 27, 28, 29, 30, 31, 32, 33, 34, 35, 36, 37, 38, 39, 40, 41, 42, 43, 44, 45] rfl rfl (by decide) (by decide) hk1 hFc hP1 hD1
  generalize H1 = H at hP hS ⊢
  refine W.widen (k := 65) (n := 7776) (Nat.le_refl _) (Nat.le_refl _) ?_
  have hP : va_P D vwCl (zwall ac qx qm u v) H := hP
  have hD : va_D (fun q : Nat => s.heap.size ≤ q) (zwall ac qx qm u v) := hD
  refine lv_astore_n hx hb zd_L_15 rfl hl (by decide) rfl (fun ls hl => ?_)
  have hl : lv_has ls 4 [(2, .ref qm), (1, .ref qx), (0, .ref b)] := hl
  refine lv_iconst (v := 0) hx hb zd_L_16 (by decide) ?_
  refine lv_istore_n hx hb zd_L_17 rfl hl (by decide) rfl (fun ls hl => ?_)
  have hl : lv_has ls 4 [(3, .int 0), (2, .ref qm), (1, .ref qx), (0, .ref b)] := hl
  refine va_forget (fun q hq => hS.2.2 q hq) ?_
  have hPz := zw_P (b := b) hP
  have hi : ze_inj (D, zad b qx qm u v, ac) := zw_inj hD
  have hAd : ∀ k, k < 65 → s.heap.size ≤ zad b qx qm u v k := fun k hk => zw_A (b := b) hD hk
  have hAz : ∀ q, ze_A (D, zad b qx qm u v, ac) q → s.heap.size ≤ q := fun q h => by
    obtain ⟨k, hk, e⟩ := h
    rw [← e]
    exact hAd k hk
  have hSz : va_S (ze_A (D, zad b qx qm u v, ac)) s.heap H [] := ⟨hS.1, fun q h1 h2 => hS.2.1 q h1 (fun h => absurd h1 (Nat.not_lt.mpr h)), fun l h => by cases h⟩
  have hKz : ze_K (D, zad b qx qm u v, ac) s := ⟨hac, fun q hq => va_Nw.of rfl (htb _ (zn_tbl q hq))⟩
  have hE : zLx L xs (D, zad b qx qm u v, ac) s := ⟨hX, hbl, fun h => absurd (hAz b h) (Nat.not_le.mpr hbl)⟩
  have key := zL_loop (N := L) (xs := xs) hL 3072 0 zs0 zS0 (by omega) (by omega) zS0_C zS0_M (ze_Z l 4 (D, zad b qx qm u v, ac) room_1 65 7776 p e s m #[Value.ref b] below meth c (fun _ _ o _ => o = .returned (some (.int 1))) (fun q => s.heap.size ≤ q)) (fun f hf => by
    obtain ⟨pc, Ls, st, τ⟩ := f
    exact zok_L pc _ l 12 (D, zad b qx qm u v, ac) room_1 65 7776 p e s m #[Value.ref b] below meth c zLQ (fun _ _ o _ => o = .returned (some (.int 1))) (fun q => s.heap.size ≤ q) ⟨hx, hb, hml, hown, hts, hKz, hi, hr, hlocks, fun mi as σ P h h1 h2 => zM_sound l hi h h1 h2, ⟨Nat.le_of_ble_eq_true rfl, Nat.le_of_ble_eq_true rfl, Nat.le_of_ble_eq_true rfl, Nat.le_of_ble_eq_true rfl⟩, hE, fun v0 σ0 H0 locs0 q1 q2 q3 => ⟨fun t _ _ => by
      have q1 : v0 = some (.int 1) := q1
      rw [q1]
      rfl, fun q hq => hAz _ (q3.2.2 q hq)⟩⟩ Ls st τ hf)
  have hlo : ze_lo (zad b qx qm u v) ls 4 [some (.ref 99), some (.ref 27), some (.ref 64), some (.int (nI 0))] := ⟨hl.1, hl.2.1, fun i w hw => by
    match i, hw with
    | 0, hw => cases hw; exact lv_at hl 3 rfl
    | 1, hw => cases hw; exact lv_at hl 2 rfl
    | 2, hw => cases hw; exact lv_at hl 1 rfl
    | 3, hw => cases hw; exact lv_at hl 0 rfl
    | i + 4, hw => cases hw⟩
  have hW := key H [] ls hPz hSz hlo
  intro T hT X
  obtain ⟨t, a1, o, b1, b2, b3, Lc, b4, b5⟩ := hW T hT X
  exact ⟨t, a1, o, b1, b2, b3, zFramed b4 b5⟩
