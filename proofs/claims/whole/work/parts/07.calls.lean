section ZeSnd3
variable {I : Nat → ze_I} {Ex : ze_G → State → Prop} {i : ze_I} {pc : Nat}
theorem ze_callk {cs sl : Nat} {p : Program} {l : Launch} {e : Env} {R : Room} {s : State} {m : MethodId} {args : Array Value} {below : List Frame} {meth : Method} {c : Code} {H : Heap} {locs : List Loc} {Q : State → Prop} {ls : Array Slot} {rest st0 : List Value} {a : Array Value} {G : ze_G} {P : ze_P}
    (hr : va_Run p l e R s m args below meth c H locs cs sl 0 0 (F0 m pc ls st0) rest (ze_Q G P a) (ze_A G)) (hS : va_S (ze_A G) s.heap H locs)
    (kk : ∀ (v : Option Value) (σ' : ze_S) (H1 : Heap) (locs1 : List Loc), P v σ' → va_P G.1 vwCl (ze_w G σ') H1 → va_S (ze_A G) s.heap H1 locs1 → W p l e R s m args below meth c H1 locs1 cs sl Q (F0 m (pc + 3) ls ((v.map (ze_c G.2.1)).toList ++ rest))) : W p l e R s m args below meth c H locs cs sl Q (F0 m pc ls st0) := by
  intro T hT X
  obtain ⟨v, st₀, t, T', L, h0, X', hL, e1, e2, ⟨⟨v', σ', hv, hp, hw⟩, hz, hk⟩, st⟩ := hr T hT X
  cases hv
  rw [h0] at hz hk
  obtain ⟨t2, a1, b1⟩ := kk v' σ' T'.heap (locs ++ L) hp (by rw [e1]; exact hw)
    ⟨Nat.le_trans hS.1 (by rw [e1]; exact hz), fun q h1 h2 => by rw [e1, hk q (Nat.lt_of_lt_of_le h1 hS.1) h2]; exact hS.2.1 q h1 h2, fun q hq => by
      rcases List.mem_append.mp hq with h | h
      · exact hS.2.2 q h
      · exact hL q h⟩ T' rfl X'
  exact ⟨t2, st t2 a1, b1⟩
theorem ze_blind (G : ze_G) (σ : ze_S) (av : List Value) : FrameBlind (va_Pc av (ze_B G σ)) := fun a U g mk q => by
  obtain ⟨q0, qP, qK⟩ := q
  exact ⟨q0, qP, va_K.moved (u := U) (U := U.calling g mk a) (Vm.Alike.refl U.vm) qK.1, fun q hq => va_Nw.same (U := U.calling g mk a) rfl rfl (qK.2 q hq)⟩
theorem ze_catm (ad : Nat → Nat) (r : List Value) : ((r.map (ze_c ad)).map fun v => v.category) = r.map fun v => v.category := by
  rw [List.map_map]
  exact List.map_congr_left fun v _ => ze_c_cat _ v
theorem ze_room {d f r : Nat} (h1 : d + 2 ≤ f) (h2 : 60 * (d + 2) ≤ r) {x : Nat} (h : x ≤ 40) : (ze_rm d).frames + 1 ≤ f ∧ 8 + (x + 11) + (ze_rm d).locals ≤ r := by
  constructor
  · show d + 1 + 1 ≤ f
    omega
  · show 8 + (x + 11) + 60 * (d + 1) ≤ r
    omega
theorem ze_ok_of {n : Nat} {st : List Value} (h : ze_ok n st = true) : n ≤ st.length ∧ ((st.drop n).map fun v => v.category).sum ≤ 8 ∧ ze_c1 (st.take n).reverse = true := by
  unfold ze_ok at h
  rw [Bool.and_eq_true, Bool.and_eq_true] at h
  exact ⟨Nat.le_of_ble_eq_true h.1, Nat.le_of_ble_eq_true h.2.1, h.2.2⟩
theorem zg_code {c c' : Cond} (h : c' ∈ zb) : GoodIn (c :: zb) (c' :: zb) := fun w hw => by
  have h1 : w ∈ zb := by
    rcases List.mem_cons.mp hw with e | e
    · rw [e]; exact h
    · exact e
  exact ⟨List.mem_cons_of_mem _ h1, zb_good w h1⟩
theorem zg_list {c : Cond} {l m : List Cond} (h : ∀ w ∈ l, w ∈ zb) (hm : GoodIn (c :: zb) m) : GoodIn (c :: zb) (l ++ m) := fun w hw => by
  rcases List.mem_append.mp hw with e | e
  · exact ⟨List.mem_cons_of_mem _ (h w e), zb_good w (h w e)⟩
  · exact hm w e
theorem zg_3 {a b c : Cond} (h1 : a ∈ zb) (h2 : b ∈ zb) (h3 : c ∈ zb) : ∀ w ∈ [a, b, c], w ∈ zb := fun w hw => by
  simp only [List.mem_cons, List.not_mem_nil, or_false] at hw
  rcases hw with rfl | rfl | rfl <;> assumption
theorem zg_4 {a b c d : Cond} (h1 : a ∈ zb) (h2 : b ∈ zb) (h3 : c ∈ zb) (h4 : d ∈ zb) : ∀ w ∈ [a, b, c, d], w ∈ zb := fun w hw => by
  simp only [List.mem_cons, List.not_mem_nil, or_false] at hw
  rcases hw with rfl | rfl | rfl | rfl <;> assumption
theorem zg_ws {i j : ze_I} (hi : i.2.2.2.2 = zb) (hj : j.2.2.2.2 = zb) (h : Cond.code j.1 j.2.1 j.2.2.1 j.2.2.2.1 ∈ zb) : GoodIn (ze_ws i) (ze_ws j) := by
  unfold ze_ws
  rw [hi, hj]
  exact zg_code h
theorem zg_wsl {i j : ze_I} {l : List Cond} (hi : i.2.2.2.2 = zb) (hl : ∀ w ∈ l, w ∈ zb) (h : GoodIn (ze_ws i) (ze_ws j)) : GoodIn (ze_ws i) (l ++ ze_ws j) := by
  unfold ze_ws at h ⊢
  rw [hi] at h ⊢
  exact zg_list hl h
theorem zt_in {i : ze_I} (hi : i.2.2.2.2 = zb) {w : Cond} (h : w ∈ zb) : w ∈ ze_ws i := by
  unfold ze_ws
  rw [hi]
  exact List.mem_cons_of_mem _ h
theorem zs_cs {mi n x : Nat} {j : ze_I} (hj : I mi = j) (hi0 : i.2.2.2.2 = zb) (hj0 : j.2.2.2.2 = zb) (hw1 : Cond.methodLink i.1.cls x j.1 ∈ zb) (hw2 : Cond.static j.1 ∈ zb) (hw3 : Cond.initialized j.1.cls ∈ zb) (hw4 : Cond.code j.1 j.2.1 j.2.2.1 j.2.2.2.1 ∈ zb) (hy : j.1.cls ≠ "java/lang/invoke/MethodHandle" ∧ j.1.cls ≠ "java/lang/invoke/VarHandle" ∧ (parseMethodDescriptor j.1.desc).map (fun d => d.parameters.length) = some n) (hm : j.2.2.1 ≤ 40) (hn : n ≤ j.2.2.1) (hd : decode i.2.1 pc = .ok (.invokestatic x, 3)) : ze_snd I Ex i pc (zo_cs mi n) := by
  intro M l d G R cs sl p e s m args below meth c Q Qc free hcx L st σ h H locs ls hP hS hL
  obtain ⟨hx, hb, hml, hown, hts, hK, hi, -, -, hM, hR, -⟩ := hcx
  obtain ⟨hok, P, hp, hk⟩ := h
  obtain ⟨hlen, hcat, hc1⟩ := ze_ok_of hok
  have hlen2 : (st.take n).reverse.length = n := by simp [hlen]
  have hMet := hM mi _ σ P hp hc1 (by rw [hlen2, hj]; exact hn)
  unfold ze_Met at hMet
  rw [hj] at hMet
  have hG : GoodIn (ze_ws i) (ze_ws j) := zg_ws hi0 hj0 hw4
  have hst : st.map (ze_c G.2.1) = ((st.take n).reverse.map (ze_c G.2.1)).reverse ++ (st.drop n).map (ze_c G.2.1) := by
    rw [← List.map_reverse, List.reverse_reverse, ← List.map_append, List.take_append_drop]
  refine ze_callk (P := P) (rest := (st.drop n).map (ze_c G.2.1)) (a := ((st.take n).reverse.map (ze_c G.2.1)).toArray)
    (va_runS (As := (st.take n).reverse.map (ze_c G.2.1)) ⟨hx, hb, hml, hown, hts⟩ hMet ⟨callB_of n hts hG rfl rfl rfl (hts _ (zt_in hi0 hw3)) (hts _ (zt_in hi0 hw1)) hy (ze_room hR.1 hR.2.1 hm), hts _ (zt_in hi0 hw2)⟩ ⟨ze_blind G σ _, fun U hU hW => ⟨rfl, by rw [hU]; exact hP, ze_K_warm hW hK⟩⟩ rfl (by rw [List.length_map, hlen2]) hL.1 hst (lv_room (by rw [ze_catm]; exact hcat)) hd ⟨hR.2.2.1, hR.2.2.2⟩) hS (fun v σ' H1 locs1 q1 q2 q3 => ?_)
  refine W.eq ?_ (hk v σ' q1 H1 locs1 ls q2 q3 hL)
  cases v <;> simp
theorem zs_csN {mi n x : Nat} {j : ze_I} (hj : I mi = j) (hi0 : i.2.2.2.2 = zb) (hj0 : j.2.2.2.2 = zb) (hw2 : Cond.static j.1 ∈ zb) (hw3 : Cond.initialized j.1.cls ∈ zb) (hw4 : Cond.code j.1 j.2.1 j.2.2.1 j.2.2.2.1 ∈ zb) (nk : Nat) (hnk : zn[nk]? = some (i.1.cls, x, j.1)) (hy : j.1.cls ≠ "java/lang/invoke/MethodHandle" ∧ j.1.cls ≠ "java/lang/invoke/VarHandle" ∧ (parseMethodDescriptor j.1.desc).map (fun d => d.parameters.length) = some n) (hm : j.2.2.1 ≤ 40) (hn : n ≤ j.2.2.1) (hd : decode i.2.1 pc = .ok (.invokestatic x, 3)) : ze_snd I Ex i pc (zo_cs mi n) := by
  intro M l d G R cs sl p e s m args below meth c Q Qc free hcx L st σ h H locs ls hP hS hL
  obtain ⟨hx, hb, hml, hown, hts, hK, hi, -, -, hM, hR, -⟩ := hcx
  obtain ⟨hok, P, hp, hk⟩ := h
  obtain ⟨hlen, hcat, hc1⟩ := ze_ok_of hok
  have hlen2 : (st.take n).reverse.length = n := by simp [hlen]
  have hMet := hM mi _ σ P hp hc1 (by rw [hlen2, hj]; exact hn)
  unfold ze_Met at hMet
  rw [hj] at hMet
  have hG : GoodIn (ze_ws i) (ze_ws j) := zg_ws hi0 hj0 hw4
  have hnl := hK.2 _ (List.mem_of_getElem? hnk)
  have hst : st.map (ze_c G.2.1) = ((st.take n).reverse.map (ze_c G.2.1)).reverse ++ (st.drop n).map (ze_c G.2.1) := by
    rw [← List.map_reverse, List.reverse_reverse, ← List.map_append, List.take_append_drop]
  refine ze_callk (P := P) (rest := (st.drop n).map (ze_c G.2.1)) (a := ((st.take n).reverse.map (ze_c G.2.1)).toArray)
    (va_runSN (As := (st.take n).reverse.map (ze_c G.2.1)) ⟨hx, hb, hml, hown, hts⟩ hMet ⟨va_cnB n hts hG rfl rfl rfl hnl (hts _ (zt_in hi0 hw3)) hy (ze_room hR.1 hR.2.1 hm), hts _ (zt_in hi0 hw2), trivial⟩ ⟨ze_blind G σ _, fun U hU hW => ⟨rfl, by rw [hU]; exact hP, ze_K_warm hW hK⟩⟩ rfl (by rw [List.length_map, hlen2]) hL.1 hst (lv_room (by rw [ze_catm]; exact hcat)) hd ⟨hR.2.2.1, hR.2.2.2⟩) hS (fun v σ' H1 locs1 q1 q2 q3 => ?_)
  refine W.eq ?_ (hk v σ' q1 H1 locs1 ls q2 q3 hL)
  cases v <;> simp
theorem zs_cv {mi ci n x N : Nat} {C : String} {T : u_T} {j : ze_I} (hj : I mi = j) (hi0 : i.2.2.2.2 = zb) (hj0 : j.2.2.2.2 = zb) (hci : ci < 90) (hc : vwCl[ci]? = some (C, T, N)) (hw1 : Cond.methodLink i.1.cls x j.1 ∈ zb) (hw2 : Cond.instanceMethod j.1 ∈ zb) (hw2b : Cond.selects C j.1 j.1 ∈ zb) (hw3 : Cond.initialized C ∈ zb) (hw4 : Cond.code j.1 j.2.1 j.2.2.1 j.2.2.2.1 ∈ zb) (hy : j.1.cls = C ∧ j.1.cls ≠ "java/lang/invoke/MethodHandle" ∧ j.1.cls ≠ "java/lang/invoke/VarHandle" ∧ (parseMethodDescriptor j.1.desc).map (fun d => d.parameters.length) = some n) (hm : j.2.2.1 ≤ 40) (hn : n + 1 ≤ j.2.2.1) (hd : decode i.2.1 pc = .ok (.invokevirtual x, 3)) : ze_snd I Ex i pc (zo_cv mi ci (n + 1)) := by
  intro M l d G R cs sl p e s m args below meth c Q Qc free hcx L st σ h H locs ls hP hS hL
  obtain ⟨hx, hb, hml, hown, hts, hK, hi, -, -, hM, hR, -⟩ := hcx
  obtain ⟨⟨hok, hrc⟩, P, hp, hk⟩ := h
  obtain ⟨hlen, hcat, hc1⟩ := ze_ok_of hok
  have hlen2 : (st.take (n + 1)).reverse.length = n + 1 := by simp [hlen]
  have hMet := hM mi _ σ P hp hc1 (by rw [hlen2, hj]; exact hn)
  unfold ze_Met at hMet
  rw [hj] at hMet
  have hG : GoodIn (ze_ws i) (wsV i.1.cls x C j.1 (ze_ws j)) := zg_wsl hi0 (zg_4 hw1 hw2 hw2b hw3) (zg_ws hi0 hj0 hw4)
  have hst : st.map (ze_c G.2.1) = ((st.take (n + 1)).reverse.map (ze_c G.2.1)).reverse ++ (st.drop (n + 1)).map (ze_c G.2.1) := by
    rw [← List.map_reverse, List.reverse_reverse, ← List.map_append, List.take_append_drop]
  generalize (st.take (n + 1)).reverse = as at hlen2 hMet hst hrc
  cases as with
  | nil => exact hrc.elim
  | cons v as =>
    cases v with
    | ref k =>
      have hkc : ze_cl k = ci := hrc
      have hst2 : st.map (ze_c G.2.1) = (as.map (ze_c G.2.1)).reverse ++ .ref (G.2.1 k) :: (st.drop (n + 1)).map (ze_c G.2.1) := by
        rw [hst]
        simp [ze_c]
      refine ze_callk (P := P) (rest := (st.drop (n + 1)).map (ze_c G.2.1)) (a := (Value.ref (G.2.1 k) :: as.map (ze_c G.2.1)).toArray)
        (va_runV (C := C) (b := G.2.1 k) (As := as.map (ze_c G.2.1)) ⟨hx, hb, hml, hown, hts⟩ hMet (cwV n hts hG rfl rfl rfl hy (ze_room hR.1 hR.2.1 hm)) ⟨ze_blind G σ _, va_recv hK.1 hP hc (by rw [ze_w_at G σ (ze_cl_N hkc hci), ze_E_o G σ hkc hci]), fun U hU hW => ⟨rfl, by rw [hU]; exact hP, ze_K_warm hW hK⟩⟩ rfl (by rw [List.length_map]; exact Nat.succ.inj hlen2) hL.1 hst2 (lv_room (by rw [ze_catm]; exact hcat)) hd ⟨hR.2.2.1, hR.2.2.2⟩) hS (fun v σ' H1 locs1 q1 q2 q3 => ?_)
      refine W.eq ?_ (hk v σ' q1 H1 locs1 ls q2 q3 hL)
      cases v <;> simp
    | _ => exact hrc.elim
theorem ze_end {G : ze_G} {Q : ze_P} {s : State} {args : Array Value} {H : Heap} {locs : List Loc} {σ : ze_S} {v : Option Value} (hP : va_P G.1 vwCl (ze_w G σ) H) (hS : va_S (ze_A G) s.heap H locs) (hq : Q v σ) : ∀ t : State, t.heap = H → s.WarmedH t.vm → ze_Q G Q args s (.returned (v.map (ze_c G.2.1))) t :=
  fun t ht _ => ⟨⟨v, σ, rfl, hq, by rw [ht]; exact hP⟩, hS.F ht⟩
theorem zs_ir (hr0 : i.2.2.2.1 = some .int) (hd : decode i.2.1 pc = .ok (.ireturn, 1)) : ze_snd I Ex i pc zo_ir := by
  intro M l d G R cs sl p e s m args below meth c Q Qc free hcx L st σ h H locs ls hP hS hL
  obtain ⟨hx, hb, hml, hown, hts, hK, hi, hr, hlocks, -, -, -, hend⟩ := hcx
  rw [hr0] at hr
  rcases st with _ | ⟨v, _ | ⟨w, st⟩⟩
  · exact ze_no h
  · cases v <;> first | exact ze_no h | skip
    exact W.iret hx hb hr (hend _ σ H locs (And.right h) hP hS).1 (hend _ σ H locs (And.right h) hP hS).2 hd
  · cases v <;> exact ze_no h
theorem zs_zr (hr0 : i.2.2.2.1 = some .boolean) (hd : decode i.2.1 pc = .ok (.ireturn, 1)) : ze_snd I Ex i pc zo_zr := by
  intro M l d G R cs sl p e s m args below meth c Q Qc free hcx L st σ h H locs ls hP hS hL
  obtain ⟨hx, hb, hml, hown, hts, hK, hi, hr, hlocks, -, -, -, hend⟩ := hcx
  rw [hr0] at hr
  rcases st with _ | ⟨v, _ | ⟨w, st⟩⟩
  · exact ze_no h
  · cases v with
    | int x => exact W.zret hx hb hr (by rcases And.left h with q | q <;> rw [q] <;> rfl) (hend _ σ H locs (And.right h) hP hS).1 (hend _ σ H locs (And.right h) hP hS).2 hd
    | _ => exact ze_no h
  · cases v <;> exact ze_no h
theorem zs_lr (hr0 : i.2.2.2.1 = some .long) (hd : decode i.2.1 pc = .ok (.lreturn, 1)) : ze_snd I Ex i pc zo_lr := by
  intro M l d G R cs sl p e s m args below meth c Q Qc free hcx L st σ h H locs ls hP hS hL
  obtain ⟨hx, hb, hml, hown, hts, hK, hi, hr, hlocks, -, -, -, hend⟩ := hcx
  rw [hr0] at hr
  rcases st with _ | ⟨v, _ | ⟨w, st⟩⟩
  · exact ze_no h
  · cases v <;> first | exact ze_no h | skip
    exact W.lret hx hb hr (hend _ σ H locs (And.right h) hP hS).1 (hend _ σ H locs (And.right h) hP hS).2 hd
  · cases v <;> exact ze_no h
theorem zs_vr (hr0 : i.2.2.2.1 = none) (hd : decode i.2.1 pc = .ok (.return_, 1)) : ze_snd I Ex i pc zo_vr := by
  intro M l d G R cs sl p e s m args below meth c Q Qc free hcx L st σ h H locs ls hP hS hL
  obtain ⟨hx, hb, hml, hown, hts, hK, hi, hr, hlocks, -, -, -, hend⟩ := hcx
  rw [hr0] at hr
  rcases st with _ | ⟨v, st⟩
  · exact W.vret hx hb hr (hend _ σ H locs (And.right h) hP hS).1 (hend _ σ H locs (And.right h) hP hS).2 hd
  · exact ze_no h
end ZeSnd3
/-! tables -/
theorem zt_nil {I : Nat → ze_I} {Ex : ze_G → State → Prop} {i : ze_I} : ∀ pc, ze_snd I Ex i pc (ze_lk [] pc) := fun _ _ _ _ _ _ _ _ _ _ _ _ _ _ _ _ _ _ _ _ _ _ _ h => ze_no h
theorem zt_cons {I : Nat → ze_I} {Ex : ze_G → State → Prop} {i : ze_I} {n : Nat} {o : ze_F → ze_R} {t : ze_T} (h : ze_snd I Ex i n o) (ht : ∀ pc, ze_snd I Ex i pc (ze_lk t pc)) : ∀ pc, ze_snd I Ex i pc (ze_lk ((n, o) :: t) pc) := by
  intro pc
  by_cases q : n = pc
  · subst q
    have e : ze_lk ((n, o) :: t) n = o := by
      funext f
      show (bif Nat.beq n n then o f else ze_lk t n f) = o f
      rw [Nat.beq_refl]
      rfl
    rw [e]
    exact h
  · have e : ze_lk ((n, o) :: t) pc = ze_lk t pc := by
      funext f
      show (bif Nat.beq n pc then o f else ze_lk t pc f) = ze_lk t pc f
      have e0 : Nat.beq n pc = false := by
        cases h0 : Nat.beq n pc with
        | false => rfl
        | true => exact absurd (Nat.eq_of_beq_eq_true h0) q
      rw [e0]
      rfl
    rw [e]
    exact ht pc
theorem ze_ent_g (n : Nat) : ∀ (as : List Value) (r : List (Option Value)) (x j : Nat) (v : Value), ze_c1 as = true → (∀ y w, ze_g r y ≠ some w) → ze_g (as.map some ++ r) x = some v → (j + x, v) ∈ lv_args j as
  | [], r, x, j, v, _, hr, h => absurd h (hr x v)
  | a :: as, r, 0, j, v, hc, hr, h => by
    have e : a = v := Option.some.inj h
    subst e
    exact List.mem_cons_self
  | a :: as, r, x + 1, j, v, hc, hr, h => by
    have hc' : (Nat.beq a.category 1 && ze_c1 as) = true := hc
    rw [Bool.and_eq_true] at hc'
    have ha : a.category = 1 := Nat.eq_of_beq_eq_true hc'.1
    have ih := ze_ent_g n as r x (j + 1) v hc'.2 hr h
    have e : lv_args j (a :: as) = (j, a) :: lv_args (j + 1) as := by simp [lv_args, ha]
    rw [e]
    have e2 : j + (x + 1) = j + 1 + x := by omega
    rw [e2]
    exact List.mem_cons_of_mem _ ih
theorem ze_g_rep : ∀ (n y : Nat) (w : Value), ze_g (List.replicate n none) y ≠ some w
  | 0, _, _, h => by cases h
  | _ + 1, 0, _, h => by cases h
  | n + 1, y + 1, w, h => ze_g_rep n y w h
theorem ze_sl_len : ∀ (as : List Value), ze_c1 as = true → (lg_sl as).length = as.length
  | [], _ => rfl
  | a :: as, hc => by
    have hc' : (Nat.beq a.category 1 && ze_c1 as) = true := hc
    rw [Bool.and_eq_true] at hc'
    have ha : a.category = 1 := Nat.eq_of_beq_eq_true hc'.1
    have ih := ze_sl_len as hc'.2
    simp only [lg_sl, List.flatMap_cons, List.length_append, List.length_cons] at ih ⊢
    rw [ih]
    simp [ha]
    omega
theorem ze_c1_map (ad : Nat → Nat) : ∀ as : List Value, ze_c1 (as.map (ze_c ad)) = ze_c1 as
  | [] => rfl
  | a :: as => by
    show (Nat.beq (ze_c ad a).category 1 && ze_c1 (as.map (ze_c ad))) = (Nat.beq a.category 1 && ze_c1 as)
    rw [ze_c_cat, ze_c1_map ad as]
theorem ze_g_map (ad : Nat → Nat) : ∀ (L : List (Option Value)) (x : Nat) (v : Value), ze_g L x = some v → ze_g (L.map (Option.map (ze_c ad))) x = some (ze_c ad v)
  | [], _, _, h => by cases h
  | o :: _, 0, v, h => by
    have e : o = some v := h
    rw [e]; rfl
  | _ :: L, x + 1, v, h => ze_g_map ad L x v h
theorem ze_sound {I : Nat → ze_I} {tb : Nat → ze_T} (hI : ∀ mi, plainName (I mi).1.cls = true) (hT : ∀ mi pc, ze_snd I (fun _ _ => True) (I mi) pc (ze_lk (tb mi) pc)) (l : Launch) {G : ze_G} (hi : ze_inj G) :
    ∀ (d mi : Nat) (as : List Value) (σ : ze_S) (Q : ze_P), ze_M tb (fun mi => (I mi).2.2.1) d mi as σ Q → ze_c1 as = true → as.length ≤ (I mi).2.2.1 → ze_Met I l d mi G as σ Q := by
  intro d
  induction d with
  | zero => intro mi as σ Q h; exact h.elim
  | succ d ih =>
    intro mi as σ Q h hc1 hlen
    refine Met.ofW (cc := (I mi).2.1) (maxL := (I mi).2.2.1) (ret := (I mi).2.2.2.1) (hI mi) rfl ?_
    intro p e s m args below meth c s₁ B hml hv
    obtain ⟨rfl, hP, hK⟩ := hv
    have hts := atoms_spec (ws := ze_ws (I mi)) B.pre
    have hown : s.vm.findClass (I mi).1.cls = some m.cls := findClass_of_methodNamed B.named
    have key := h (ze_Z l (I mi).2.2.1 G (ze_rm (d + 1)) 0 0 p e s m (as.map (ze_c G.2.1)).toArray below meth c (ze_Q G Q) (ze_A G)) (fun f hf => by
      obtain ⟨pc, L, st, τ⟩ := f
      exact hT mi pc _ l d G (ze_rm (d + 1)) 0 0 p e s m _ below meth c Q (ze_Q G Q) (ze_A G) ⟨B.exec, B.bytes, hml, hown, hts, hK, hi, B.returns, B.notSynchronized, ih, ⟨Nat.le_refl _, Nat.le_refl _, Nat.le_refl _, Nat.le_refl _⟩, trivial, fun v τ H locs q1 q2 q3 => ⟨ze_end q2 q3 q1, q3.2.2⟩⟩ L st τ hf)
    have hlen2 : (lg_sl (as.map (ze_c G.2.1))).length = as.length := by rw [ze_sl_len _ (by rw [ze_c1_map]; exact hc1), List.length_map]
    have hl := lv_entry (as.map (ze_c G.2.1)) (n := (I mi).2.2.1) (by rw [hlen2]; exact hlen)
    rw [lg_entry_eq]
    refine key s.heap [] _ hP va_S.rf ⟨hl.1, hl.2.1, fun x v hx => hl.2.2 (x, ze_c G.2.1 v) ?_⟩
    have := ze_g_map G.2.1 _ x v hx
    have e : (ze_ent (I mi).2.2.1 as).map (Option.map (ze_c G.2.1)) = (as.map (ze_c G.2.1)).map some ++ List.replicate ((I mi).2.2.1 - as.length) none := by
      simp [ze_ent, List.map_append, List.map_map, Function.comp_def]
    have e2 : ze_g ((as.map (ze_c G.2.1)).map some ++ List.replicate ((I mi).2.2.1 - as.length) none) x = some (ze_c G.2.1 v) := by rw [← e]; exact this
    have := ze_ent_g 0 _ _ x 0 _ (by rw [ze_c1_map]; exact hc1) (ze_g_rep _) e2
    rwa [Nat.zero_add] at this
