theorem zd_Pa_init_0 : decode prog_7_method_1_code 0 = .ok (.aload_n 0, 1) := by decide +kernel
theorem zd_Pa_init_1 : decode prog_7_method_1_code 1 = .ok (.invokespecial 3, 3) := by decide +kernel
theorem zd_Pa_init_4 : decode prog_7_method_1_code 4 = .ok (.aload_n 0, 1) := by decide +kernel
theorem zd_Pa_init_5 : decode prog_7_method_1_code 5 = .ok (.iconst 4, 1) := by decide +kernel
theorem zd_Pa_init_6 : decode prog_7_method_1_code 6 = .ok (.bipush 24, 2) := by decide +kernel
theorem zd_Pa_init_8 : decode prog_7_method_1_code 8 = .ok (.multianewarray 9 2, 4) := by decide +kernel
theorem zd_Pa_init_12 : decode prog_7_method_1_code 12 = .ok (.putfield 11, 3) := by decide +kernel
theorem zd_Pa_init_15 : decode prog_7_method_1_code 15 = .ok (.aload_n 0, 1) := by decide +kernel
theorem zd_Pa_init_16 : decode prog_7_method_1_code 16 = .ok (.iconst 4, 1) := by decide +kernel
theorem zd_Pa_init_17 : decode prog_7_method_1_code 17 = .ok (.anewarray 16, 3) := by decide +kernel
theorem zd_Pa_init_20 : decode prog_7_method_1_code 20 = .ok (.putfield 18, 3) := by decide +kernel
theorem zd_Pa_init_23 : decode prog_7_method_1_code 23 = .ok (.aload_n 0, 1) := by decide +kernel
theorem zd_Pa_init_24 : decode prog_7_method_1_code 24 = .ok (.iconst 3, 1) := by decide +kernel
theorem zd_Pa_init_25 : decode prog_7_method_1_code 25 = .ok (.newarray .int, 2) := by decide +kernel
theorem zd_Pa_init_27 : decode prog_7_method_1_code 27 = .ok (.putfield 22, 3) := by decide +kernel
theorem zd_Pa_init_30 : decode prog_7_method_1_code 30 = .ok (.aload_n 0, 1) := by decide +kernel
theorem zd_Pa_init_31 : decode prog_7_method_1_code 31 = .ok (.aload_n 1, 1) := by decide +kernel
theorem zd_Pa_init_32 : decode prog_7_method_1_code 32 = .ok (.putfield 26, 3) := by decide +kernel
theorem zd_Pa_init_35 : decode prog_7_method_1_code 35 = .ok (.iconst 0, 1) := by decide +kernel
theorem zd_Pa_init_36 : decode prog_7_method_1_code 36 = .ok (.istore_n 2, 1) := by decide +kernel
theorem zd_Pa_init_37 : decode prog_7_method_1_code 37 = .ok (.iload_n 2, 1) := by decide +kernel
theorem zd_Pa_init_38 : decode prog_7_method_1_code 38 = .ok (.iconst 3, 1) := by decide +kernel
theorem zd_Pa_init_39 : decode prog_7_method_1_code 39 = .ok (.if_icmp .gt 22, 3) := by decide +kernel
theorem zd_Pa_init_42 : decode prog_7_method_1_code 42 = .ok (.aload_n 0, 1) := by decide +kernel
theorem zd_Pa_init_43 : decode prog_7_method_1_code 43 = .ok (.getfield 18, 3) := by decide +kernel
theorem zd_Pa_init_46 : decode prog_7_method_1_code 46 = .ok (.iload_n 2, 1) := by decide +kernel
theorem zd_Pa_init_47 : decode prog_7_method_1_code 47 = .ok (.new 16, 3) := by decide +kernel
theorem zd_Pa_init_50 : decode prog_7_method_1_code 50 = .ok (.dup, 1) := by decide +kernel
theorem zd_Pa_init_51 : decode prog_7_method_1_code 51 = .ok (.invokespecial 30, 3) := by decide +kernel
theorem zd_Pa_init_54 : decode prog_7_method_1_code 54 = .ok (.aastore, 1) := by decide +kernel
theorem zd_Pa_init_55 : decode prog_7_method_1_code 55 = .ok (.iinc 2 1, 3) := by decide +kernel
theorem zd_Pa_init_58 : decode prog_7_method_1_code 58 = .ok (.goto (-21), 3) := by decide +kernel
theorem zd_Pa_init_61 : decode prog_7_method_1_code 61 = .ok (.return_, 1) := by decide +kernel
abbrev wc_Pa (ac : Nat → ClassId) (a : Nat) (b1 : Nat) (u : Nat → Nat) : va_W := [(a, .inr (6, [.ref b1, .ref (u 0), .ref (u 1), .ref (u 2)])), ((u 0), zQa (ac 3) (fun j => if j < 4 then some ((u 0) + 1 + j) else none)), ((u 0) + 1, zIa (ac 0) 24), ((u 0) + 2, zIa (ac 0) 24), ((u 0) + 3, zIa (ac 0) 24), ((u 0) + 4, zIa (ac 0) 24), ((u 1), zQa (ac 2) (va_up (va_up (va_up (va_up (fun _ => none) (0 : Int32).toNatClampNeg (some (u 3))) (1 : Int32).toNatClampNeg (some (u 4))) (2 : Int32).toNatClampNeg (some (u 5))) (3 : Int32).toNatClampNeg (some (u 6)))), ((u 2), zIa (ac 0) 3), ((u 3), .inr (3, [.ref (u 7), .int 0, .int (-1), .int 0, .int 0, .int 0])), ((u 7), zIa (ac 0) 4), ((u 4), .inr (3, [.ref (u 8), .int 0, .int (-1), .int 0, .int 0, .int 0])), ((u 8), zIa (ac 0) 4), ((u 5), .inr (3, [.ref (u 9), .int 0, .int (-1), .int 0, .int 0, .int 0])), ((u 9), zIa (ac 0) 4), ((u 6), .inr (3, [.ref (u 10), .int 0, .int (-1), .int 0, .int 0, .int 0])), ((u 10), zIa (ac 0) 4)]
set_option maxHeartbeats 8000000 in
set_option maxRecDepth 100000 in
theorem k_Pa (l : Launch) (D : va_G) (ac : Nat → ClassId) (a : Nat) (b1 : Nat) (sz : Nat) : Met l ⟨"CaseTree$Path", "<init>", "(LCaseTree$Cases;)V"⟩ (Cond.code ⟨"CaseTree$Path", "<init>", "(LCaseTree$Cases;)V"⟩ prog_7_method_1_code 3 none :: zb) ({ frames := 2, cells := 15, slots := 147, locals := 100 }) (va_Pc [.ref a, .ref b1] (zkB D ac sz [(a, .inr (6, [.null, .null, .null, .null]))])) (va_Qv (fun _ : Nat → Nat => True) (fun u t => zkE D (va_A [(a, .inr (6, [.null, .null, .null, .null]))] sz) (wc_Pa ac a b1 u) t) (va_A [(a, .inr (6, [.null, .null, .null, .null]))] sz)) 15 147 (va_A [(a, .inr (6, [.null, .null, .null, .null]))] sz) := by
  refine Met.ofW (cc := prog_7_method_1_code) (maxL := 3) (ret := none) (by decide) rfl ?_
  intro p e s m args below meth c s₁ B hml hv
  obtain ⟨rfl, hsz, hP, hK, hD0⟩ := hv
  have hx := B.exec
  have hb := B.bytes
  have hr := B.returns
  have hts := atoms_spec (ws := (Cond.code ⟨"CaseTree$Path", "<init>", "(LCaseTree$Cases;)V"⟩ prog_7_method_1_code 3 none :: zb)) B.pre
  have hown : s.vm.findClass "CaseTree$Path" = some m.cls := findClass_of_methodNamed B.named
  have hlocks := B.notSynchronized
  have hin : meth.name = "<init>" := (name_of_methodNamed B.named B.method).1
  subst hsz
  have hD := hD0.self (sz := s.heap.size)
  generalize hAe : va_A [(a, .inr (6, [.null, .null, .null, .null]))] s.heap.size = A at hD ⊢
  have hA : ∀ q : Nat, s.heap.size ≤ q → A q := fun q h => by rw [← hAe]; exact Or.inr h
  have hS : va_S A s.heap s.heap [] := va_S.rf
  have hl := lv_entry ([.ref a, .ref b1]) (n := 3) (Nat.le_of_ble_eq_true rfl)
  rw [lg_entry_eq]
  generalize (lg_sl ([.ref a, .ref b1]) ++ List.replicate (3 - (lg_sl ([.ref a, .ref b1])).length) Slot.unset).toArray = ls at hl ⊢
  have hl : lv_has ls 3 [(0, .ref a), (1, .ref b1)] := hl
  refine lv_aload_n hx hb zd_Pa_init_0 rfl (lv_at hl 0 rfl) ?_
  refine W.objInit hx hb hown (hts _ (List.mem_cons_of_mem _ zw_ml_Pa_3)) (hts _ (List.mem_cons_of_mem _ zw_im_O)) (hts _ (List.mem_cons_of_mem _ zw_c_O)) rfl (by rw [hml]; exact hl.1) rfl zd_Pa_init_1 (Nat.le_of_ble_eq_true rfl) (Nat.le_of_ble_eq_true rfl) ?_
  refine W.eq (g2 := F0 m 4 ls []) rfl ?_
  refine lv_aload_n hx hb zd_Pa_init_4 rfl (lv_at hl 0 rfl) ?_
  refine lv_iconst (v := 4) hx hb zd_Pa_init_5 (by decide) ?_
  refine lv_bipush (v := 24) hx hb zd_Pa_init_6 (by decide) ?_
  refine zc_multi hx hb hown (hts _ (List.mem_cons_of_mem _ zw_cl_Pa_9)) (hts _ (List.mem_cons_of_mem _ zw_arrI)) hK hP hD hS hA (Nat.le_of_ble_eq_true rfl) (Nat.le_of_ble_eq_true rfl) zd_Pa_init_8 (fun q0 H hP hD hS => ?_)
  have hP : va_P D vwCl [(a, .inr (6, [.null, .null, .null, .null])), (q0, zQa (ac 3) (fun j => if j < 4 then some (q0 + 1 + j) else none)), (q0 + 1, zIa (ac 0) 24), (q0 + 2, zIa (ac 0) 24), (q0 + 3, zIa (ac 0) 24), (q0 + 4, zIa (ac 0) 24)] H := hP
  have hD : va_D A [(a, .inr (6, [.null, .null, .null, .null])), (q0, zQa (ac 3) (fun j => if j < 4 then some (q0 + 1 + j) else none)), (q0 + 1, zIa (ac 0) 24), (q0 + 2, zIa (ac 0) 24), (q0 + 3, zIa (ac 0) 24), (q0 + 4, zIa (ac 0) 24)] := hD
  refine W.widen (k := 5) (n := 100) (Nat.le_refl _) (Nat.le_refl _) ?_
  refine va_putF (D := D) (ci := 6) (v := .ref q0) (ty := (.array (.array .int))) (C := "CaseTree$Path") (T := zT_Pa) (N := 4) hx hb hts (fun w h => List.mem_cons_of_mem _ (zu_Pa w h)) zy_Pa zy_Pa_ok zn_Pa hown hK.1 hP hD hS 0 rfl rfl 1 (by decide) (hts _ (List.mem_cons_of_mem _ zf_Pa_11)) (fun _ h9 => h9) rfl hin rfl (by decide +kernel) rfl rfl (Nat.le_of_ble_eq_true rfl) zd_Pa_init_12 (fun H locs hP hD hS => ?_)
  have hP : va_P D vwCl [(a, .inr (6, [.null, .ref q0, .null, .null])), (q0, zQa (ac 3) (fun j => if j < 4 then some (q0 + 1 + j) else none)), (q0 + 1, zIa (ac 0) 24), (q0 + 2, zIa (ac 0) 24), (q0 + 3, zIa (ac 0) 24), (q0 + 4, zIa (ac 0) 24)] H := hP
  have hD : va_D A [(a, .inr (6, [.null, .ref q0, .null, .null])), (q0, zQa (ac 3) (fun j => if j < 4 then some (q0 + 1 + j) else none)), (q0 + 1, zIa (ac 0) 24), (q0 + 2, zIa (ac 0) 24), (q0 + 3, zIa (ac 0) 24), (q0 + 4, zIa (ac 0) 24)] := hD
  refine lv_aload_n hx hb zd_Pa_init_15 rfl (lv_at hl 0 rfl) ?_
  refine lv_iconst (v := 4) hx hb zd_Pa_init_16 (by decide) ?_
  refine zc_newq hx hb 2 rfl hown (hts _ (List.mem_cons_of_mem _ zw_cl_Pa_16)) hK.2.2.2.1 hK hP hD hS hA (Nat.le_of_ble_eq_true rfl) (Nat.le_of_ble_eq_true rfl) zd_Pa_init_17 (fun q1 H hP hD hS => ?_)
  have hP : va_P D vwCl [(a, .inr (6, [.null, .ref q0, .null, .null])), (q0, zQa (ac 3) (fun j => if j < 4 then some (q0 + 1 + j) else none)), (q0 + 1, zIa (ac 0) 24), (q0 + 2, zIa (ac 0) 24), (q0 + 3, zIa (ac 0) 24), (q0 + 4, zIa (ac 0) 24), (q1, zQa (ac 2) (fun _ => none))] H := hP
  have hD : va_D A [(a, .inr (6, [.null, .ref q0, .null, .null])), (q0, zQa (ac 3) (fun j => if j < 4 then some (q0 + 1 + j) else none)), (q0 + 1, zIa (ac 0) 24), (q0 + 2, zIa (ac 0) 24), (q0 + 3, zIa (ac 0) 24), (q0 + 4, zIa (ac 0) 24), (q1, zQa (ac 2) (fun _ => none))] := hD
  refine W.widen (k := 6) (n := 104) (Nat.le_refl _) (Nat.le_refl _) ?_
  refine va_putF (D := D) (ci := 6) (v := .ref q1) (ty := (.array (.object "CaseTree$Fork"))) (C := "CaseTree$Path") (T := zT_Pa) (N := 4) hx hb hts (fun w h => List.mem_cons_of_mem _ (zu_Pa w h)) zy_Pa zy_Pa_ok zn_Pa hown hK.1 hP hD hS 0 rfl rfl 2 (by decide) (hts _ (List.mem_cons_of_mem _ zf_Pa_18)) (fun _ h9 => h9) rfl hin rfl (by decide +kernel) rfl rfl (Nat.le_of_ble_eq_true rfl) zd_Pa_init_20 (fun H locs hP hD hS => ?_)
  have hP : va_P D vwCl [(a, .inr (6, [.null, .ref q0, .ref q1, .null])), (q0, zQa (ac 3) (fun j => if j < 4 then some (q0 + 1 + j) else none)), (q0 + 1, zIa (ac 0) 24), (q0 + 2, zIa (ac 0) 24), (q0 + 3, zIa (ac 0) 24), (q0 + 4, zIa (ac 0) 24), (q1, zQa (ac 2) (fun _ => none))] H := hP
  have hD : va_D A [(a, .inr (6, [.null, .ref q0, .ref q1, .null])), (q0, zQa (ac 3) (fun j => if j < 4 then some (q0 + 1 + j) else none)), (q0 + 1, zIa (ac 0) 24), (q0 + 2, zIa (ac 0) 24), (q0 + 3, zIa (ac 0) 24), (q0 + 4, zIa (ac 0) 24), (q1, zQa (ac 2) (fun _ => none))] := hD
  refine lv_aload_n hx hb zd_Pa_init_23 rfl (lv_at hl 0 rfl) ?_
  refine lv_iconst (v := 3) hx hb zd_Pa_init_24 (by decide) ?_
  refine zc_newa (N' := 3) hx hb (hts _ (List.mem_cons_of_mem _ zw_arrI)) hK hP hD hS hA (by decide) rfl (by decide) (Nat.le_of_ble_eq_true rfl) (Nat.le_of_ble_eq_true rfl) zd_Pa_init_25 (fun q2 H hP hD hS => ?_)
  have hP : va_P D vwCl [(a, .inr (6, [.null, .ref q0, .ref q1, .null])), (q0, zQa (ac 3) (fun j => if j < 4 then some (q0 + 1 + j) else none)), (q0 + 1, zIa (ac 0) 24), (q0 + 2, zIa (ac 0) 24), (q0 + 3, zIa (ac 0) 24), (q0 + 4, zIa (ac 0) 24), (q1, zQa (ac 2) (fun _ => none)), (q2, zIa (ac 0) 3)] H := hP
  have hD : va_D A [(a, .inr (6, [.null, .ref q0, .ref q1, .null])), (q0, zQa (ac 3) (fun j => if j < 4 then some (q0 + 1 + j) else none)), (q0 + 1, zIa (ac 0) 24), (q0 + 2, zIa (ac 0) 24), (q0 + 3, zIa (ac 0) 24), (q0 + 4, zIa (ac 0) 24), (q1, zQa (ac 2) (fun _ => none)), (q2, zIa (ac 0) 3)] := hD
  refine W.widen (k := 7) (n := 107) (Nat.le_refl _) (Nat.le_refl _) ?_
  refine va_putF (D := D) (ci := 6) (v := .ref q2) (ty := (.array .int)) (C := "CaseTree$Path") (T := zT_Pa) (N := 4) hx hb hts (fun w h => List.mem_cons_of_mem _ (zu_Pa w h)) zy_Pa zy_Pa_ok zn_Pa hown hK.1 hP hD hS 0 rfl rfl 3 (by decide) (hts _ (List.mem_cons_of_mem _ zf_Pa_22)) (fun _ h9 => h9) rfl hin rfl (by decide +kernel) rfl rfl (Nat.le_of_ble_eq_true rfl) zd_Pa_init_27 (fun H locs hP hD hS => ?_)
  have hP : va_P D vwCl [(a, .inr (6, [.null, .ref q0, .ref q1, .ref q2])), (q0, zQa (ac 3) (fun j => if j < 4 then some (q0 + 1 + j) else none)), (q0 + 1, zIa (ac 0) 24), (q0 + 2, zIa (ac 0) 24), (q0 + 3, zIa (ac 0) 24), (q0 + 4, zIa (ac 0) 24), (q1, zQa (ac 2) (fun _ => none)), (q2, zIa (ac 0) 3)] H := hP
  have hD : va_D A [(a, .inr (6, [.null, .ref q0, .ref q1, .ref q2])), (q0, zQa (ac 3) (fun j => if j < 4 then some (q0 + 1 + j) else none)), (q0 + 1, zIa (ac 0) 24), (q0 + 2, zIa (ac 0) 24), (q0 + 3, zIa (ac 0) 24), (q0 + 4, zIa (ac 0) 24), (q1, zQa (ac 2) (fun _ => none)), (q2, zIa (ac 0) 3)] := hD
  refine lv_aload_n hx hb zd_Pa_init_30 rfl (lv_at hl 0 rfl) ?_
  refine lv_aload_n hx hb zd_Pa_init_31 rfl (lv_at hl 1 rfl) ?_
  refine va_putF (D := D) (ci := 6) (v := .ref b1) (ty := (.object "CaseTree$Cases")) (C := "CaseTree$Path") (T := zT_Pa) (N := 4) hx hb hts (fun w h => List.mem_cons_of_mem _ (zu_Pa w h)) zy_Pa zy_Pa_ok zn_Pa hown hK.1 hP hD hS 0 rfl rfl 0 (by decide) (hts _ (List.mem_cons_of_mem _ zf_Pa_26)) (fun _ h9 => h9) rfl hin rfl (by decide +kernel) rfl rfl (Nat.le_of_ble_eq_true rfl) zd_Pa_init_32 (fun H locs hP hD hS => ?_)
  have hP : va_P D vwCl [(a, .inr (6, [.ref b1, .ref q0, .ref q1, .ref q2])), (q0, zQa (ac 3) (fun j => if j < 4 then some (q0 + 1 + j) else none)), (q0 + 1, zIa (ac 0) 24), (q0 + 2, zIa (ac 0) 24), (q0 + 3, zIa (ac 0) 24), (q0 + 4, zIa (ac 0) 24), (q1, zQa (ac 2) (fun _ => none)), (q2, zIa (ac 0) 3)] H := hP
  have hD : va_D A [(a, .inr (6, [.ref b1, .ref q0, .ref q1, .ref q2])), (q0, zQa (ac 3) (fun j => if j < 4 then some (q0 + 1 + j) else none)), (q0 + 1, zIa (ac 0) 24), (q0 + 2, zIa (ac 0) 24), (q0 + 3, zIa (ac 0) 24), (q0 + 4, zIa (ac 0) 24), (q1, zQa (ac 2) (fun _ => none)), (q2, zIa (ac 0) 3)] := hD
  refine lv_iconst (v := 0) hx hb zd_Pa_init_35 (by decide) ?_
  refine lv_istore_n hx hb zd_Pa_init_36 rfl hl (by decide) rfl (fun ls hl => ?_)
  have hl : lv_has ls 3 [(2, .int 0), (0, .ref a), (1, .ref b1)] := hl
  refine lv_iload_n hx hb zd_Pa_init_37 rfl (lv_at hl 0 rfl) ?_
  refine lv_iconst (v := 3) hx hb zd_Pa_init_38 (by decide) ?_
  refine lv_icmp_gt (tgt := 61) hx hb zd_Pa_init_39 (by decide) (fun h9 => absurd h9 (by decide)) (fun _ => ?_)
  refine lv_aload_n hx hb zd_Pa_init_42 rfl (lv_at hl 1 rfl) ?_
  refine va_get (D := D) (ci := 6) (v := .ref q1) (C := "CaseTree$Path") (T := zT_Pa) (N := 4) hx hb hts (fun w h => List.mem_cons_of_mem _ (zu_Pa w h)) hown hK.1 hP 0 rfl rfl 2 (by decide) (hts _ (List.mem_cons_of_mem _ zf_Pa_18)) (fun _ h9 => h9) rfl zd_Pa_init_43 ?_
  refine lv_iload_n hx hb zd_Pa_init_46 rfl (lv_at hl 0 rfl) ?_
  refine va_new (ci := 3) (fs := [.null, .int 0, .int 0, .int 0, .int 0, .int 0]) (C := "CaseTree$Fork") (T := zT_Fo) (N := 6) hx hb hts (fun w h => List.mem_cons_of_mem _ (zu_Fo w h)) zy_Fo zy_Fo_ok hown (hts _ (List.mem_cons_of_mem _ zw_cl_Pa_16)) (hts _ (List.mem_cons_of_mem _ zw_in_Fo)) (hts _ (List.mem_cons_of_mem _ zl_ini_Fo)) hK.1 hP hD hS hA rfl (fun j hj => by rcases (show j = 0 ∨ j = 1 ∨ j = 2 ∨ j = 3 ∨ j = 4 ∨ j = 5 by omega) with rfl | rfl | rfl | rfl | rfl | rfl <;> rfl) (Nat.le_of_ble_eq_true rfl) (Nat.le_of_ble_eq_true rfl) zd_Pa_init_47 (fun q3 H hP hD hS => ?_)
  have hP : va_P D vwCl [(a, .inr (6, [.ref b1, .ref q0, .ref q1, .ref q2])), (q0, zQa (ac 3) (fun j => if j < 4 then some (q0 + 1 + j) else none)), (q0 + 1, zIa (ac 0) 24), (q0 + 2, zIa (ac 0) 24), (q0 + 3, zIa (ac 0) 24), (q0 + 4, zIa (ac 0) 24), (q1, zQa (ac 2) (fun _ => none)), (q2, zIa (ac 0) 3), (q3, .inr (3, [.null, .int 0, .int 0, .int 0, .int 0, .int 0]))] H := hP
  have hD : va_D A [(a, .inr (6, [.ref b1, .ref q0, .ref q1, .ref q2])), (q0, zQa (ac 3) (fun j => if j < 4 then some (q0 + 1 + j) else none)), (q0 + 1, zIa (ac 0) 24), (q0 + 2, zIa (ac 0) 24), (q0 + 3, zIa (ac 0) 24), (q0 + 4, zIa (ac 0) 24), (q1, zQa (ac 2) (fun _ => none)), (q2, zIa (ac 0) 3), (q3, .inr (3, [.null, .int 0, .int 0, .int 0, .int 0, .int 0]))] := hD
  refine W.widen (k := 8) (n := 113) (Nat.le_refl _) (Nat.le_refl _) ?_
  refine lv_dup hx hb zd_Pa_init_50 rfl ?_
  have hPc := hP.sub (ws' := [(q3, .inr (3, [.null, .int 0, .int 0, .int 0, .int 0, .int 0]))]) [8] rfl
  have hDc := hD.sub (ws' := [(q3, .inr (3, [.null, .int 0, .int 0, .int 0, .int 0, .int 0]))]) [8] (by decide) rfl
  have hFc := va_free (wc := [(q3, .inr (3, [.null, .int 0, .int 0, .int 0, .int 0, .int 0]))]) hD hS hA [8] rfl
  refine va_callv (va_runIN (As := []) (rest := [.ref q3, .int 0, .ref q1]) ⟨hx, hb, hml, hown, hts⟩ (k_Fo l D ac q3  H.size) ⟨va_cnB 0 hts (zg_code zc_Fo_init) rfl rfl rfl (hK.2.1 _ (List.mem_of_getElem? (i := 2) rfl)) (hts _ (List.mem_cons_of_mem _ zl_ini_Fo)) (by decide +kernel) ⟨(Nat.le_of_ble_eq_true rfl), (Nat.le_of_ble_eq_true rfl)⟩, rfl, hts _ (List.mem_cons_of_mem _ zim_Fo_init)⟩ ⟨zk_blind _ _ _ _ _, fun U hU hW => ⟨rfl, by rw [hU], by rw [hU]; exact hPc, zKc_warm hW hK, hDc.weaken (fun _ _ _ _ => trivial)⟩⟩ rfl rfl hl.1 rfl (lv_room (Nat.le_of_ble_eq_true rfl)) zd_Pa_init_51 ⟨(Nat.le_of_ble_eq_true rfl), (Nat.le_of_ble_eq_true rfl)⟩) hS (fun q _ h => hFc q h) hFc (fun u4 t H1 locs ht hvm h5 hB hz1 hk1 hS => ?_)
  obtain ⟨hP1, hD1⟩ := hB
  rw [ht] at hP1
  obtain ⟨hP, hD⟩ := va_join (wr := [(a, .inr (6, [.ref b1, .ref q0, .ref q1, .ref q2])), (q0, zQa (ac 3) (fun j => if j < 4 then some (q0 + 1 + j) else none)), (q0 + 1, zIa (ac 0) 24), (q0 + 2, zIa (ac 0) 24), (q0 + 3, zIa (ac 0) 24), (q0 + 4, zIa (ac 0) 24), (q1, zQa (ac 2) (fun _ => none)), (q2, zIa (ac 0) 3)]) (w1 := [(q3, .inr (3, [.ref (u4 0), .int 0, .int (-1), .int 0, .int 0, .int 0])), ((u4 0), zIa (ac 0) 4)]) hP hD [8] [0, 1, 2, 3, 4, 5, 6, 7] rfl rfl (by decide) (by decide) hk1 hFc hP1 hD1
  generalize H1 = H at hP hS ⊢
  have hP : va_P D vwCl [(a, .inr (6, [.ref b1, .ref q0, .ref q1, .ref q2])), (q0, zQa (ac 3) (fun j => if j < 4 then some (q0 + 1 + j) else none)), (q0 + 1, zIa (ac 0) 24), (q0 + 2, zIa (ac 0) 24), (q0 + 3, zIa (ac 0) 24), (q0 + 4, zIa (ac 0) 24), (q1, zQa (ac 2) (fun _ => none)), (q2, zIa (ac 0) 3), (q3, .inr (3, [.ref (u4 0), .int 0, .int (-1), .int 0, .int 0, .int 0])), ((u4 0), zIa (ac 0) 4)] H := hP
  have hD : va_D A [(a, .inr (6, [.ref b1, .ref q0, .ref q1, .ref q2])), (q0, zQa (ac 3) (fun j => if j < 4 then some (q0 + 1 + j) else none)), (q0 + 1, zIa (ac 0) 24), (q0 + 2, zIa (ac 0) 24), (q0 + 3, zIa (ac 0) 24), (q0 + 4, zIa (ac 0) 24), (q1, zQa (ac 2) (fun _ => none)), (q2, zIa (ac 0) 3), (q3, .inr (3, [.ref (u4 0), .int 0, .int (-1), .int 0, .int 0, .int 0])), ((u4 0), zIa (ac 0) 4)] := hD
  refine W.widen (k := 9) (n := 117) (Nat.le_refl _) (Nat.le_refl _) ?_
  refine va_astq (D := D) (v := q3) (i := 0) hx hb hK.1 hP hD hS 6 2 8 3 rfl rfl rfl rfl (show ¬ ((0 : Int32) < 0 ∨ 4 ≤ (0 : Int32).toNatClampNeg) by decide) zd_Pa_init_54 (fun H locs hP hD hS => ?_)
  have hP : va_P D vwCl [(a, .inr (6, [.ref b1, .ref q0, .ref q1, .ref q2])), (q0, zQa (ac 3) (fun j => if j < 4 then some (q0 + 1 + j) else none)), (q0 + 1, zIa (ac 0) 24), (q0 + 2, zIa (ac 0) 24), (q0 + 3, zIa (ac 0) 24), (q0 + 4, zIa (ac 0) 24), (q1, zQa (ac 2) (va_up (fun _ => none) (0 : Int32).toNatClampNeg (some q3))), (q2, zIa (ac 0) 3), (q3, .inr (3, [.ref (u4 0), .int 0, .int (-1), .int 0, .int 0, .int 0])), ((u4 0), zIa (ac 0) 4)] H := hP
  have hD : va_D A [(a, .inr (6, [.ref b1, .ref q0, .ref q1, .ref q2])), (q0, zQa (ac 3) (fun j => if j < 4 then some (q0 + 1 + j) else none)), (q0 + 1, zIa (ac 0) 24), (q0 + 2, zIa (ac 0) 24), (q0 + 3, zIa (ac 0) 24), (q0 + 4, zIa (ac 0) 24), (q1, zQa (ac 2) (va_up (fun _ => none) (0 : Int32).toNatClampNeg (some q3))), (q2, zIa (ac 0) 3), (q3, .inr (3, [.ref (u4 0), .int 0, .int (-1), .int 0, .int 0, .int 0])), ((u4 0), zIa (ac 0) 4)] := hD
  refine lv_iinc (k := 0) (v := 1) hx hb zd_Pa_init_55 hl rfl (by decide) (by decide) rfl (fun ls hl => ?_)
  have hl : lv_has ls 3 [(2, .int 1), (0, .ref a), (1, .ref b1)] := hl
  refine lv_goto (tgt := 37) hx hb zd_Pa_init_58 (by decide) ?_
  refine lv_iload_n hx hb zd_Pa_init_37 rfl (lv_at hl 0 rfl) ?_
  refine lv_iconst (v := 3) hx hb zd_Pa_init_38 (by decide) ?_
  refine lv_icmp_gt (tgt := 61) hx hb zd_Pa_init_39 (by decide) (fun h9 => absurd h9 (by decide)) (fun _ => ?_)
  refine lv_aload_n hx hb zd_Pa_init_42 rfl (lv_at hl 1 rfl) ?_
  refine va_get (D := D) (ci := 6) (v := .ref q1) (C := "CaseTree$Path") (T := zT_Pa) (N := 4) hx hb hts (fun w h => List.mem_cons_of_mem _ (zu_Pa w h)) hown hK.1 hP 0 rfl rfl 2 (by decide) (hts _ (List.mem_cons_of_mem _ zf_Pa_18)) (fun _ h9 => h9) rfl zd_Pa_init_43 ?_
  refine lv_iload_n hx hb zd_Pa_init_46 rfl (lv_at hl 0 rfl) ?_
  refine va_new (ci := 3) (fs := [.null, .int 0, .int 0, .int 0, .int 0, .int 0]) (C := "CaseTree$Fork") (T := zT_Fo) (N := 6) hx hb hts (fun w h => List.mem_cons_of_mem _ (zu_Fo w h)) zy_Fo zy_Fo_ok hown (hts _ (List.mem_cons_of_mem _ zw_cl_Pa_16)) (hts _ (List.mem_cons_of_mem _ zw_in_Fo)) (hts _ (List.mem_cons_of_mem _ zl_ini_Fo)) hK.1 hP hD hS hA rfl (fun j hj => by rcases (show j = 0 ∨ j = 1 ∨ j = 2 ∨ j = 3 ∨ j = 4 ∨ j = 5 by omega) with rfl | rfl | rfl | rfl | rfl | rfl <;> rfl) (Nat.le_of_ble_eq_true rfl) (Nat.le_of_ble_eq_true rfl) zd_Pa_init_47 (fun q5 H hP hD hS => ?_)
  have hP : va_P D vwCl [(a, .inr (6, [.ref b1, .ref q0, .ref q1, .ref q2])), (q0, zQa (ac 3) (fun j => if j < 4 then some (q0 + 1 + j) else none)), (q0 + 1, zIa (ac 0) 24), (q0 + 2, zIa (ac 0) 24), (q0 + 3, zIa (ac 0) 24), (q0 + 4, zIa (ac 0) 24), (q1, zQa (ac 2) (va_up (fun _ => none) (0 : Int32).toNatClampNeg (some q3))), (q2, zIa (ac 0) 3), (q3, .inr (3, [.ref (u4 0), .int 0, .int (-1), .int 0, .int 0, .int 0])), ((u4 0), zIa (ac 0) 4), (q5, .inr (3, [.null, .int 0, .int 0, .int 0, .int 0, .int 0]))] H := hP
  have hD : va_D A [(a, .inr (6, [.ref b1, .ref q0, .ref q1, .ref q2])), (q0, zQa (ac 3) (fun j => if j < 4 then some (q0 + 1 + j) else none)), (q0 + 1, zIa (ac 0) 24), (q0 + 2, zIa (ac 0) 24), (q0 + 3, zIa (ac 0) 24), (q0 + 4, zIa (ac 0) 24), (q1, zQa (ac 2) (va_up (fun _ => none) (0 : Int32).toNatClampNeg (some q3))), (q2, zIa (ac 0) 3), (q3, .inr (3, [.ref (u4 0), .int 0, .int (-1), .int 0, .int 0, .int 0])), ((u4 0), zIa (ac 0) 4), (q5, .inr (3, [.null, .int 0, .int 0, .int 0, .int 0, .int 0]))] := hD
  refine W.widen (k := 10) (n := 123) (Nat.le_refl _) (Nat.le_refl _) ?_
  refine lv_dup hx hb zd_Pa_init_50 rfl ?_
  have hPc := hP.sub (ws' := [(q5, .inr (3, [.null, .int 0, .int 0, .int 0, .int 0, .int 0]))]) [10] rfl
  have hDc := hD.sub (ws' := [(q5, .inr (3, [.null, .int 0, .int 0, .int 0, .int 0, .int 0]))]) [10] (by decide) rfl
  have hFc := va_free (wc := [(q5, .inr (3, [.null, .int 0, .int 0, .int 0, .int 0, .int 0]))]) hD hS hA [10] rfl
  refine va_callv (va_runIN (As := []) (rest := [.ref q5, .int 1, .ref q1]) ⟨hx, hb, hml, hown, hts⟩ (k_Fo l D ac q5  H.size) ⟨va_cnB 0 hts (zg_code zc_Fo_init) rfl rfl rfl (hK.2.1 _ (List.mem_of_getElem? (i := 2) rfl)) (hts _ (List.mem_cons_of_mem _ zl_ini_Fo)) (by decide +kernel) ⟨(Nat.le_of_ble_eq_true rfl), (Nat.le_of_ble_eq_true rfl)⟩, rfl, hts _ (List.mem_cons_of_mem _ zim_Fo_init)⟩ ⟨zk_blind _ _ _ _ _, fun U hU hW => ⟨rfl, by rw [hU], by rw [hU]; exact hPc, zKc_warm hW hK, hDc.weaken (fun _ _ _ _ => trivial)⟩⟩ rfl rfl hl.1 rfl (lv_room (Nat.le_of_ble_eq_true rfl)) zd_Pa_init_51 ⟨(Nat.le_of_ble_eq_true rfl), (Nat.le_of_ble_eq_true rfl)⟩) hS (fun q _ h => hFc q h) hFc (fun u6 t H1 locs ht hvm h5 hB hz1 hk1 hS => ?_)
  obtain ⟨hP1, hD1⟩ := hB
  rw [ht] at hP1
  obtain ⟨hP, hD⟩ := va_join (wr := [(a, .inr (6, [.ref b1, .ref q0, .ref q1, .ref q2])), (q0, zQa (ac 3) (fun j => if j < 4 then some (q0 + 1 + j) else none)), (q0 + 1, zIa (ac 0) 24), (q0 + 2, zIa (ac 0) 24), (q0 + 3, zIa (ac 0) 24), (q0 + 4, zIa (ac 0) 24), (q1, zQa (ac 2) (va_up (fun _ => none) (0 : Int32).toNatClampNeg (some q3))), (q2, zIa (ac 0) 3), (q3, .inr (3, [.ref (u4 0), .int 0, .int (-1), .int 0, .int 0, .int 0])), ((u4 0), zIa (ac 0) 4)]) (w1 := [(q5, .inr (3, [.ref (u6 0), .int 0, .int (-1), .int 0, .int 0, .int 0])), ((u6 0), zIa (ac 0) 4)]) hP hD [10] [0, 1, 2, 3, 4, 5, 6, 7, 8, 9] rfl rfl (by decide) (by decide) hk1 hFc hP1 hD1
  generalize H1 = H at hP hS ⊢
  have hP : va_P D vwCl [(a, .inr (6, [.ref b1, .ref q0, .ref q1, .ref q2])), (q0, zQa (ac 3) (fun j => if j < 4 then some (q0 + 1 + j) else none)), (q0 + 1, zIa (ac 0) 24), (q0 + 2, zIa (ac 0) 24), (q0 + 3, zIa (ac 0) 24), (q0 + 4, zIa (ac 0) 24), (q1, zQa (ac 2) (va_up (fun _ => none) (0 : Int32).toNatClampNeg (some q3))), (q2, zIa (ac 0) 3), (q3, .inr (3, [.ref (u4 0), .int 0, .int (-1), .int 0, .int 0, .int 0])), ((u4 0), zIa (ac 0) 4), (q5, .inr (3, [.ref (u6 0), .int 0, .int (-1), .int 0, .int 0, .int 0])), ((u6 0), zIa (ac 0) 4)] H := hP
  have hD : va_D A [(a, .inr (6, [.ref b1, .ref q0, .ref q1, .ref q2])), (q0, zQa (ac 3) (fun j => if j < 4 then some (q0 + 1 + j) else none)), (q0 + 1, zIa (ac 0) 24), (q0 + 2, zIa (ac 0) 24), (q0 + 3, zIa (ac 0) 24), (q0 + 4, zIa (ac 0) 24), (q1, zQa (ac 2) (va_up (fun _ => none) (0 : Int32).toNatClampNeg (some q3))), (q2, zIa (ac 0) 3), (q3, .inr (3, [.ref (u4 0), .int 0, .int (-1), .int 0, .int 0, .int 0])), ((u4 0), zIa (ac 0) 4), (q5, .inr (3, [.ref (u6 0), .int 0, .int (-1), .int 0, .int 0, .int 0])), ((u6 0), zIa (ac 0) 4)] := hD
  refine W.widen (k := 11) (n := 127) (Nat.le_refl _) (Nat.le_refl _) ?_
  refine va_astq (D := D) (v := q5) (i := 1) hx hb hK.1 hP hD hS 6 2 10 3 rfl rfl rfl rfl (show ¬ ((1 : Int32) < 0 ∨ 4 ≤ (1 : Int32).toNatClampNeg) by decide) zd_Pa_init_54 (fun H locs hP hD hS => ?_)
  have hP : va_P D vwCl [(a, .inr (6, [.ref b1, .ref q0, .ref q1, .ref q2])), (q0, zQa (ac 3) (fun j => if j < 4 then some (q0 + 1 + j) else none)), (q0 + 1, zIa (ac 0) 24), (q0 + 2, zIa (ac 0) 24), (q0 + 3, zIa (ac 0) 24), (q0 + 4, zIa (ac 0) 24), (q1, zQa (ac 2) (va_up (va_up (fun _ => none) (0 : Int32).toNatClampNeg (some q3)) (1 : Int32).toNatClampNeg (some q5))), (q2, zIa (ac 0) 3), (q3, .inr (3, [.ref (u4 0), .int 0, .int (-1), .int 0, .int 0, .int 0])), ((u4 0), zIa (ac 0) 4), (q5, .inr (3, [.ref (u6 0), .int 0, .int (-1), .int 0, .int 0, .int 0])), ((u6 0), zIa (ac 0) 4)] H := hP
  have hD : va_D A [(a, .inr (6, [.ref b1, .ref q0, .ref q1, .ref q2])), (q0, zQa (ac 3) (fun j => if j < 4 then some (q0 + 1 + j) else none)), (q0 + 1, zIa (ac 0) 24), (q0 + 2, zIa (ac 0) 24), (q0 + 3, zIa (ac 0) 24), (q0 + 4, zIa (ac 0) 24), (q1, zQa (ac 2) (va_up (va_up (fun _ => none) (0 : Int32).toNatClampNeg (some q3)) (1 : Int32).toNatClampNeg (some q5))), (q2, zIa (ac 0) 3), (q3, .inr (3, [.ref (u4 0), .int 0, .int (-1), .int 0, .int 0, .int 0])), ((u4 0), zIa (ac 0) 4), (q5, .inr (3, [.ref (u6 0), .int 0, .int (-1), .int 0, .int 0, .int 0])), ((u6 0), zIa (ac 0) 4)] := hD
  refine lv_iinc (k := 0) (v := 2) hx hb zd_Pa_init_55 hl rfl (by decide) (by decide) rfl (fun ls hl => ?_)
  have hl : lv_has ls 3 [(2, .int 2), (0, .ref a), (1, .ref b1)] := hl
  refine lv_goto (tgt := 37) hx hb zd_Pa_init_58 (by decide) ?_
  refine lv_iload_n hx hb zd_Pa_init_37 rfl (lv_at hl 0 rfl) ?_
  refine lv_iconst (v := 3) hx hb zd_Pa_init_38 (by decide) ?_
  refine lv_icmp_gt (tgt := 61) hx hb zd_Pa_init_39 (by decide) (fun h9 => absurd h9 (by decide)) (fun _ => ?_)
  refine lv_aload_n hx hb zd_Pa_init_42 rfl (lv_at hl 1 rfl) ?_
  refine va_get (D := D) (ci := 6) (v := .ref q1) (C := "CaseTree$Path") (T := zT_Pa) (N := 4) hx hb hts (fun w h => List.mem_cons_of_mem _ (zu_Pa w h)) hown hK.1 hP 0 rfl rfl 2 (by decide) (hts _ (List.mem_cons_of_mem _ zf_Pa_18)) (fun _ h9 => h9) rfl zd_Pa_init_43 ?_
  refine lv_iload_n hx hb zd_Pa_init_46 rfl (lv_at hl 0 rfl) ?_
  refine va_new (ci := 3) (fs := [.null, .int 0, .int 0, .int 0, .int 0, .int 0]) (C := "CaseTree$Fork") (T := zT_Fo) (N := 6) hx hb hts (fun w h => List.mem_cons_of_mem _ (zu_Fo w h)) zy_Fo zy_Fo_ok hown (hts _ (List.mem_cons_of_mem _ zw_cl_Pa_16)) (hts _ (List.mem_cons_of_mem _ zw_in_Fo)) (hts _ (List.mem_cons_of_mem _ zl_ini_Fo)) hK.1 hP hD hS hA rfl (fun j hj => by rcases (show j = 0 ∨ j = 1 ∨ j = 2 ∨ j = 3 ∨ j = 4 ∨ j = 5 by omega) with rfl | rfl | rfl | rfl | rfl | rfl <;> rfl) (Nat.le_of_ble_eq_true rfl) (Nat.le_of_ble_eq_true rfl) zd_Pa_init_47 (fun q7 H hP hD hS => ?_)
  have hP : va_P D vwCl [(a, .inr (6, [.ref b1, .ref q0, .ref q1, .ref q2])), (q0, zQa (ac 3) (fun j => if j < 4 then some (q0 + 1 + j) else none)), (q0 + 1, zIa (ac 0) 24), (q0 + 2, zIa (ac 0) 24), (q0 + 3, zIa (ac 0) 24), (q0 + 4, zIa (ac 0) 24), (q1, zQa (ac 2) (va_up (va_up (fun _ => none) (0 : Int32).toNatClampNeg (some q3)) (1 : Int32).toNatClampNeg (some q5))), (q2, zIa (ac 0) 3), (q3, .inr (3, [.ref (u4 0), .int 0, .int (-1), .int 0, .int 0, .int 0])), ((u4 0), zIa (ac 0) 4), (q5, .inr (3, [.ref (u6 0), .int 0, .int (-1), .int 0, .int 0, .int 0])), ((u6 0), zIa (ac 0) 4), (q7, .inr (3, [.null, .int 0, .int 0, .int 0, .int 0, .int 0]))] H := hP
  have hD : va_D A [(a, .inr (6, [.ref b1, .ref q0, .ref q1, .ref q2])), (q0, zQa (ac 3) (fun j => if j < 4 then some (q0 + 1 + j) else none)), (q0 + 1, zIa (ac 0) 24), (q0 + 2, zIa (ac 0) 24), (q0 + 3, zIa (ac 0) 24), (q0 + 4, zIa (ac 0) 24), (q1, zQa (ac 2) (va_up (va_up (fun _ => none) (0 : Int32).toNatClampNeg (some q3)) (1 : Int32).toNatClampNeg (some q5))), (q2, zIa (ac 0) 3), (q3, .inr (3, [.ref (u4 0), .int 0, .int (-1), .int 0, .int 0, .int 0])), ((u4 0), zIa (ac 0) 4), (q5, .inr (3, [.ref (u6 0), .int 0, .int (-1), .int 0, .int 0, .int 0])), ((u6 0), zIa (ac 0) 4), (q7, .inr (3, [.null, .int 0, .int 0, .int 0, .int 0, .int 0]))] := hD
  refine W.widen (k := 12) (n := 133) (Nat.le_refl _) (Nat.le_refl _) ?_
  refine lv_dup hx hb zd_Pa_init_50 rfl ?_
  have hPc := hP.sub (ws' := [(q7, .inr (3, [.null, .int 0, .int 0, .int 0, .int 0, .int 0]))]) [12] rfl
  have hDc := hD.sub (ws' := [(q7, .inr (3, [.null, .int 0, .int 0, .int 0, .int 0, .int 0]))]) [12] (by decide) rfl
  have hFc := va_free (wc := [(q7, .inr (3, [.null, .int 0, .int 0, .int 0, .int 0, .int 0]))]) hD hS hA [12] rfl
  refine va_callv (va_runIN (As := []) (rest := [.ref q7, .int 2, .ref q1]) ⟨hx, hb, hml, hown, hts⟩ (k_Fo l D ac q7  H.size) ⟨va_cnB 0 hts (zg_code zc_Fo_init) rfl rfl rfl (hK.2.1 _ (List.mem_of_getElem? (i := 2) rfl)) (hts _ (List.mem_cons_of_mem _ zl_ini_Fo)) (by decide +kernel) ⟨(Nat.le_of_ble_eq_true rfl), (Nat.le_of_ble_eq_true rfl)⟩, rfl, hts _ (List.mem_cons_of_mem _ zim_Fo_init)⟩ ⟨zk_blind _ _ _ _ _, fun U hU hW => ⟨rfl, by rw [hU], by rw [hU]; exact hPc, zKc_warm hW hK, hDc.weaken (fun _ _ _ _ => trivial)⟩⟩ rfl rfl hl.1 rfl (lv_room (Nat.le_of_ble_eq_true rfl)) zd_Pa_init_51 ⟨(Nat.le_of_ble_eq_true rfl), (Nat.le_of_ble_eq_true rfl)⟩) hS (fun q _ h => hFc q h) hFc (fun u8 t H1 locs ht hvm h5 hB hz1 hk1 hS => ?_)
  obtain ⟨hP1, hD1⟩ := hB
  rw [ht] at hP1
  obtain ⟨hP, hD⟩ := va_join (wr := [(a, .inr (6, [.ref b1, .ref q0, .ref q1, .ref q2])), (q0, zQa (ac 3) (fun j => if j < 4 then some (q0 + 1 + j) else none)), (q0 + 1, zIa (ac 0) 24), (q0 + 2, zIa (ac 0) 24), (q0 + 3, zIa (ac 0) 24), (q0 + 4, zIa (ac 0) 24), (q1, zQa (ac 2) (va_up (va_up (fun _ => none) (0 : Int32).toNatClampNeg (some q3)) (1 : Int32).toNatClampNeg (some q5))), (q2, zIa (ac 0) 3), (q3, .inr (3, [.ref (u4 0), .int 0, .int (-1), .int 0, .int 0, .int 0])), ((u4 0), zIa (ac 0) 4), (q5, .inr (3, [.ref (u6 0), .int 0, .int (-1), .int 0, .int 0, .int 0])), ((u6 0), zIa (ac 0) 4)]) (w1 := [(q7, .inr (3, [.ref (u8 0), .int 0, .int (-1), .int 0, .int 0, .int 0])), ((u8 0), zIa (ac 0) 4)]) hP hD [12] [0, 1, 2, 3, 4, 5, 6, 7, 8, 9, 10, 11] rfl rfl (by decide) (by decide) hk1 hFc hP1 hD1
  generalize H1 = H at hP hS ⊢
  have hP : va_P D vwCl [(a, .inr (6, [.ref b1, .ref q0, .ref q1, .ref q2])), (q0, zQa (ac 3) (fun j => if j < 4 then some (q0 + 1 + j) else none)), (q0 + 1, zIa (ac 0) 24), (q0 + 2, zIa (ac 0) 24), (q0 + 3, zIa (ac 0) 24), (q0 + 4, zIa (ac 0) 24), (q1, zQa (ac 2) (va_up (va_up (fun _ => none) (0 : Int32).toNatClampNeg (some q3)) (1 : Int32).toNatClampNeg (some q5))), (q2, zIa (ac 0) 3), (q3, .inr (3, [.ref (u4 0), .int 0, .int (-1), .int 0, .int 0, .int 0])), ((u4 0), zIa (ac 0) 4), (q5, .inr (3, [.ref (u6 0), .int 0, .int (-1), .int 0, .int 0, .int 0])), ((u6 0), zIa (ac 0) 4), (q7, .inr (3, [.ref (u8 0), .int 0, .int (-1), .int 0, .int 0, .int 0])), ((u8 0), zIa (ac 0) 4)] H := hP
  have hD : va_D A [(a, .inr (6, [.ref b1, .ref q0, .ref q1, .ref q2])), (q0, zQa (ac 3) (fun j => if j < 4 then some (q0 + 1 + j) else none)), (q0 + 1, zIa (ac 0) 24), (q0 + 2, zIa (ac 0) 24), (q0 + 3, zIa (ac 0) 24), (q0 + 4, zIa (ac 0) 24), (q1, zQa (ac 2) (va_up (va_up (fun _ => none) (0 : Int32).toNatClampNeg (some q3)) (1 : Int32).toNatClampNeg (some q5))), (q2, zIa (ac 0) 3), (q3, .inr (3, [.ref (u4 0), .int 0, .int (-1), .int 0, .int 0, .int 0])), ((u4 0), zIa (ac 0) 4), (q5, .inr (3, [.ref (u6 0), .int 0, .int (-1), .int 0, .int 0, .int 0])), ((u6 0), zIa (ac 0) 4), (q7, .inr (3, [.ref (u8 0), .int 0, .int (-1), .int 0, .int 0, .int 0])), ((u8 0), zIa (ac 0) 4)] := hD
  refine W.widen (k := 13) (n := 137) (Nat.le_refl _) (Nat.le_refl _) ?_
  refine va_astq (D := D) (v := q7) (i := 2) hx hb hK.1 hP hD hS 6 2 12 3 rfl rfl rfl rfl (show ¬ ((2 : Int32) < 0 ∨ 4 ≤ (2 : Int32).toNatClampNeg) by decide) zd_Pa_init_54 (fun H locs hP hD hS => ?_)
  have hP : va_P D vwCl [(a, .inr (6, [.ref b1, .ref q0, .ref q1, .ref q2])), (q0, zQa (ac 3) (fun j => if j < 4 then some (q0 + 1 + j) else none)), (q0 + 1, zIa (ac 0) 24), (q0 + 2, zIa (ac 0) 24), (q0 + 3, zIa (ac 0) 24), (q0 + 4, zIa (ac 0) 24), (q1, zQa (ac 2) (va_up (va_up (va_up (fun _ => none) (0 : Int32).toNatClampNeg (some q3)) (1 : Int32).toNatClampNeg (some q5)) (2 : Int32).toNatClampNeg (some q7))), (q2, zIa (ac 0) 3), (q3, .inr (3, [.ref (u4 0), .int 0, .int (-1), .int 0, .int 0, .int 0])), ((u4 0), zIa (ac 0) 4), (q5, .inr (3, [.ref (u6 0), .int 0, .int (-1), .int 0, .int 0, .int 0])), ((u6 0), zIa (ac 0) 4), (q7, .inr (3, [.ref (u8 0), .int 0, .int (-1), .int 0, .int 0, .int 0])), ((u8 0), zIa (ac 0) 4)] H := hP
  have hD : va_D A [(a, .inr (6, [.ref b1, .ref q0, .ref q1, .ref q2])), (q0, zQa (ac 3) (fun j => if j < 4 then some (q0 + 1 + j) else none)), (q0 + 1, zIa (ac 0) 24), (q0 + 2, zIa (ac 0) 24), (q0 + 3, zIa (ac 0) 24), (q0 + 4, zIa (ac 0) 24), (q1, zQa (ac 2) (va_up (va_up (va_up (fun _ => none) (0 : Int32).toNatClampNeg (some q3)) (1 : Int32).toNatClampNeg (some q5)) (2 : Int32).toNatClampNeg (some q7))), (q2, zIa (ac 0) 3), (q3, .inr (3, [.ref (u4 0), .int 0, .int (-1), .int 0, .int 0, .int 0])), ((u4 0), zIa (ac 0) 4), (q5, .inr (3, [.ref (u6 0), .int 0, .int (-1), .int 0, .int 0, .int 0])), ((u6 0), zIa (ac 0) 4), (q7, .inr (3, [.ref (u8 0), .int 0, .int (-1), .int 0, .int 0, .int 0])), ((u8 0), zIa (ac 0) 4)] := hD
  refine lv_iinc (k := 0) (v := 3) hx hb zd_Pa_init_55 hl rfl (by decide) (by decide) rfl (fun ls hl => ?_)
  have hl : lv_has ls 3 [(2, .int 3), (0, .ref a), (1, .ref b1)] := hl
  refine lv_goto (tgt := 37) hx hb zd_Pa_init_58 (by decide) ?_
  refine lv_iload_n hx hb zd_Pa_init_37 rfl (lv_at hl 0 rfl) ?_
  refine lv_iconst (v := 3) hx hb zd_Pa_init_38 (by decide) ?_
  refine lv_icmp_gt (tgt := 61) hx hb zd_Pa_init_39 (by decide) (fun h9 => absurd h9 (by decide)) (fun _ => ?_)
  refine lv_aload_n hx hb zd_Pa_init_42 rfl (lv_at hl 1 rfl) ?_
  refine va_get (D := D) (ci := 6) (v := .ref q1) (C := "CaseTree$Path") (T := zT_Pa) (N := 4) hx hb hts (fun w h => List.mem_cons_of_mem _ (zu_Pa w h)) hown hK.1 hP 0 rfl rfl 2 (by decide) (hts _ (List.mem_cons_of_mem _ zf_Pa_18)) (fun _ h9 => h9) rfl zd_Pa_init_43 ?_
  refine lv_iload_n hx hb zd_Pa_init_46 rfl (lv_at hl 0 rfl) ?_
  refine va_new (ci := 3) (fs := [.null, .int 0, .int 0, .int 0, .int 0, .int 0]) (C := "CaseTree$Fork") (T := zT_Fo) (N := 6) hx hb hts (fun w h => List.mem_cons_of_mem _ (zu_Fo w h)) zy_Fo zy_Fo_ok hown (hts _ (List.mem_cons_of_mem _ zw_cl_Pa_16)) (hts _ (List.mem_cons_of_mem _ zw_in_Fo)) (hts _ (List.mem_cons_of_mem _ zl_ini_Fo)) hK.1 hP hD hS hA rfl (fun j hj => by rcases (show j = 0 ∨ j = 1 ∨ j = 2 ∨ j = 3 ∨ j = 4 ∨ j = 5 by omega) with rfl | rfl | rfl | rfl | rfl | rfl <;> rfl) (Nat.le_of_ble_eq_true rfl) (Nat.le_of_ble_eq_true rfl) zd_Pa_init_47 (fun q9 H hP hD hS => ?_)
  have hP : va_P D vwCl [(a, .inr (6, [.ref b1, .ref q0, .ref q1, .ref q2])), (q0, zQa (ac 3) (fun j => if j < 4 then some (q0 + 1 + j) else none)), (q0 + 1, zIa (ac 0) 24), (q0 + 2, zIa (ac 0) 24), (q0 + 3, zIa (ac 0) 24), (q0 + 4, zIa (ac 0) 24), (q1, zQa (ac 2) (va_up (va_up (va_up (fun _ => none) (0 : Int32).toNatClampNeg (some q3)) (1 : Int32).toNatClampNeg (some q5)) (2 : Int32).toNatClampNeg (some q7))), (q2, zIa (ac 0) 3), (q3, .inr (3, [.ref (u4 0), .int 0, .int (-1), .int 0, .int 0, .int 0])), ((u4 0), zIa (ac 0) 4), (q5, .inr (3, [.ref (u6 0), .int 0, .int (-1), .int 0, .int 0, .int 0])), ((u6 0), zIa (ac 0) 4), (q7, .inr (3, [.ref (u8 0), .int 0, .int (-1), .int 0, .int 0, .int 0])), ((u8 0), zIa (ac 0) 4), (q9, .inr (3, [.null, .int 0, .int 0, .int 0, .int 0, .int 0]))] H := hP
  have hD : va_D A [(a, .inr (6, [.ref b1, .ref q0, .ref q1, .ref q2])), (q0, zQa (ac 3) (fun j => if j < 4 then some (q0 + 1 + j) else none)), (q0 + 1, zIa (ac 0) 24), (q0 + 2, zIa (ac 0) 24), (q0 + 3, zIa (ac 0) 24), (q0 + 4, zIa (ac 0) 24), (q1, zQa (ac 2) (va_up (va_up (va_up (fun _ => none) (0 : Int32).toNatClampNeg (some q3)) (1 : Int32).toNatClampNeg (some q5)) (2 : Int32).toNatClampNeg (some q7))), (q2, zIa (ac 0) 3), (q3, .inr (3, [.ref (u4 0), .int 0, .int (-1), .int 0, .int 0, .int 0])), ((u4 0), zIa (ac 0) 4), (q5, .inr (3, [.ref (u6 0), .int 0, .int (-1), .int 0, .int 0, .int 0])), ((u6 0), zIa (ac 0) 4), (q7, .inr (3, [.ref (u8 0), .int 0, .int (-1), .int 0, .int 0, .int 0])), ((u8 0), zIa (ac 0) 4), (q9, .inr (3, [.null, .int 0, .int 0, .int 0, .int 0, .int 0]))] := hD
  refine W.widen (k := 14) (n := 143) (Nat.le_refl _) (Nat.le_refl _) ?_
  refine lv_dup hx hb zd_Pa_init_50 rfl ?_
  have hPc := hP.sub (ws' := [(q9, .inr (3, [.null, .int 0, .int 0, .int 0, .int 0, .int 0]))]) [14] rfl
  have hDc := hD.sub (ws' := [(q9, .inr (3, [.null, .int 0, .int 0, .int 0, .int 0, .int 0]))]) [14] (by decide) rfl
  have hFc := va_free (wc := [(q9, .inr (3, [.null, .int 0, .int 0, .int 0, .int 0, .int 0]))]) hD hS hA [14] rfl
  refine va_callv (va_runIN (As := []) (rest := [.ref q9, .int 3, .ref q1]) ⟨hx, hb, hml, hown, hts⟩ (k_Fo l D ac q9  H.size) ⟨va_cnB 0 hts (zg_code zc_Fo_init) rfl rfl rfl (hK.2.1 _ (List.mem_of_getElem? (i := 2) rfl)) (hts _ (List.mem_cons_of_mem _ zl_ini_Fo)) (by decide +kernel) ⟨(Nat.le_of_ble_eq_true rfl), (Nat.le_of_ble_eq_true rfl)⟩, rfl, hts _ (List.mem_cons_of_mem _ zim_Fo_init)⟩ ⟨zk_blind _ _ _ _ _, fun U hU hW => ⟨rfl, by rw [hU], by rw [hU]; exact hPc, zKc_warm hW hK, hDc.weaken (fun _ _ _ _ => trivial)⟩⟩ rfl rfl hl.1 rfl (lv_room (Nat.le_of_ble_eq_true rfl)) zd_Pa_init_51 ⟨(Nat.le_of_ble_eq_true rfl), (Nat.le_of_ble_eq_true rfl)⟩) hS (fun q _ h => hFc q h) hFc (fun u10 t H1 locs ht hvm h5 hB hz1 hk1 hS => ?_)
  obtain ⟨hP1, hD1⟩ := hB
  rw [ht] at hP1
  obtain ⟨hP, hD⟩ := va_join (wr := [(a, .inr (6, [.ref b1, .ref q0, .ref q1, .ref q2])), (q0, zQa (ac 3) (fun j => if j < 4 then some (q0 + 1 + j) else none)), (q0 + 1, zIa (ac 0) 24), (q0 + 2, zIa (ac 0) 24), (q0 + 3, zIa (ac 0) 24), (q0 + 4, zIa (ac 0) 24), (q1, zQa (ac 2) (va_up (va_up (va_up (fun _ => none) (0 : Int32).toNatClampNeg (some q3)) (1 : Int32).toNatClampNeg (some q5)) (2 : Int32).toNatClampNeg (some q7))), (q2, zIa (ac 0) 3), (q3, .inr (3, [.ref (u4 0), .int 0, .int (-1), .int 0, .int 0, .int 0])), ((u4 0), zIa (ac 0) 4), (q5, .inr (3, [.ref (u6 0), .int 0, .int (-1), .int 0, .int 0, .int 0])), ((u6 0), zIa (ac 0) 4), (q7, .inr (3, [.ref (u8 0), .int 0, .int (-1), .int 0, .int 0, .int 0])), ((u8 0), zIa (ac 0) 4)]) (w1 := [(q9, .inr (3, [.ref (u10 0), .int 0, .int (-1), .int 0, .int 0, .int 0])), ((u10 0), zIa (ac 0) 4)]) hP hD [14] [0, 1, 2, 3, 4, 5, 6, 7, 8, 9, 10, 11, 12, 13] rfl rfl (by decide) (by decide) hk1 hFc hP1 hD1
  generalize H1 = H at hP hS ⊢
  have hP : va_P D vwCl [(a, .inr (6, [.ref b1, .ref q0, .ref q1, .ref q2])), (q0, zQa (ac 3) (fun j => if j < 4 then some (q0 + 1 + j) else none)), (q0 + 1, zIa (ac 0) 24), (q0 + 2, zIa (ac 0) 24), (q0 + 3, zIa (ac 0) 24), (q0 + 4, zIa (ac 0) 24), (q1, zQa (ac 2) (va_up (va_up (va_up (fun _ => none) (0 : Int32).toNatClampNeg (some q3)) (1 : Int32).toNatClampNeg (some q5)) (2 : Int32).toNatClampNeg (some q7))), (q2, zIa (ac 0) 3), (q3, .inr (3, [.ref (u4 0), .int 0, .int (-1), .int 0, .int 0, .int 0])), ((u4 0), zIa (ac 0) 4), (q5, .inr (3, [.ref (u6 0), .int 0, .int (-1), .int 0, .int 0, .int 0])), ((u6 0), zIa (ac 0) 4), (q7, .inr (3, [.ref (u8 0), .int 0, .int (-1), .int 0, .int 0, .int 0])), ((u8 0), zIa (ac 0) 4), (q9, .inr (3, [.ref (u10 0), .int 0, .int (-1), .int 0, .int 0, .int 0])), ((u10 0), zIa (ac 0) 4)] H := hP
  have hD : va_D A [(a, .inr (6, [.ref b1, .ref q0, .ref q1, .ref q2])), (q0, zQa (ac 3) (fun j => if j < 4 then some (q0 + 1 + j) else none)), (q0 + 1, zIa (ac 0) 24), (q0 + 2, zIa (ac 0) 24), (q0 + 3, zIa (ac 0) 24), (q0 + 4, zIa (ac 0) 24), (q1, zQa (ac 2) (va_up (va_up (va_up (fun _ => none) (0 : Int32).toNatClampNeg (some q3)) (1 : Int32).toNatClampNeg (some q5)) (2 : Int32).toNatClampNeg (some q7))), (q2, zIa (ac 0) 3), (q3, .inr (3, [.ref (u4 0), .int 0, .int (-1), .int 0, .int 0, .int 0])), ((u4 0), zIa (ac 0) 4), (q5, .inr (3, [.ref (u6 0), .int 0, .int (-1), .int 0, .int 0, .int 0])), ((u6 0), zIa (ac 0) 4), (q7, .inr (3, [.ref (u8 0), .int 0, .int (-1), .int 0, .int 0, .int 0])), ((u8 0), zIa (ac 0) 4), (q9, .inr (3, [.ref (u10 0), .int 0, .int (-1), .int 0, .int 0, .int 0])), ((u10 0), zIa (ac 0) 4)] := hD
  refine W.widen (k := 15) (n := 147) (Nat.le_refl _) (Nat.le_refl _) ?_
  refine va_astq (D := D) (v := q9) (i := 3) hx hb hK.1 hP hD hS 6 2 14 3 rfl rfl rfl rfl (show ¬ ((3 : Int32) < 0 ∨ 4 ≤ (3 : Int32).toNatClampNeg) by decide) zd_Pa_init_54 (fun H locs hP hD hS => ?_)
  have hP : va_P D vwCl [(a, .inr (6, [.ref b1, .ref q0, .ref q1, .ref q2])), (q0, zQa (ac 3) (fun j => if j < 4 then some (q0 + 1 + j) else none)), (q0 + 1, zIa (ac 0) 24), (q0 + 2, zIa (ac 0) 24), (q0 + 3, zIa (ac 0) 24), (q0 + 4, zIa (ac 0) 24), (q1, zQa (ac 2) (va_up (va_up (va_up (va_up (fun _ => none) (0 : Int32).toNatClampNeg (some q3)) (1 : Int32).toNatClampNeg (some q5)) (2 : Int32).toNatClampNeg (some q7)) (3 : Int32).toNatClampNeg (some q9))), (q2, zIa (ac 0) 3), (q3, .inr (3, [.ref (u4 0), .int 0, .int (-1), .int 0, .int 0, .int 0])), ((u4 0), zIa (ac 0) 4), (q5, .inr (3, [.ref (u6 0), .int 0, .int (-1), .int 0, .int 0, .int 0])), ((u6 0), zIa (ac 0) 4), (q7, .inr (3, [.ref (u8 0), .int 0, .int (-1), .int 0, .int 0, .int 0])), ((u8 0), zIa (ac 0) 4), (q9, .inr (3, [.ref (u10 0), .int 0, .int (-1), .int 0, .int 0, .int 0])), ((u10 0), zIa (ac 0) 4)] H := hP
  have hD : va_D A [(a, .inr (6, [.ref b1, .ref q0, .ref q1, .ref q2])), (q0, zQa (ac 3) (fun j => if j < 4 then some (q0 + 1 + j) else none)), (q0 + 1, zIa (ac 0) 24), (q0 + 2, zIa (ac 0) 24), (q0 + 3, zIa (ac 0) 24), (q0 + 4, zIa (ac 0) 24), (q1, zQa (ac 2) (va_up (va_up (va_up (va_up (fun _ => none) (0 : Int32).toNatClampNeg (some q3)) (1 : Int32).toNatClampNeg (some q5)) (2 : Int32).toNatClampNeg (some q7)) (3 : Int32).toNatClampNeg (some q9))), (q2, zIa (ac 0) 3), (q3, .inr (3, [.ref (u4 0), .int 0, .int (-1), .int 0, .int 0, .int 0])), ((u4 0), zIa (ac 0) 4), (q5, .inr (3, [.ref (u6 0), .int 0, .int (-1), .int 0, .int 0, .int 0])), ((u6 0), zIa (ac 0) 4), (q7, .inr (3, [.ref (u8 0), .int 0, .int (-1), .int 0, .int 0, .int 0])), ((u8 0), zIa (ac 0) 4), (q9, .inr (3, [.ref (u10 0), .int 0, .int (-1), .int 0, .int 0, .int 0])), ((u10 0), zIa (ac 0) 4)] := hD
  refine lv_iinc (k := 0) (v := 4) hx hb zd_Pa_init_55 hl rfl (by decide) (by decide) rfl (fun ls hl => ?_)
  have hl : lv_has ls 3 [(2, .int 4), (0, .ref a), (1, .ref b1)] := hl
  refine lv_goto (tgt := 37) hx hb zd_Pa_init_58 (by decide) ?_
  refine lv_iload_n hx hb zd_Pa_init_37 rfl (lv_at hl 0 rfl) ?_
  refine lv_iconst (v := 3) hx hb zd_Pa_init_38 (by decide) ?_
  refine lv_icmp_gt (tgt := 61) hx hb zd_Pa_init_39 (by decide) (fun _ => ?_) (fun h9 => absurd (by decide) h9)
  exact W.vret hx hb hr (fun t ht hW => ⟨⟨fun i => ([q0, q1, q2, q3, q5, q7, q9, (u4 0), (u6 0), (u8 0), (u10 0)] : List Nat).getD i 0, rfl, trivial, by rw [ht]; exact hP, hD⟩, hS.F ht⟩) hS.2.2 zd_Pa_init_61
theorem zd_Te_init_0 : decode prog_9_method_1_code 0 = .ok (.aload_n 0, 1) := by decide +kernel
theorem zd_Te_init_1 : decode prog_9_method_1_code 1 = .ok (.invokespecial 3, 3) := by decide +kernel
theorem zd_Te_init_4 : decode prog_9_method_1_code 4 = .ok (.aload_n 0, 1) := by decide +kernel
theorem zd_Te_init_5 : decode prog_9_method_1_code 5 = .ok (.iconst 4, 1) := by decide +kernel
theorem zd_Te_init_6 : decode prog_9_method_1_code 6 = .ok (.anewarray 9, 3) := by decide +kernel
theorem zd_Te_init_9 : decode prog_9_method_1_code 9 = .ok (.putfield 11, 3) := by decide +kernel
theorem zd_Te_init_12 : decode prog_9_method_1_code 12 = .ok (.aload_n 0, 1) := by decide +kernel
theorem zd_Te_init_13 : decode prog_9_method_1_code 13 = .ok (.iconst 3, 1) := by decide +kernel
theorem zd_Te_init_14 : decode prog_9_method_1_code 14 = .ok (.newarray .int, 2) := by decide +kernel
theorem zd_Te_init_16 : decode prog_9_method_1_code 16 = .ok (.putfield 17, 3) := by decide +kernel
theorem zd_Te_init_19 : decode prog_9_method_1_code 19 = .ok (.aload_n 0, 1) := by decide +kernel
theorem zd_Te_init_20 : decode prog_9_method_1_code 20 = .ok (.bipush 12, 2) := by decide +kernel
theorem zd_Te_init_22 : decode prog_9_method_1_code 22 = .ok (.newarray .int, 2) := by decide +kernel
theorem zd_Te_init_24 : decode prog_9_method_1_code 24 = .ok (.putfield 21, 3) := by decide +kernel
theorem zd_Te_init_27 : decode prog_9_method_1_code 27 = .ok (.aload_n 0, 1) := by decide +kernel
theorem zd_Te_init_28 : decode prog_9_method_1_code 28 = .ok (.iconst 5, 1) := by decide +kernel
theorem zd_Te_init_29 : decode prog_9_method_1_code 29 = .ok (.newarray .int, 2) := by decide +kernel
theorem zd_Te_init_31 : decode prog_9_method_1_code 31 = .ok (.putfield 24, 3) := by decide +kernel
theorem zd_Te_init_34 : decode prog_9_method_1_code 34 = .ok (.aload_n 0, 1) := by decide +kernel
theorem zd_Te_init_35 : decode prog_9_method_1_code 35 = .ok (.aload_n 1, 1) := by decide +kernel
theorem zd_Te_init_36 : decode prog_9_method_1_code 36 = .ok (.putfield 27, 3) := by decide +kernel
theorem zd_Te_init_39 : decode prog_9_method_1_code 39 = .ok (.iconst 0, 1) := by decide +kernel
theorem zd_Te_init_40 : decode prog_9_method_1_code 40 = .ok (.istore_n 2, 1) := by decide +kernel
theorem zd_Te_init_41 : decode prog_9_method_1_code 41 = .ok (.iload_n 2, 1) := by decide +kernel
theorem zd_Te_init_42 : decode prog_9_method_1_code 42 = .ok (.iconst 4, 1) := by decide +kernel
theorem zd_Te_init_43 : decode prog_9_method_1_code 43 = .ok (.if_icmp .ge 22, 3) := by decide +kernel
theorem zd_Te_init_46 : decode prog_9_method_1_code 46 = .ok (.aload_n 0, 1) := by decide +kernel
theorem zd_Te_init_47 : decode prog_9_method_1_code 47 = .ok (.getfield 11, 3) := by decide +kernel
theorem zd_Te_init_50 : decode prog_9_method_1_code 50 = .ok (.iload_n 2, 1) := by decide +kernel
theorem zd_Te_init_51 : decode prog_9_method_1_code 51 = .ok (.new 9, 3) := by decide +kernel
theorem zd_Te_init_54 : decode prog_9_method_1_code 54 = .ok (.dup, 1) := by decide +kernel
theorem zd_Te_init_55 : decode prog_9_method_1_code 55 = .ok (.invokespecial 31, 3) := by decide +kernel
theorem zd_Te_init_58 : decode prog_9_method_1_code 58 = .ok (.aastore, 1) := by decide +kernel
theorem zd_Te_init_59 : decode prog_9_method_1_code 59 = .ok (.iinc 2 1, 3) := by decide +kernel
theorem zd_Te_init_62 : decode prog_9_method_1_code 62 = .ok (.goto (-21), 3) := by decide +kernel
theorem zd_Te_init_65 : decode prog_9_method_1_code 65 = .ok (.return_, 1) := by decide +kernel
abbrev wc_Te (ac : Nat → ClassId) (a : Nat) (b1 : Nat) (u : Nat → Nat) : va_W := [(a, .inr (8, [.ref b1, .ref (u 0), .ref (u 1), .ref (u 2), .ref (u 3)])), ((u 0), zQa (ac 1) (va_up (va_up (va_up (va_up (fun _ => none) (0 : Int32).toNatClampNeg (some (u 4))) (1 : Int32).toNatClampNeg (some (u 5))) (2 : Int32).toNatClampNeg (some (u 6))) (3 : Int32).toNatClampNeg (some (u 7)))), ((u 1), zIa (ac 0) 3), ((u 2), zIa (ac 0) 12), ((u 3), zIa (ac 0) 5), ((u 4), .inr (2, [.int 0, .int (-1), .long 0, .long 0])), ((u 5), .inr (2, [.int 0, .int (-1), .long 0, .long 0])), ((u 6), .inr (2, [.int 0, .int (-1), .long 0, .long 0])), ((u 7), .inr (2, [.int 0, .int (-1), .long 0, .long 0]))]
set_option maxHeartbeats 8000000 in
set_option maxRecDepth 100000 in
theorem k_Te (l : Launch) (D : va_G) (ac : Nat → ClassId) (a : Nat) (b1 : Nat) (sz : Nat) : Met l ⟨"CaseTree$Tester", "<init>", "(LCaseTree$Cases;)V"⟩ (Cond.code ⟨"CaseTree$Tester", "<init>", "(LCaseTree$Cases;)V"⟩ prog_9_method_1_code 3 none :: zb) ({ frames := 2, cells := 8, slots := 40, locals := 100 }) (va_Pc [.ref a, .ref b1] (zkB D ac sz [(a, .inr (8, [.null, .null, .null, .null, .null]))])) (va_Qv (fun _ : Nat → Nat => True) (fun u t => zkE D (va_A [(a, .inr (8, [.null, .null, .null, .null, .null]))] sz) (wc_Te ac a b1 u) t) (va_A [(a, .inr (8, [.null, .null, .null, .null, .null]))] sz)) 8 40 (va_A [(a, .inr (8, [.null, .null, .null, .null, .null]))] sz) := by
  refine Met.ofW (cc := prog_9_method_1_code) (maxL := 3) (ret := none) (by decide) rfl ?_
  intro p e s m args below meth c s₁ B hml hv
  obtain ⟨rfl, hsz, hP, hK, hD0⟩ := hv
  have hx := B.exec
  have hb := B.bytes
  have hr := B.returns
  have hts := atoms_spec (ws := (Cond.code ⟨"CaseTree$Tester", "<init>", "(LCaseTree$Cases;)V"⟩ prog_9_method_1_code 3 none :: zb)) B.pre
  have hown : s.vm.findClass "CaseTree$Tester" = some m.cls := findClass_of_methodNamed B.named
  have hlocks := B.notSynchronized
  have hin : meth.name = "<init>" := (name_of_methodNamed B.named B.method).1
  subst hsz
  have hD := hD0.self (sz := s.heap.size)
  generalize hAe : va_A [(a, .inr (8, [.null, .null, .null, .null, .null]))] s.heap.size = A at hD ⊢
  have hA : ∀ q : Nat, s.heap.size ≤ q → A q := fun q h => by rw [← hAe]; exact Or.inr h
  have hS : va_S A s.heap s.heap [] := va_S.rf
  have hl := lv_entry ([.ref a, .ref b1]) (n := 3) (Nat.le_of_ble_eq_true rfl)
  rw [lg_entry_eq]
  generalize (lg_sl ([.ref a, .ref b1]) ++ List.replicate (3 - (lg_sl ([.ref a, .ref b1])).length) Slot.unset).toArray = ls at hl ⊢
  have hl : lv_has ls 3 [(0, .ref a), (1, .ref b1)] := hl
  refine lv_aload_n hx hb zd_Te_init_0 rfl (lv_at hl 0 rfl) ?_
  refine W.objInit hx hb hown (hts _ (List.mem_cons_of_mem _ zw_ml_Te_3)) (hts _ (List.mem_cons_of_mem _ zw_im_O)) (hts _ (List.mem_cons_of_mem _ zw_c_O)) rfl (by rw [hml]; exact hl.1) rfl zd_Te_init_1 (Nat.le_of_ble_eq_true rfl) (Nat.le_of_ble_eq_true rfl) ?_
  refine W.eq (g2 := F0 m 4 ls []) rfl ?_
  refine lv_aload_n hx hb zd_Te_init_4 rfl (lv_at hl 0 rfl) ?_
  refine lv_iconst (v := 4) hx hb zd_Te_init_5 (by decide) ?_
  refine zc_newq hx hb 1 rfl hown (hts _ (List.mem_cons_of_mem _ zw_cl_Te_9)) hK.2.2.1 hK hP hD hS hA (Nat.le_of_ble_eq_true rfl) (Nat.le_of_ble_eq_true rfl) zd_Te_init_6 (fun q0 H hP hD hS => ?_)
  have hP : va_P D vwCl [(a, .inr (8, [.null, .null, .null, .null, .null])), (q0, zQa (ac 1) (fun _ => none))] H := hP
  have hD : va_D A [(a, .inr (8, [.null, .null, .null, .null, .null])), (q0, zQa (ac 1) (fun _ => none))] := hD
  refine W.widen (k := 1) (n := 4) (Nat.le_refl _) (Nat.le_refl _) ?_
  refine va_putF (D := D) (ci := 8) (v := .ref q0) (ty := (.array (.object "CaseTree$Finding"))) (C := "CaseTree$Tester") (T := zT_Te) (N := 5) hx hb hts (fun w h => List.mem_cons_of_mem _ (zu_Te w h)) zy_Te zy_Te_ok zn_Te hown hK.1 hP hD hS 0 rfl rfl 1 (by decide) (hts _ (List.mem_cons_of_mem _ zf_Te_11)) (fun _ h9 => h9) rfl hin rfl (by decide +kernel) rfl rfl (Nat.le_of_ble_eq_true rfl) zd_Te_init_9 (fun H locs hP hD hS => ?_)
  have hP : va_P D vwCl [(a, .inr (8, [.null, .ref q0, .null, .null, .null])), (q0, zQa (ac 1) (fun _ => none))] H := hP
  have hD : va_D A [(a, .inr (8, [.null, .ref q0, .null, .null, .null])), (q0, zQa (ac 1) (fun _ => none))] := hD
  refine lv_aload_n hx hb zd_Te_init_12 rfl (lv_at hl 0 rfl) ?_
  refine lv_iconst (v := 3) hx hb zd_Te_init_13 (by decide) ?_
  refine zc_newa (N' := 3) hx hb (hts _ (List.mem_cons_of_mem _ zw_arrI)) hK hP hD hS hA (by decide) rfl (by decide) (Nat.le_of_ble_eq_true rfl) (Nat.le_of_ble_eq_true rfl) zd_Te_init_14 (fun q1 H hP hD hS => ?_)
  have hP : va_P D vwCl [(a, .inr (8, [.null, .ref q0, .null, .null, .null])), (q0, zQa (ac 1) (fun _ => none)), (q1, zIa (ac 0) 3)] H := hP
  have hD : va_D A [(a, .inr (8, [.null, .ref q0, .null, .null, .null])), (q0, zQa (ac 1) (fun _ => none)), (q1, zIa (ac 0) 3)] := hD
  refine W.widen (k := 2) (n := 7) (Nat.le_refl _) (Nat.le_refl _) ?_
  refine va_putF (D := D) (ci := 8) (v := .ref q1) (ty := (.array .int)) (C := "CaseTree$Tester") (T := zT_Te) (N := 5) hx hb hts (fun w h => List.mem_cons_of_mem _ (zu_Te w h)) zy_Te zy_Te_ok zn_Te hown hK.1 hP hD hS 0 rfl rfl 2 (by decide) (hts _ (List.mem_cons_of_mem _ zf_Te_17)) (fun _ h9 => h9) rfl hin rfl (by decide +kernel) rfl rfl (Nat.le_of_ble_eq_true rfl) zd_Te_init_16 (fun H locs hP hD hS => ?_)
  have hP : va_P D vwCl [(a, .inr (8, [.null, .ref q0, .ref q1, .null, .null])), (q0, zQa (ac 1) (fun _ => none)), (q1, zIa (ac 0) 3)] H := hP
  have hD : va_D A [(a, .inr (8, [.null, .ref q0, .ref q1, .null, .null])), (q0, zQa (ac 1) (fun _ => none)), (q1, zIa (ac 0) 3)] := hD
  refine lv_aload_n hx hb zd_Te_init_19 rfl (lv_at hl 0 rfl) ?_
  refine lv_bipush (v := 12) hx hb zd_Te_init_20 (by decide) ?_
  refine zc_newa (N' := 12) hx hb (hts _ (List.mem_cons_of_mem _ zw_arrI)) hK hP hD hS hA (by decide) rfl (by decide) (Nat.le_of_ble_eq_true rfl) (Nat.le_of_ble_eq_true rfl) zd_Te_init_22 (fun q2 H hP hD hS => ?_)
  have hP : va_P D vwCl [(a, .inr (8, [.null, .ref q0, .ref q1, .null, .null])), (q0, zQa (ac 1) (fun _ => none)), (q1, zIa (ac 0) 3), (q2, zIa (ac 0) 12)] H := hP
  have hD : va_D A [(a, .inr (8, [.null, .ref q0, .ref q1, .null, .null])), (q0, zQa (ac 1) (fun _ => none)), (q1, zIa (ac 0) 3), (q2, zIa (ac 0) 12)] := hD
  refine W.widen (k := 3) (n := 19) (Nat.le_refl _) (Nat.le_refl _) ?_
  refine va_putF (D := D) (ci := 8) (v := .ref q2) (ty := (.array .int)) (C := "CaseTree$Tester") (T := zT_Te) (N := 5) hx hb hts (fun w h => List.mem_cons_of_mem _ (zu_Te w h)) zy_Te zy_Te_ok zn_Te hown hK.1 hP hD hS 0 rfl rfl 3 (by decide) (hts _ (List.mem_cons_of_mem _ zf_Te_21)) (fun _ h9 => h9) rfl hin rfl (by decide +kernel) rfl rfl (Nat.le_of_ble_eq_true rfl) zd_Te_init_24 (fun H locs hP hD hS => ?_)
  have hP : va_P D vwCl [(a, .inr (8, [.null, .ref q0, .ref q1, .ref q2, .null])), (q0, zQa (ac 1) (fun _ => none)), (q1, zIa (ac 0) 3), (q2, zIa (ac 0) 12)] H := hP
  have hD : va_D A [(a, .inr (8, [.null, .ref q0, .ref q1, .ref q2, .null])), (q0, zQa (ac 1) (fun _ => none)), (q1, zIa (ac 0) 3), (q2, zIa (ac 0) 12)] := hD
  refine lv_aload_n hx hb zd_Te_init_27 rfl (lv_at hl 0 rfl) ?_
  refine lv_iconst (v := 5) hx hb zd_Te_init_28 (by decide) ?_
  refine zc_newa (N' := 5) hx hb (hts _ (List.mem_cons_of_mem _ zw_arrI)) hK hP hD hS hA (by decide) rfl (by decide) (Nat.le_of_ble_eq_true rfl) (Nat.le_of_ble_eq_true rfl) zd_Te_init_29 (fun q3 H hP hD hS => ?_)
  have hP : va_P D vwCl [(a, .inr (8, [.null, .ref q0, .ref q1, .ref q2, .null])), (q0, zQa (ac 1) (fun _ => none)), (q1, zIa (ac 0) 3), (q2, zIa (ac 0) 12), (q3, zIa (ac 0) 5)] H := hP
  have hD : va_D A [(a, .inr (8, [.null, .ref q0, .ref q1, .ref q2, .null])), (q0, zQa (ac 1) (fun _ => none)), (q1, zIa (ac 0) 3), (q2, zIa (ac 0) 12), (q3, zIa (ac 0) 5)] := hD
  refine W.widen (k := 4) (n := 24) (Nat.le_refl _) (Nat.le_refl _) ?_
  refine va_putF (D := D) (ci := 8) (v := .ref q3) (ty := (.array .int)) (C := "CaseTree$Tester") (T := zT_Te) (N := 5) hx hb hts (fun w h => List.mem_cons_of_mem _ (zu_Te w h)) zy_Te zy_Te_ok zn_Te hown hK.1 hP hD hS 0 rfl rfl 4 (by decide) (hts _ (List.mem_cons_of_mem _ zf_Te_24)) (fun _ h9 => h9) rfl hin rfl (by decide +kernel) rfl rfl (Nat.le_of_ble_eq_true rfl) zd_Te_init_31 (fun H locs hP hD hS => ?_)
  have hP : va_P D vwCl [(a, .inr (8, [.null, .ref q0, .ref q1, .ref q2, .ref q3])), (q0, zQa (ac 1) (fun _ => none)), (q1, zIa (ac 0) 3), (q2, zIa (ac 0) 12), (q3, zIa (ac 0) 5)] H := hP
  have hD : va_D A [(a, .inr (8, [.null, .ref q0, .ref q1, .ref q2, .ref q3])), (q0, zQa (ac 1) (fun _ => none)), (q1, zIa (ac 0) 3), (q2, zIa (ac 0) 12), (q3, zIa (ac 0) 5)] := hD
  refine lv_aload_n hx hb zd_Te_init_34 rfl (lv_at hl 0 rfl) ?_
  refine lv_aload_n hx hb zd_Te_init_35 rfl (lv_at hl 1 rfl) ?_
  refine va_putF (D := D) (ci := 8) (v := .ref b1) (ty := (.object "CaseTree$Cases")) (C := "CaseTree$Tester") (T := zT_Te) (N := 5) hx hb hts (fun w h => List.mem_cons_of_mem _ (zu_Te w h)) zy_Te zy_Te_ok zn_Te hown hK.1 hP hD hS 0 rfl rfl 0 (by decide) (hts _ (List.mem_cons_of_mem _ zf_Te_27)) (fun _ h9 => h9) rfl hin rfl (by decide +kernel) rfl rfl (Nat.le_of_ble_eq_true rfl) zd_Te_init_36 (fun H locs hP hD hS => ?_)
  have hP : va_P D vwCl [(a, .inr (8, [.ref b1, .ref q0, .ref q1, .ref q2, .ref q3])), (q0, zQa (ac 1) (fun _ => none)), (q1, zIa (ac 0) 3), (q2, zIa (ac 0) 12), (q3, zIa (ac 0) 5)] H := hP
  have hD : va_D A [(a, .inr (8, [.ref b1, .ref q0, .ref q1, .ref q2, .ref q3])), (q0, zQa (ac 1) (fun _ => none)), (q1, zIa (ac 0) 3), (q2, zIa (ac 0) 12), (q3, zIa (ac 0) 5)] := hD
  refine lv_iconst (v := 0) hx hb zd_Te_init_39 (by decide) ?_
  refine lv_istore_n hx hb zd_Te_init_40 rfl hl (by decide) rfl (fun ls hl => ?_)
  have hl : lv_has ls 3 [(2, .int 0), (0, .ref a), (1, .ref b1)] := hl
  refine lv_iload_n hx hb zd_Te_init_41 rfl (lv_at hl 0 rfl) ?_
  refine lv_iconst (v := 4) hx hb zd_Te_init_42 (by decide) ?_
  refine lv_icmp_ge (tgt := 65) hx hb zd_Te_init_43 (by decide) (fun h9 => absurd h9 (by decide)) (fun _ => ?_)
  refine lv_aload_n hx hb zd_Te_init_46 rfl (lv_at hl 1 rfl) ?_
  refine va_get (D := D) (ci := 8) (v := .ref q0) (C := "CaseTree$Tester") (T := zT_Te) (N := 5) hx hb hts (fun w h => List.mem_cons_of_mem _ (zu_Te w h)) hown hK.1 hP 0 rfl rfl 1 (by decide) (hts _ (List.mem_cons_of_mem _ zf_Te_11)) (fun _ h9 => h9) rfl zd_Te_init_47 ?_
  refine lv_iload_n hx hb zd_Te_init_50 rfl (lv_at hl 0 rfl) ?_
  refine va_new (ci := 2) (fs := [.int 0, .int 0, .long 0, .long 0]) (C := "CaseTree$Finding") (T := zT_Fi) (N := 4) hx hb hts (fun w h => List.mem_cons_of_mem _ (zu_Fi w h)) zy_Fi zy_Fi_ok hown (hts _ (List.mem_cons_of_mem _ zw_cl_Te_9)) (hts _ (List.mem_cons_of_mem _ zw_in_Fi)) (hts _ (List.mem_cons_of_mem _ zl_ini_Fi)) hK.1 hP hD hS hA rfl (fun j hj => by rcases (show j = 0 ∨ j = 1 ∨ j = 2 ∨ j = 3 by omega) with rfl | rfl | rfl | rfl <;> rfl) (Nat.le_of_ble_eq_true rfl) (Nat.le_of_ble_eq_true rfl) zd_Te_init_51 (fun q4 H hP hD hS => ?_)
  have hP : va_P D vwCl [(a, .inr (8, [.ref b1, .ref q0, .ref q1, .ref q2, .ref q3])), (q0, zQa (ac 1) (fun _ => none)), (q1, zIa (ac 0) 3), (q2, zIa (ac 0) 12), (q3, zIa (ac 0) 5), (q4, .inr (2, [.int 0, .int 0, .long 0, .long 0]))] H := hP
  have hD : va_D A [(a, .inr (8, [.ref b1, .ref q0, .ref q1, .ref q2, .ref q3])), (q0, zQa (ac 1) (fun _ => none)), (q1, zIa (ac 0) 3), (q2, zIa (ac 0) 12), (q3, zIa (ac 0) 5), (q4, .inr (2, [.int 0, .int 0, .long 0, .long 0]))] := hD
  refine W.widen (k := 5) (n := 28) (Nat.le_refl _) (Nat.le_refl _) ?_
  refine lv_dup hx hb zd_Te_init_54 rfl ?_
  have hPc := hP.sub (ws' := [(q4, .inr (2, [.int 0, .int 0, .long 0, .long 0]))]) [5] rfl
  have hDc := hD.sub (ws' := [(q4, .inr (2, [.int 0, .int 0, .long 0, .long 0]))]) [5] (by decide) rfl
  have hFc := va_free (wc := [(q4, .inr (2, [.int 0, .int 0, .long 0, .long 0]))]) hD hS hA [5] rfl
  refine va_callv (va_runIN (As := []) (rest := [.ref q4, .int 0, .ref q0]) ⟨hx, hb, hml, hown, hts⟩ (k_Fi l D ac q4  H.size) ⟨va_cnB 0 hts (zg_code zc_Fi_init) rfl rfl rfl (hK.2.1 _ (List.mem_of_getElem? (i := 3) rfl)) (hts _ (List.mem_cons_of_mem _ zl_ini_Fi)) (by decide +kernel) ⟨(Nat.le_of_ble_eq_true rfl), (Nat.le_of_ble_eq_true rfl)⟩, rfl, hts _ (List.mem_cons_of_mem _ zim_Fi_init)⟩ ⟨zk_blind _ _ _ _ _, fun U hU hW => ⟨rfl, by rw [hU], by rw [hU]; exact hPc, zKc_warm hW hK, hDc.weaken (fun _ _ _ _ => trivial)⟩⟩ rfl rfl hl.1 rfl (lv_room (Nat.le_of_ble_eq_true rfl)) zd_Te_init_55 ⟨(Nat.le_of_ble_eq_true rfl), (Nat.le_of_ble_eq_true rfl)⟩) hS (fun q _ h => hFc q h) hFc (fun u5 t H1 locs ht hvm h5 hB hz1 hk1 hS => ?_)
  obtain ⟨hP1, hD1⟩ := hB
  rw [ht] at hP1
  obtain ⟨hP, hD⟩ := va_join (wr := [(a, .inr (8, [.ref b1, .ref q0, .ref q1, .ref q2, .ref q3])), (q0, zQa (ac 1) (fun _ => none)), (q1, zIa (ac 0) 3), (q2, zIa (ac 0) 12), (q3, zIa (ac 0) 5)]) (w1 := [(q4, .inr (2, [.int 0, .int (-1), .long 0, .long 0]))]) hP hD [5] [0, 1, 2, 3, 4] rfl rfl (by decide) (by decide) hk1 hFc hP1 hD1
  generalize H1 = H at hP hS ⊢
  have hP : va_P D vwCl [(a, .inr (8, [.ref b1, .ref q0, .ref q1, .ref q2, .ref q3])), (q0, zQa (ac 1) (fun _ => none)), (q1, zIa (ac 0) 3), (q2, zIa (ac 0) 12), (q3, zIa (ac 0) 5), (q4, .inr (2, [.int 0, .int (-1), .long 0, .long 0]))] H := hP
  have hD : va_D A [(a, .inr (8, [.ref b1, .ref q0, .ref q1, .ref q2, .ref q3])), (q0, zQa (ac 1) (fun _ => none)), (q1, zIa (ac 0) 3), (q2, zIa (ac 0) 12), (q3, zIa (ac 0) 5), (q4, .inr (2, [.int 0, .int (-1), .long 0, .long 0]))] := hD
  refine W.widen (k := 5) (n := 28) (Nat.le_refl _) (Nat.le_refl _) ?_
  refine va_astq (D := D) (v := q4) (i := 0) hx hb hK.1 hP hD hS 1 1 5 2 rfl rfl rfl rfl (show ¬ ((0 : Int32) < 0 ∨ 4 ≤ (0 : Int32).toNatClampNeg) by decide) zd_Te_init_58 (fun H locs hP hD hS => ?_)
  have hP : va_P D vwCl [(a, .inr (8, [.ref b1, .ref q0, .ref q1, .ref q2, .ref q3])), (q0, zQa (ac 1) (va_up (fun _ => none) (0 : Int32).toNatClampNeg (some q4))), (q1, zIa (ac 0) 3), (q2, zIa (ac 0) 12), (q3, zIa (ac 0) 5), (q4, .inr (2, [.int 0, .int (-1), .long 0, .long 0]))] H := hP
  have hD : va_D A [(a, .inr (8, [.ref b1, .ref q0, .ref q1, .ref q2, .ref q3])), (q0, zQa (ac 1) (va_up (fun _ => none) (0 : Int32).toNatClampNeg (some q4))), (q1, zIa (ac 0) 3), (q2, zIa (ac 0) 12), (q3, zIa (ac 0) 5), (q4, .inr (2, [.int 0, .int (-1), .long 0, .long 0]))] := hD
  refine lv_iinc (k := 0) (v := 1) hx hb zd_Te_init_59 hl rfl (by decide) (by decide) rfl (fun ls hl => ?_)
  have hl : lv_has ls 3 [(2, .int 1), (0, .ref a), (1, .ref b1)] := hl
  refine lv_goto (tgt := 41) hx hb zd_Te_init_62 (by decide) ?_
  refine lv_iload_n hx hb zd_Te_init_41 rfl (lv_at hl 0 rfl) ?_
  refine lv_iconst (v := 4) hx hb zd_Te_init_42 (by decide) ?_
  refine lv_icmp_ge (tgt := 65) hx hb zd_Te_init_43 (by decide) (fun h9 => absurd h9 (by decide)) (fun _ => ?_)
  refine lv_aload_n hx hb zd_Te_init_46 rfl (lv_at hl 1 rfl) ?_
  refine va_get (D := D) (ci := 8) (v := .ref q0) (C := "CaseTree$Tester") (T := zT_Te) (N := 5) hx hb hts (fun w h => List.mem_cons_of_mem _ (zu_Te w h)) hown hK.1 hP 0 rfl rfl 1 (by decide) (hts _ (List.mem_cons_of_mem _ zf_Te_11)) (fun _ h9 => h9) rfl zd_Te_init_47 ?_
  refine lv_iload_n hx hb zd_Te_init_50 rfl (lv_at hl 0 rfl) ?_
  refine va_new (ci := 2) (fs := [.int 0, .int 0, .long 0, .long 0]) (C := "CaseTree$Finding") (T := zT_Fi) (N := 4) hx hb hts (fun w h => List.mem_cons_of_mem _ (zu_Fi w h)) zy_Fi zy_Fi_ok hown (hts _ (List.mem_cons_of_mem _ zw_cl_Te_9)) (hts _ (List.mem_cons_of_mem _ zw_in_Fi)) (hts _ (List.mem_cons_of_mem _ zl_ini_Fi)) hK.1 hP hD hS hA rfl (fun j hj => by rcases (show j = 0 ∨ j = 1 ∨ j = 2 ∨ j = 3 by omega) with rfl | rfl | rfl | rfl <;> rfl) (Nat.le_of_ble_eq_true rfl) (Nat.le_of_ble_eq_true rfl) zd_Te_init_51 (fun q6 H hP hD hS => ?_)
  have hP : va_P D vwCl [(a, .inr (8, [.ref b1, .ref q0, .ref q1, .ref q2, .ref q3])), (q0, zQa (ac 1) (va_up (fun _ => none) (0 : Int32).toNatClampNeg (some q4))), (q1, zIa (ac 0) 3), (q2, zIa (ac 0) 12), (q3, zIa (ac 0) 5), (q4, .inr (2, [.int 0, .int (-1), .long 0, .long 0])), (q6, .inr (2, [.int 0, .int 0, .long 0, .long 0]))] H := hP
  have hD : va_D A [(a, .inr (8, [.ref b1, .ref q0, .ref q1, .ref q2, .ref q3])), (q0, zQa (ac 1) (va_up (fun _ => none) (0 : Int32).toNatClampNeg (some q4))), (q1, zIa (ac 0) 3), (q2, zIa (ac 0) 12), (q3, zIa (ac 0) 5), (q4, .inr (2, [.int 0, .int (-1), .long 0, .long 0])), (q6, .inr (2, [.int 0, .int 0, .long 0, .long 0]))] := hD
  refine W.widen (k := 6) (n := 32) (Nat.le_refl _) (Nat.le_refl _) ?_
  refine lv_dup hx hb zd_Te_init_54 rfl ?_
  have hPc := hP.sub (ws' := [(q6, .inr (2, [.int 0, .int 0, .long 0, .long 0]))]) [6] rfl
  have hDc := hD.sub (ws' := [(q6, .inr (2, [.int 0, .int 0, .long 0, .long 0]))]) [6] (by decide) rfl
  have hFc := va_free (wc := [(q6, .inr (2, [.int 0, .int 0, .long 0, .long 0]))]) hD hS hA [6] rfl
  refine va_callv (va_runIN (As := []) (rest := [.ref q6, .int 1, .ref q0]) ⟨hx, hb, hml, hown, hts⟩ (k_Fi l D ac q6  H.size) ⟨va_cnB 0 hts (zg_code zc_Fi_init) rfl rfl rfl (hK.2.1 _ (List.mem_of_getElem? (i := 3) rfl)) (hts _ (List.mem_cons_of_mem _ zl_ini_Fi)) (by decide +kernel) ⟨(Nat.le_of_ble_eq_true rfl), (Nat.le_of_ble_eq_true rfl)⟩, rfl, hts _ (List.mem_cons_of_mem _ zim_Fi_init)⟩ ⟨zk_blind _ _ _ _ _, fun U hU hW => ⟨rfl, by rw [hU], by rw [hU]; exact hPc, zKc_warm hW hK, hDc.weaken (fun _ _ _ _ => trivial)⟩⟩ rfl rfl hl.1 rfl (lv_room (Nat.le_of_ble_eq_true rfl)) zd_Te_init_55 ⟨(Nat.le_of_ble_eq_true rfl), (Nat.le_of_ble_eq_true rfl)⟩) hS (fun q _ h => hFc q h) hFc (fun u7 t H1 locs ht hvm h5 hB hz1 hk1 hS => ?_)
  obtain ⟨hP1, hD1⟩ := hB
  rw [ht] at hP1
  obtain ⟨hP, hD⟩ := va_join (wr := [(a, .inr (8, [.ref b1, .ref q0, .ref q1, .ref q2, .ref q3])), (q0, zQa (ac 1) (va_up (fun _ => none) (0 : Int32).toNatClampNeg (some q4))), (q1, zIa (ac 0) 3), (q2, zIa (ac 0) 12), (q3, zIa (ac 0) 5), (q4, .inr (2, [.int 0, .int (-1), .long 0, .long 0]))]) (w1 := [(q6, .inr (2, [.int 0, .int (-1), .long 0, .long 0]))]) hP hD [6] [0, 1, 2, 3, 4, 5] rfl rfl (by decide) (by decide) hk1 hFc hP1 hD1
  generalize H1 = H at hP hS ⊢
  have hP : va_P D vwCl [(a, .inr (8, [.ref b1, .ref q0, .ref q1, .ref q2, .ref q3])), (q0, zQa (ac 1) (va_up (fun _ => none) (0 : Int32).toNatClampNeg (some q4))), (q1, zIa (ac 0) 3), (q2, zIa (ac 0) 12), (q3, zIa (ac 0) 5), (q4, .inr (2, [.int 0, .int (-1), .long 0, .long 0])), (q6, .inr (2, [.int 0, .int (-1), .long 0, .long 0]))] H := hP
  have hD : va_D A [(a, .inr (8, [.ref b1, .ref q0, .ref q1, .ref q2, .ref q3])), (q0, zQa (ac 1) (va_up (fun _ => none) (0 : Int32).toNatClampNeg (some q4))), (q1, zIa (ac 0) 3), (q2, zIa (ac 0) 12), (q3, zIa (ac 0) 5), (q4, .inr (2, [.int 0, .int (-1), .long 0, .long 0])), (q6, .inr (2, [.int 0, .int (-1), .long 0, .long 0]))] := hD
  refine W.widen (k := 6) (n := 32) (Nat.le_refl _) (Nat.le_refl _) ?_
  refine va_astq (D := D) (v := q6) (i := 1) hx hb hK.1 hP hD hS 1 1 6 2 rfl rfl rfl rfl (show ¬ ((1 : Int32) < 0 ∨ 4 ≤ (1 : Int32).toNatClampNeg) by decide) zd_Te_init_58 (fun H locs hP hD hS => ?_)
  have hP : va_P D vwCl [(a, .inr (8, [.ref b1, .ref q0, .ref q1, .ref q2, .ref q3])), (q0, zQa (ac 1) (va_up (va_up (fun _ => none) (0 : Int32).toNatClampNeg (some q4)) (1 : Int32).toNatClampNeg (some q6))), (q1, zIa (ac 0) 3), (q2, zIa (ac 0) 12), (q3, zIa (ac 0) 5), (q4, .inr (2, [.int 0, .int (-1), .long 0, .long 0])), (q6, .inr (2, [.int 0, .int (-1), .long 0, .long 0]))] H := hP
  have hD : va_D A [(a, .inr (8, [.ref b1, .ref q0, .ref q1, .ref q2, .ref q3])), (q0, zQa (ac 1) (va_up (va_up (fun _ => none) (0 : Int32).toNatClampNeg (some q4)) (1 : Int32).toNatClampNeg (some q6))), (q1, zIa (ac 0) 3), (q2, zIa (ac 0) 12), (q3, zIa (ac 0) 5), (q4, .inr (2, [.int 0, .int (-1), .long 0, .long 0])), (q6, .inr (2, [.int 0, .int (-1), .long 0, .long 0]))] := hD
  refine lv_iinc (k := 0) (v := 2) hx hb zd_Te_init_59 hl rfl (by decide) (by decide) rfl (fun ls hl => ?_)
  have hl : lv_has ls 3 [(2, .int 2), (0, .ref a), (1, .ref b1)] := hl
  refine lv_goto (tgt := 41) hx hb zd_Te_init_62 (by decide) ?_
  refine lv_iload_n hx hb zd_Te_init_41 rfl (lv_at hl 0 rfl) ?_
  refine lv_iconst (v := 4) hx hb zd_Te_init_42 (by decide) ?_
  refine lv_icmp_ge (tgt := 65) hx hb zd_Te_init_43 (by decide) (fun h9 => absurd h9 (by decide)) (fun _ => ?_)
  refine lv_aload_n hx hb zd_Te_init_46 rfl (lv_at hl 1 rfl) ?_
  refine va_get (D := D) (ci := 8) (v := .ref q0) (C := "CaseTree$Tester") (T := zT_Te) (N := 5) hx hb hts (fun w h => List.mem_cons_of_mem _ (zu_Te w h)) hown hK.1 hP 0 rfl rfl 1 (by decide) (hts _ (List.mem_cons_of_mem _ zf_Te_11)) (fun _ h9 => h9) rfl zd_Te_init_47 ?_
  refine lv_iload_n hx hb zd_Te_init_50 rfl (lv_at hl 0 rfl) ?_
  refine va_new (ci := 2) (fs := [.int 0, .int 0, .long 0, .long 0]) (C := "CaseTree$Finding") (T := zT_Fi) (N := 4) hx hb hts (fun w h => List.mem_cons_of_mem _ (zu_Fi w h)) zy_Fi zy_Fi_ok hown (hts _ (List.mem_cons_of_mem _ zw_cl_Te_9)) (hts _ (List.mem_cons_of_mem _ zw_in_Fi)) (hts _ (List.mem_cons_of_mem _ zl_ini_Fi)) hK.1 hP hD hS hA rfl (fun j hj => by rcases (show j = 0 ∨ j = 1 ∨ j = 2 ∨ j = 3 by omega) with rfl | rfl | rfl | rfl <;> rfl) (Nat.le_of_ble_eq_true rfl) (Nat.le_of_ble_eq_true rfl) zd_Te_init_51 (fun q8 H hP hD hS => ?_)
  have hP : va_P D vwCl [(a, .inr (8, [.ref b1, .ref q0, .ref q1, .ref q2, .ref q3])), (q0, zQa (ac 1) (va_up (va_up (fun _ => none) (0 : Int32).toNatClampNeg (some q4)) (1 : Int32).toNatClampNeg (some q6))), (q1, zIa (ac 0) 3), (q2, zIa (ac 0) 12), (q3, zIa (ac 0) 5), (q4, .inr (2, [.int 0, .int (-1), .long 0, .long 0])), (q6, .inr (2, [.int 0, .int (-1), .long 0, .long 0])), (q8, .inr (2, [.int 0, .int 0, .long 0, .long 0]))] H := hP
  have hD : va_D A [(a, .inr (8, [.ref b1, .ref q0, .ref q1, .ref q2, .ref q3])), (q0, zQa (ac 1) (va_up (va_up (fun _ => none) (0 : Int32).toNatClampNeg (some q4)) (1 : Int32).toNatClampNeg (some q6))), (q1, zIa (ac 0) 3), (q2, zIa (ac 0) 12), (q3, zIa (ac 0) 5), (q4, .inr (2, [.int 0, .int (-1), .long 0, .long 0])), (q6, .inr (2, [.int 0, .int (-1), .long 0, .long 0])), (q8, .inr (2, [.int 0, .int 0, .long 0, .long 0]))] := hD
  refine W.widen (k := 7) (n := 36) (Nat.le_refl _) (Nat.le_refl _) ?_
  refine lv_dup hx hb zd_Te_init_54 rfl ?_
  have hPc := hP.sub (ws' := [(q8, .inr (2, [.int 0, .int 0, .long 0, .long 0]))]) [7] rfl
  have hDc := hD.sub (ws' := [(q8, .inr (2, [.int 0, .int 0, .long 0, .long 0]))]) [7] (by decide) rfl
  have hFc := va_free (wc := [(q8, .inr (2, [.int 0, .int 0, .long 0, .long 0]))]) hD hS hA [7] rfl
  refine va_callv (va_runIN (As := []) (rest := [.ref q8, .int 2, .ref q0]) ⟨hx, hb, hml, hown, hts⟩ (k_Fi l D ac q8  H.size) ⟨va_cnB 0 hts (zg_code zc_Fi_init) rfl rfl rfl (hK.2.1 _ (List.mem_of_getElem? (i := 3) rfl)) (hts _ (List.mem_cons_of_mem _ zl_ini_Fi)) (by decide +kernel) ⟨(Nat.le_of_ble_eq_true rfl), (Nat.le_of_ble_eq_true rfl)⟩, rfl, hts _ (List.mem_cons_of_mem _ zim_Fi_init)⟩ ⟨zk_blind _ _ _ _ _, fun U hU hW => ⟨rfl, by rw [hU], by rw [hU]; exact hPc, zKc_warm hW hK, hDc.weaken (fun _ _ _ _ => trivial)⟩⟩ rfl rfl hl.1 rfl (lv_room (Nat.le_of_ble_eq_true rfl)) zd_Te_init_55 ⟨(Nat.le_of_ble_eq_true rfl), (Nat.le_of_ble_eq_true rfl)⟩) hS (fun q _ h => hFc q h) hFc (fun u9 t H1 locs ht hvm h5 hB hz1 hk1 hS => ?_)
  obtain ⟨hP1, hD1⟩ := hB
  rw [ht] at hP1
  obtain ⟨hP, hD⟩ := va_join (wr := [(a, .inr (8, [.ref b1, .ref q0, .ref q1, .ref q2, .ref q3])), (q0, zQa (ac 1) (va_up (va_up (fun _ => none) (0 : Int32).toNatClampNeg (some q4)) (1 : Int32).toNatClampNeg (some q6))), (q1, zIa (ac 0) 3), (q2, zIa (ac 0) 12), (q3, zIa (ac 0) 5), (q4, .inr (2, [.int 0, .int (-1), .long 0, .long 0])), (q6, .inr (2, [.int 0, .int (-1), .long 0, .long 0]))]) (w1 := [(q8, .inr (2, [.int 0, .int (-1), .long 0, .long 0]))]) hP hD [7] [0, 1, 2, 3, 4, 5, 6] rfl rfl (by decide) (by decide) hk1 hFc hP1 hD1
  generalize H1 = H at hP hS ⊢
  have hP : va_P D vwCl [(a, .inr (8, [.ref b1, .ref q0, .ref q1, .ref q2, .ref q3])), (q0, zQa (ac 1) (va_up (va_up (fun _ => none) (0 : Int32).toNatClampNeg (some q4)) (1 : Int32).toNatClampNeg (some q6))), (q1, zIa (ac 0) 3), (q2, zIa (ac 0) 12), (q3, zIa (ac 0) 5), (q4, .inr (2, [.int 0, .int (-1), .long 0, .long 0])), (q6, .inr (2, [.int 0, .int (-1), .long 0, .long 0])), (q8, .inr (2, [.int 0, .int (-1), .long 0, .long 0]))] H := hP
  have hD : va_D A [(a, .inr (8, [.ref b1, .ref q0, .ref q1, .ref q2, .ref q3])), (q0, zQa (ac 1) (va_up (va_up (fun _ => none) (0 : Int32).toNatClampNeg (some q4)) (1 : Int32).toNatClampNeg (some q6))), (q1, zIa (ac 0) 3), (q2, zIa (ac 0) 12), (q3, zIa (ac 0) 5), (q4, .inr (2, [.int 0, .int (-1), .long 0, .long 0])), (q6, .inr (2, [.int 0, .int (-1), .long 0, .long 0])), (q8, .inr (2, [.int 0, .int (-1), .long 0, .long 0]))] := hD
  refine W.widen (k := 7) (n := 36) (Nat.le_refl _) (Nat.le_refl _) ?_
  refine va_astq (D := D) (v := q8) (i := 2) hx hb hK.1 hP hD hS 1 1 7 2 rfl rfl rfl rfl (show ¬ ((2 : Int32) < 0 ∨ 4 ≤ (2 : Int32).toNatClampNeg) by decide) zd_Te_init_58 (fun H locs hP hD hS => ?_)
  have hP : va_P D vwCl [(a, .inr (8, [.ref b1, .ref q0, .ref q1, .ref q2, .ref q3])), (q0, zQa (ac 1) (va_up (va_up (va_up (fun _ => none) (0 : Int32).toNatClampNeg (some q4)) (1 : Int32).toNatClampNeg (some q6)) (2 : Int32).toNatClampNeg (some q8))), (q1, zIa (ac 0) 3), (q2, zIa (ac 0) 12), (q3, zIa (ac 0) 5), (q4, .inr (2, [.int 0, .int (-1), .long 0, .long 0])), (q6, .inr (2, [.int 0, .int (-1), .long 0, .long 0])), (q8, .inr (2, [.int 0, .int (-1), .long 0, .long 0]))] H := hP
  have hD : va_D A [(a, .inr (8, [.ref b1, .ref q0, .ref q1, .ref q2, .ref q3])), (q0, zQa (ac 1) (va_up (va_up (va_up (fun _ => none) (0 : Int32).toNatClampNeg (some q4)) (1 : Int32).toNatClampNeg (some q6)) (2 : Int32).toNatClampNeg (some q8))), (q1, zIa (ac 0) 3), (q2, zIa (ac 0) 12), (q3, zIa (ac 0) 5), (q4, .inr (2, [.int 0, .int (-1), .long 0, .long 0])), (q6, .inr (2, [.int 0, .int (-1), .long 0, .long 0])), (q8, .inr (2, [.int 0, .int (-1), .long 0, .long 0]))] := hD
  refine lv_iinc (k := 0) (v := 3) hx hb zd_Te_init_59 hl rfl (by decide) (by decide) rfl (fun ls hl => ?_)
  have hl : lv_has ls 3 [(2, .int 3), (0, .ref a), (1, .ref b1)] := hl
  refine lv_goto (tgt := 41) hx hb zd_Te_init_62 (by decide) ?_
  refine lv_iload_n hx hb zd_Te_init_41 rfl (lv_at hl 0 rfl) ?_
  refine lv_iconst (v := 4) hx hb zd_Te_init_42 (by decide) ?_
  refine lv_icmp_ge (tgt := 65) hx hb zd_Te_init_43 (by decide) (fun h9 => absurd h9 (by decide)) (fun _ => ?_)
  refine lv_aload_n hx hb zd_Te_init_46 rfl (lv_at hl 1 rfl) ?_
  refine va_get (D := D) (ci := 8) (v := .ref q0) (C := "CaseTree$Tester") (T := zT_Te) (N := 5) hx hb hts (fun w h => List.mem_cons_of_mem _ (zu_Te w h)) hown hK.1 hP 0 rfl rfl 1 (by decide) (hts _ (List.mem_cons_of_mem _ zf_Te_11)) (fun _ h9 => h9) rfl zd_Te_init_47 ?_
  refine lv_iload_n hx hb zd_Te_init_50 rfl (lv_at hl 0 rfl) ?_
  refine va_new (ci := 2) (fs := [.int 0, .int 0, .long 0, .long 0]) (C := "CaseTree$Finding") (T := zT_Fi) (N := 4) hx hb hts (fun w h => List.mem_cons_of_mem _ (zu_Fi w h)) zy_Fi zy_Fi_ok hown (hts _ (List.mem_cons_of_mem _ zw_cl_Te_9)) (hts _ (List.mem_cons_of_mem _ zw_in_Fi)) (hts _ (List.mem_cons_of_mem _ zl_ini_Fi)) hK.1 hP hD hS hA rfl (fun j hj => by rcases (show j = 0 ∨ j = 1 ∨ j = 2 ∨ j = 3 by omega) with rfl | rfl | rfl | rfl <;> rfl) (Nat.le_of_ble_eq_true rfl) (Nat.le_of_ble_eq_true rfl) zd_Te_init_51 (fun q10 H hP hD hS => ?_)
  have hP : va_P D vwCl [(a, .inr (8, [.ref b1, .ref q0, .ref q1, .ref q2, .ref q3])), (q0, zQa (ac 1) (va_up (va_up (va_up (fun _ => none) (0 : Int32).toNatClampNeg (some q4)) (1 : Int32).toNatClampNeg (some q6)) (2 : Int32).toNatClampNeg (some q8))), (q1, zIa (ac 0) 3), (q2, zIa (ac 0) 12), (q3, zIa (ac 0) 5), (q4, .inr (2, [.int 0, .int (-1), .long 0, .long 0])), (q6, .inr (2, [.int 0, .int (-1), .long 0, .long 0])), (q8, .inr (2, [.int 0, .int (-1), .long 0, .long 0])), (q10, .inr (2, [.int 0, .int 0, .long 0, .long 0]))] H := hP
  have hD : va_D A [(a, .inr (8, [.ref b1, .ref q0, .ref q1, .ref q2, .ref q3])), (q0, zQa (ac 1) (va_up (va_up (va_up (fun _ => none) (0 : Int32).toNatClampNeg (some q4)) (1 : Int32).toNatClampNeg (some q6)) (2 : Int32).toNatClampNeg (some q8))), (q1, zIa (ac 0) 3), (q2, zIa (ac 0) 12), (q3, zIa (ac 0) 5), (q4, .inr (2, [.int 0, .int (-1), .long 0, .long 0])), (q6, .inr (2, [.int 0, .int (-1), .long 0, .long 0])), (q8, .inr (2, [.int 0, .int (-1), .long 0, .long 0])), (q10, .inr (2, [.int 0, .int 0, .long 0, .long 0]))] := hD
  refine W.widen (k := 8) (n := 40) (Nat.le_refl _) (Nat.le_refl _) ?_
  refine lv_dup hx hb zd_Te_init_54 rfl ?_
  have hPc := hP.sub (ws' := [(q10, .inr (2, [.int 0, .int 0, .long 0, .long 0]))]) [8] rfl
  have hDc := hD.sub (ws' := [(q10, .inr (2, [.int 0, .int 0, .long 0, .long 0]))]) [8] (by decide) rfl
  have hFc := va_free (wc := [(q10, .inr (2, [.int 0, .int 0, .long 0, .long 0]))]) hD hS hA [8] rfl
  refine va_callv (va_runIN (As := []) (rest := [.ref q10, .int 3, .ref q0]) ⟨hx, hb, hml, hown, hts⟩ (k_Fi l D ac q10  H.size) ⟨va_cnB 0 hts (zg_code zc_Fi_init) rfl rfl rfl (hK.2.1 _ (List.mem_of_getElem? (i := 3) rfl)) (hts _ (List.mem_cons_of_mem _ zl_ini_Fi)) (by decide +kernel) ⟨(Nat.le_of_ble_eq_true rfl), (Nat.le_of_ble_eq_true rfl)⟩, rfl, hts _ (List.mem_cons_of_mem _ zim_Fi_init)⟩ ⟨zk_blind _ _ _ _ _, fun U hU hW => ⟨rfl, by rw [hU], by rw [hU]; exact hPc, zKc_warm hW hK, hDc.weaken (fun _ _ _ _ => trivial)⟩⟩ rfl rfl hl.1 rfl (lv_room (Nat.le_of_ble_eq_true rfl)) zd_Te_init_55 ⟨(Nat.le_of_ble_eq_true rfl), (Nat.le_of_ble_eq_true rfl)⟩) hS (fun q _ h => hFc q h) hFc (fun u11 t H1 locs ht hvm h5 hB hz1 hk1 hS => ?_)
  obtain ⟨hP1, hD1⟩ := hB
  rw [ht] at hP1
  obtain ⟨hP, hD⟩ := va_join (wr := [(a, .inr (8, [.ref b1, .ref q0, .ref q1, .ref q2, .ref q3])), (q0, zQa (ac 1) (va_up (va_up (va_up (fun _ => none) (0 : Int32).toNatClampNeg (some q4)) (1 : Int32).toNatClampNeg (some q6)) (2 : Int32).toNatClampNeg (some q8))), (q1, zIa (ac 0) 3), (q2, zIa (ac 0) 12), (q3, zIa (ac 0) 5), (q4, .inr (2, [.int 0, .int (-1), .long 0, .long 0])), (q6, .inr (2, [.int 0, .int (-1), .long 0, .long 0])), (q8, .inr (2, [.int 0, .int (-1), .long 0, .long 0]))]) (w1 := [(q10, .inr (2, [.int 0, .int (-1), .long 0, .long 0]))]) hP hD [8] [0, 1, 2, 3, 4, 5, 6, 7] rfl rfl (by decide) (by decide) hk1 hFc hP1 hD1
  generalize H1 = H at hP hS ⊢
  have hP : va_P D vwCl [(a, .inr (8, [.ref b1, .ref q0, .ref q1, .ref q2, .ref q3])), (q0, zQa (ac 1) (va_up (va_up (va_up (fun _ => none) (0 : Int32).toNatClampNeg (some q4)) (1 : Int32).toNatClampNeg (some q6)) (2 : Int32).toNatClampNeg (some q8))), (q1, zIa (ac 0) 3), (q2, zIa (ac 0) 12), (q3, zIa (ac 0) 5), (q4, .inr (2, [.int 0, .int (-1), .long 0, .long 0])), (q6, .inr (2, [.int 0, .int (-1), .long 0, .long 0])), (q8, .inr (2, [.int 0, .int (-1), .long 0, .long 0])), (q10, .inr (2, [.int 0, .int (-1), .long 0, .long 0]))] H := hP
  have hD : va_D A [(a, .inr (8, [.ref b1, .ref q0, .ref q1, .ref q2, .ref q3])), (q0, zQa (ac 1) (va_up (va_up (va_up (fun _ => none) (0 : Int32).toNatClampNeg (some q4)) (1 : Int32).toNatClampNeg (some q6)) (2 : Int32).toNatClampNeg (some q8))), (q1, zIa (ac 0) 3), (q2, zIa (ac 0) 12), (q3, zIa (ac 0) 5), (q4, .inr (2, [.int 0, .int (-1), .long 0, .long 0])), (q6, .inr (2, [.int 0, .int (-1), .long 0, .long 0])), (q8, .inr (2, [.int 0, .int (-1), .long 0, .long 0])), (q10, .inr (2, [.int 0, .int (-1), .long 0, .long 0]))] := hD
  refine W.widen (k := 8) (n := 40) (Nat.le_refl _) (Nat.le_refl _) ?_
  refine va_astq (D := D) (v := q10) (i := 3) hx hb hK.1 hP hD hS 1 1 8 2 rfl rfl rfl rfl (show ¬ ((3 : Int32) < 0 ∨ 4 ≤ (3 : Int32).toNatClampNeg) by decide) zd_Te_init_58 (fun H locs hP hD hS => ?_)
  have hP : va_P D vwCl [(a, .inr (8, [.ref b1, .ref q0, .ref q1, .ref q2, .ref q3])), (q0, zQa (ac 1) (va_up (va_up (va_up (va_up (fun _ => none) (0 : Int32).toNatClampNeg (some q4)) (1 : Int32).toNatClampNeg (some q6)) (2 : Int32).toNatClampNeg (some q8)) (3 : Int32).toNatClampNeg (some q10))), (q1, zIa (ac 0) 3), (q2, zIa (ac 0) 12), (q3, zIa (ac 0) 5), (q4, .inr (2, [.int 0, .int (-1), .long 0, .long 0])), (q6, .inr (2, [.int 0, .int (-1), .long 0, .long 0])), (q8, .inr (2, [.int 0, .int (-1), .long 0, .long 0])), (q10, .inr (2, [.int 0, .int (-1), .long 0, .long 0]))] H := hP
  have hD : va_D A [(a, .inr (8, [.ref b1, .ref q0, .ref q1, .ref q2, .ref q3])), (q0, zQa (ac 1) (va_up (va_up (va_up (va_up (fun _ => none) (0 : Int32).toNatClampNeg (some q4)) (1 : Int32).toNatClampNeg (some q6)) (2 : Int32).toNatClampNeg (some q8)) (3 : Int32).toNatClampNeg (some q10))), (q1, zIa (ac 0) 3), (q2, zIa (ac 0) 12), (q3, zIa (ac 0) 5), (q4, .inr (2, [.int 0, .int (-1), .long 0, .long 0])), (q6, .inr (2, [.int 0, .int (-1), .long 0, .long 0])), (q8, .inr (2, [.int 0, .int (-1), .long 0, .long 0])), (q10, .inr (2, [.int 0, .int (-1), .long 0, .long 0]))] := hD
  refine lv_iinc (k := 0) (v := 4) hx hb zd_Te_init_59 hl rfl (by decide) (by decide) rfl (fun ls hl => ?_)
  have hl : lv_has ls 3 [(2, .int 4), (0, .ref a), (1, .ref b1)] := hl
  refine lv_goto (tgt := 41) hx hb zd_Te_init_62 (by decide) ?_
  refine lv_iload_n hx hb zd_Te_init_41 rfl (lv_at hl 0 rfl) ?_
  refine lv_iconst (v := 4) hx hb zd_Te_init_42 (by decide) ?_
  refine lv_icmp_ge (tgt := 65) hx hb zd_Te_init_43 (by decide) (fun _ => ?_) (fun h9 => absurd (by decide) h9)
  exact W.vret hx hb hr (fun t ht hW => ⟨⟨fun i => ([q0, q1, q2, q3, q4, q6, q8, q10] : List Nat).getD i 0, rfl, trivial, by rw [ht]; exact hP, hD⟩, hS.F ht⟩) hS.2.2 zd_Te_init_65
