set_option maxRecDepth 20000 in
set_option maxHeartbeats 4000000 in
theorem zok_Te_chosen {Ex : ze_G → State → Prop} : ∀ pc, ze_snd zI Ex zi_Te_chosen pc (ze_lk t_Te_chosen pc) := by
  refine zt_cons (zs_lconst (n := 0) (by decide +kernel) (by decide)) ?_
  refine zt_cons (zs_lstore_n (k := 1) (by decide +kernel) rfl (by decide)) ?_
  refine zt_cons (zs_iconst (n := 0) (by decide +kernel) (by decide)) ?_
  refine zt_cons (zs_istore_n (k := 3) (by decide +kernel) rfl (by decide)) ?_
  refine zt_cons (zs_iconst (n := 0) (by decide +kernel) (by decide)) ?_
  refine zt_cons (zs_istore (by decide +kernel) (by decide)) ?_
  refine zt_cons (zs_iload (by decide +kernel)) ?_
  refine zt_cons (zs_aload_n (k := 0) (by decide +kernel) rfl) ?_
  refine zt_cons (zs_gc (j := 0) (C := "CaseTree$Tester") (T := zT_Te) (N := 5) (by decide) rfl rfl (by decide) (fun w h => List.mem_cons_of_mem _ (zu_Te w h)) ⟨rfl, rfl, rfl⟩ (List.mem_cons_of_mem _ zf_Te_27) rfl (fun _ => rfl) (by decide +kernel)) ?_
  refine zt_cons (zs_gi (C := "CaseTree$Cases") (T := zT_Cs) (N := 5) (by decide) rfl rfl (by decide) (fun w h => List.mem_cons_of_mem _ (zu_Cs w h)) ⟨rfl, rfl, rfl⟩ (List.mem_cons_of_mem _ zf_Te_100) rfl (by decide +kernel)) ?_
  refine zt_cons (zs_cge (off := 38) (by decide +kernel) (by decide)) ?_
  refine zt_cons (zs_aload_n (k := 0) (by decide +kernel) rfl) ?_
  refine zt_cons (zs_gc (j := 1) (C := "CaseTree$Tester") (T := zT_Te) (N := 5) (by decide) rfl rfl (by decide) (fun w h => List.mem_cons_of_mem _ (zu_Te w h)) ⟨rfl, rfl, rfl⟩ (List.mem_cons_of_mem _ zf_Te_11) rfl (fun _ => rfl) (by decide +kernel)) ?_
  refine zt_cons (zs_iload (by decide +kernel)) ?_
  refine zt_cons (zs_aq rfl rfl (by decide +kernel)) ?_
  refine zt_cons (zs_cv (n := 0) (x := 103) (C := "CaseTree$Finding") (T := zT_Fi) (N := 4) zI_38 rfl rfl (by decide) rfl zl_Te_103 zim_Fi_hasGain zsel_Fi_hasGain zl_ini_Fi zc_Fi_hasGain (by decide +kernel) (by decide) (by decide) (by decide +kernel)) ?_
  refine zt_cons (zs_ifeq (off := 19) (by decide +kernel) (by decide)) ?_
  refine zt_cons (zs_lload_n (k := 1) (by decide +kernel) rfl) ?_
  refine zt_cons (zs_aload_n (k := 0) (by decide +kernel) rfl) ?_
  refine zt_cons (zs_gc (j := 1) (C := "CaseTree$Tester") (T := zT_Te) (N := 5) (by decide) rfl rfl (by decide) (fun w h => List.mem_cons_of_mem _ (zu_Te w h)) ⟨rfl, rfl, rfl⟩ (List.mem_cons_of_mem _ zf_Te_11) rfl (fun _ => rfl) (by decide +kernel)) ?_
  refine zt_cons (zs_iload (by decide +kernel)) ?_
  refine zt_cons (zs_aq rfl rfl (by decide +kernel)) ?_
  refine zt_cons (zs_gl (C := "CaseTree$Finding") (T := zT_Fi) (N := 4) (by decide) rfl rfl (by decide) (fun w h => List.mem_cons_of_mem _ (zu_Fi w h)) ⟨rfl, rfl, rfl⟩ (List.mem_cons_of_mem _ zf_Te_61) rfl (by decide +kernel)) ?_
  refine zt_cons (zs_ladd (by decide +kernel)) ?_
  refine zt_cons (zs_lstore_n (k := 1) (by decide +kernel) rfl (by decide)) ?_
  refine zt_cons (zs_iinc (n := 1) (by decide +kernel) (by decide) (by decide)) ?_
  refine zt_cons (zs_iinc (n := 1) (by decide +kernel) (by decide) (by decide)) ?_
  refine zt_cons (zs_goto (off := -44) (by decide +kernel) (by decide)) ?_
  refine zt_cons (zs_iconst (n := (-1)) (by decide +kernel) (by decide)) ?_
  refine zt_cons (zs_istore (by decide +kernel) (by decide)) ?_
  refine zt_cons (zs_iconst (n := 0) (by decide +kernel) (by decide)) ?_
  refine zt_cons (zs_istore (by decide +kernel) (by decide)) ?_
  refine zt_cons (zs_iload (by decide +kernel)) ?_
  refine zt_cons (zs_aload_n (k := 0) (by decide +kernel) rfl) ?_
  refine zt_cons (zs_gc (j := 0) (C := "CaseTree$Tester") (T := zT_Te) (N := 5) (by decide) rfl rfl (by decide) (fun w h => List.mem_cons_of_mem _ (zu_Te w h)) ⟨rfl, rfl, rfl⟩ (List.mem_cons_of_mem _ zf_Te_27) rfl (fun _ => rfl) (by decide +kernel)) ?_
  refine zt_cons (zs_gi (C := "CaseTree$Cases") (T := zT_Cs) (N := 5) (by decide) rfl rfl (by decide) (fun w h => List.mem_cons_of_mem _ (zu_Cs w h)) ⟨rfl, rfl, rfl⟩ (List.mem_cons_of_mem _ zf_Te_100) rfl (by decide +kernel)) ?_
  refine zt_cons (zs_cge (off := 76) (by decide +kernel) (by decide)) ?_
  refine zt_cons (zs_aload_n (k := 0) (by decide +kernel) rfl) ?_
  refine zt_cons (zs_gc (j := 1) (C := "CaseTree$Tester") (T := zT_Te) (N := 5) (by decide) rfl rfl (by decide) (fun w h => List.mem_cons_of_mem _ (zu_Te w h)) ⟨rfl, rfl, rfl⟩ (List.mem_cons_of_mem _ zf_Te_11) rfl (fun _ => rfl) (by decide +kernel)) ?_
  refine zt_cons (zs_iload (by decide +kernel)) ?_
  refine zt_cons (zs_aq rfl rfl (by decide +kernel)) ?_
  refine zt_cons (zs_astore (by decide +kernel) (by decide)) ?_
  refine zt_cons (zs_aload (by decide +kernel)) ?_
  refine zt_cons (zs_cv (n := 0) (x := 103) (C := "CaseTree$Finding") (T := zT_Fi) (N := 4) zI_38 rfl rfl (by decide) rfl zl_Te_103 zim_Fi_hasGain zsel_Fi_hasGain zl_ini_Fi zc_Fi_hasGain (by decide +kernel) (by decide) (by decide) (by decide +kernel)) ?_
  refine zt_cons (zs_ifeq (off := 20) (by decide +kernel) (by decide)) ?_
  refine zt_cons (zs_aload (by decide +kernel)) ?_
  refine zt_cons (zs_gl (C := "CaseTree$Finding") (T := zT_Fi) (N := 4) (by decide) rfl rfl (by decide) (fun w h => List.mem_cons_of_mem _ (zu_Fi w h)) ⟨rfl, rfl, rfl⟩ (List.mem_cons_of_mem _ zf_Te_61) rfl (by decide +kernel)) ?_
  refine zt_cons (zs_iload_n (k := 3) (by decide +kernel) rfl) ?_
  refine zt_cons (zs_i2l (by decide +kernel)) ?_
  refine zt_cons (zs_lmul (by decide +kernel)) ?_
  refine zt_cons (zs_lload_n (k := 1) (by decide +kernel) rfl) ?_
  refine zt_cons (zs_lcmp (by decide +kernel)) ?_
  refine zt_cons (zs_iflt (off := 7) (by decide +kernel) (by decide)) ?_
  refine zt_cons (zs_iconst (n := 1) (by decide +kernel) (by decide)) ?_
  refine zt_cons (zs_goto (off := 4) (by decide +kernel) (by decide)) ?_
  refine zt_cons (zs_iconst (n := 0) (by decide +kernel) (by decide)) ?_
  refine zt_cons (zs_istore (by decide +kernel) (by decide)) ?_
  refine zt_cons (zs_iload (by decide +kernel)) ?_
  refine zt_cons (zs_ifeq (off := 28) (by decide +kernel) (by decide)) ?_
  refine zt_cons (zs_iload (by decide +kernel)) ?_
  refine zt_cons (zs_iconst (n := (-1)) (by decide +kernel) (by decide)) ?_
  refine zt_cons (zs_ceq (off := 18) (by decide +kernel) (by decide)) ?_
  refine zt_cons (zs_aload (by decide +kernel)) ?_
  refine zt_cons (zs_aload_n (k := 0) (by decide +kernel) rfl) ?_
  refine zt_cons (zs_gc (j := 1) (C := "CaseTree$Tester") (T := zT_Te) (N := 5) (by decide) rfl rfl (by decide) (fun w h => List.mem_cons_of_mem _ (zu_Te w h)) ⟨rfl, rfl, rfl⟩ (List.mem_cons_of_mem _ zf_Te_11) rfl (fun _ => rfl) (by decide +kernel)) ?_
  refine zt_cons (zs_iload (by decide +kernel)) ?_
  refine zt_cons (zs_aq rfl rfl (by decide +kernel)) ?_
  refine zt_cons (zs_cv (n := 1) (x := 107) (C := "CaseTree$Finding") (T := zT_Fi) (N := 4) zI_39 rfl rfl (by decide) rfl zl_Te_107 zim_Fi_hasGreaterRatio zsel_Fi_hasGreaterRatio zl_ini_Fi zc_Fi_hasGreaterRatio (by decide +kernel) (by decide) (by decide) (by decide +kernel)) ?_
  refine zt_cons (zs_ifeq (off := 7) (by decide +kernel) (by decide)) ?_
  refine zt_cons (zs_iload (by decide +kernel)) ?_
  refine zt_cons (zs_istore (by decide +kernel) (by decide)) ?_
  refine zt_cons (zs_iinc (n := 1) (by decide +kernel) (by decide) (by decide)) ?_
  refine zt_cons (zs_goto (off := -82) (by decide +kernel) (by decide)) ?_
  refine zt_cons (zs_iload (by decide +kernel)) ?_
  refine zt_cons (zs_ir rfl (by decide +kernel)) ?_
  exact zt_nil
set_option maxRecDepth 20000 in
set_option maxHeartbeats 4000000 in
theorem zok_Tr_has {Ex : ze_G → State → Prop} : ∀ pc, ze_snd zI Ex zi_Tr_has pc (ze_lk t_Tr_has pc) := by
  refine zt_cons (zs_iload_n (k := 1) (by decide +kernel) rfl) ?_
  refine zt_cons (zs_iflt (off := 15) (by decide +kernel) (by decide)) ?_
  refine zt_cons (zs_iload_n (k := 1) (by decide +kernel) rfl) ?_
  refine zt_cons (zs_aload_n (k := 0) (by decide +kernel) rfl) ?_
  refine zt_cons (zs_gi (C := "CaseTree$Tree") (T := zT_Tr) (N := 12) (by decide) rfl rfl (by decide) (fun w h => List.mem_cons_of_mem _ (zu_Tr w h)) ⟨rfl, rfl, rfl⟩ (List.mem_cons_of_mem _ zf_Tr_43) rfl (by decide +kernel)) ?_
  refine zt_cons (zs_cge (off := 7) (by decide +kernel) (by decide)) ?_
  refine zt_cons (zs_iconst (n := 1) (by decide +kernel) (by decide)) ?_
  refine zt_cons (zs_goto (off := 4) (by decide +kernel) (by decide)) ?_
  refine zt_cons (zs_iconst (n := 0) (by decide +kernel) (by decide)) ?_
  refine zt_cons (zs_zr rfl (by decide +kernel)) ?_
  exact zt_nil
set_option maxRecDepth 20000 in
set_option maxHeartbeats 4000000 in
theorem zok_Tr_hasBranch {Ex : ze_G → State → Prop} : ∀ pc, ze_snd zI Ex zi_Tr_hasBranch pc (ze_lk t_Tr_hasBranch pc) := by
  refine zt_cons (zs_aload_n (k := 0) (by decide +kernel) rfl) ?_
  refine zt_cons (zs_iload_n (k := 1) (by decide +kernel) rfl) ?_
  refine zt_cons (zs_cv (n := 1) (x := 49) (C := "CaseTree$Tree") (T := zT_Tr) (N := 12) zI_63 rfl rfl (by decide) rfl zl_Tr_49 zim_Tr_has zsel_Tr_has zl_ini_Tr zc_Tr_has (by decide +kernel) (by decide) (by decide) (by decide +kernel)) ?_
  refine zt_cons (zs_ifeq (off := 26) (by decide +kernel) (by decide)) ?_
  refine zt_cons (zs_iload_n (k := 2) (by decide +kernel) rfl) ?_
  refine zt_cons (zs_iflt (off := 22) (by decide +kernel) (by decide)) ?_
  refine zt_cons (zs_iload_n (k := 2) (by decide +kernel) rfl) ?_
  refine zt_cons (zs_aload_n (k := 0) (by decide +kernel) rfl) ?_
  refine zt_cons (zs_gc (j := 2) (C := "CaseTree$Tree") (T := zT_Tr) (N := 12) (by decide) rfl rfl (by decide) (fun w h => List.mem_cons_of_mem _ (zu_Tr w h)) ⟨rfl, rfl, rfl⟩ (List.mem_cons_of_mem _ zf_Tr_18) rfl (fun _ => rfl) (by decide +kernel)) ?_
  refine zt_cons (zs_aload_n (k := 0) (by decide +kernel) rfl) ?_
  refine zt_cons (zs_gc (j := 7) (C := "CaseTree$Tree") (T := zT_Tr) (N := 12) (by decide) rfl rfl (by decide) (fun w h => List.mem_cons_of_mem _ (zu_Tr w h)) ⟨rfl, rfl, rfl⟩ (List.mem_cons_of_mem _ zf_Tr_33) rfl (fun _ => rfl) (by decide +kernel)) ?_
  refine zt_cons (zs_iload_n (k := 1) (by decide +kernel) rfl) ?_
  refine zt_cons (zs_ia (by decide +kernel)) ?_
  refine zt_cons (zs_ia (by decide +kernel)) ?_
  refine zt_cons (zs_cge (off := 7) (by decide +kernel) (by decide)) ?_
  refine zt_cons (zs_iconst (n := 1) (by decide +kernel) (by decide)) ?_
  refine zt_cons (zs_goto (off := 4) (by decide +kernel) (by decide)) ?_
  refine zt_cons (zs_iconst (n := 0) (by decide +kernel) (by decide)) ?_
  refine zt_cons (zs_zr rfl (by decide +kernel)) ?_
  exact zt_nil
set_option maxRecDepth 20000 in
set_option maxHeartbeats 4000000 in
theorem zok_Tr_isLeaf {Ex : ze_G → State → Prop} : ∀ pc, ze_snd zI Ex zi_Tr_isLeaf pc (ze_lk t_Tr_isLeaf pc) := by
  refine zt_cons (zs_aload_n (k := 0) (by decide +kernel) rfl) ?_
  refine zt_cons (zs_gc (j := 2) (C := "CaseTree$Tree") (T := zT_Tr) (N := 12) (by decide) rfl rfl (by decide) (fun w h => List.mem_cons_of_mem _ (zu_Tr w h)) ⟨rfl, rfl, rfl⟩ (List.mem_cons_of_mem _ zf_Tr_18) rfl (fun _ => rfl) (by decide +kernel)) ?_
  refine zt_cons (zs_iload_n (k := 1) (by decide +kernel) rfl) ?_
  refine zt_cons (zs_ia (by decide +kernel)) ?_
  refine zt_cons (zs_ifne (off := 7) (by decide +kernel) (by decide)) ?_
  refine zt_cons (zs_iconst (n := 1) (by decide +kernel) (by decide)) ?_
  refine zt_cons (zs_goto (off := 4) (by decide +kernel) (by decide)) ?_
  refine zt_cons (zs_iconst (n := 0) (by decide +kernel) (by decide)) ?_
  refine zt_cons (zs_zr rfl (by decide +kernel)) ?_
  exact zt_nil
set_option maxRecDepth 20000 in
set_option maxHeartbeats 4000000 in
theorem zok_Tr_below {Ex : ze_G → State → Prop} : ∀ pc, ze_snd zI Ex zi_Tr_below pc (ze_lk t_Tr_below pc) := by
  refine zt_cons (zs_aload_n (k := 0) (by decide +kernel) rfl) ?_
  refine zt_cons (zs_gc (j := 6) (C := "CaseTree$Tree") (T := zT_Tr) (N := 12) (by decide) rfl rfl (by decide) (fun w h => List.mem_cons_of_mem _ (zu_Tr w h)) ⟨rfl, rfl, rfl⟩ (List.mem_cons_of_mem _ zf_Tr_30) rfl (fun _ => rfl) (by decide +kernel)) ?_
  refine zt_cons (zs_iload_n (k := 1) (by decide +kernel) rfl) ?_
  refine zt_cons (zs_iconst (n := 4) (by decide +kernel) (by decide)) ?_
  refine zt_cons (zs_imul (by decide +kernel)) ?_
  refine zt_cons (zs_iload_n (k := 2) (by decide +kernel) rfl) ?_
  refine zt_cons (zs_iadd (by decide +kernel)) ?_
  refine zt_cons (zs_ia (by decide +kernel)) ?_
  refine zt_cons (zs_ir rfl (by decide +kernel)) ?_
  exact zt_nil
set_option maxRecDepth 20000 in
set_option maxHeartbeats 4000000 in
theorem zok_Tr_totalWeight {Ex : ze_G → State → Prop} : ∀ pc, ze_snd zI Ex zi_Tr_totalWeight pc (ze_lk t_Tr_totalWeight pc) := by
  refine zt_cons (zs_aload_n (k := 0) (by decide +kernel) rfl) ?_
  refine zt_cons (zs_gc (j := 4) (C := "CaseTree$Tree") (T := zT_Tr) (N := 12) (by decide) rfl rfl (by decide) (fun w h => List.mem_cons_of_mem _ (zu_Tr w h)) ⟨rfl, rfl, rfl⟩ (List.mem_cons_of_mem _ zf_Tr_24) rfl (fun _ => rfl) (by decide +kernel)) ?_
  refine zt_cons (zs_iload_n (k := 1) (by decide +kernel) rfl) ?_
  refine zt_cons (zs_iconst (n := 3) (by decide +kernel) (by decide)) ?_
  refine zt_cons (zs_imul (by decide +kernel)) ?_
  refine zt_cons (zs_iconst (n := 3) (by decide +kernel) (by decide)) ?_
  refine zt_cons (zs_csN (x := 53) zI_26 rfl rfl zs_static_C_sum zl_ini_C zc_C_sum 11 rfl (by decide +kernel) (by decide) (by decide) (by decide +kernel)) ?_
  refine zt_cons (zs_ir rfl (by decide +kernel)) ?_
  exact zt_nil
set_option maxRecDepth 20000 in
set_option maxHeartbeats 4000000 in
theorem zok_Tr_makeNode {Ex : ze_G → State → Prop} : ∀ pc, ze_snd zI Ex zi_Tr_makeNode pc (ze_lk t_Tr_makeNode pc) := by
  refine zt_cons (zs_aload_n (k := 0) (by decide +kernel) rfl) ?_
  refine zt_cons (zs_gi (C := "CaseTree$Tree") (T := zT_Tr) (N := 12) (by decide) rfl rfl (by decide) (fun w h => List.mem_cons_of_mem _ (zu_Tr w h)) ⟨rfl, rfl, rfl⟩ (List.mem_cons_of_mem _ zf_Tr_39) rfl (by decide +kernel)) ?_
  refine zt_cons (zs_istore_n (k := 2) (by decide +kernel) rfl (by decide)) ?_
  refine zt_cons (zs_aload_n (k := 0) (by decide +kernel) rfl) ?_
  refine zt_cons (zs_dup (by decide +kernel)) ?_
  refine zt_cons (zs_gi (C := "CaseTree$Tree") (T := zT_Tr) (N := 12) (by decide) rfl rfl (by decide) (fun w h => List.mem_cons_of_mem _ (zu_Tr w h)) ⟨rfl, rfl, rfl⟩ (List.mem_cons_of_mem _ zf_Tr_39) rfl (by decide +kernel)) ?_
  refine zt_cons (zs_iconst (n := 1) (by decide +kernel) (by decide)) ?_
  refine zt_cons (zs_iadd (by decide +kernel)) ?_
  refine zt_cons (zs_pi (C := "CaseTree$Tree") (T := zT_Tr) (N := 12) (by decide) rfl rfl (by decide) (fun w h => List.mem_cons_of_mem _ (zu_Tr w h)) zy_Tr_ok zn_Tr ⟨rfl, rfl, rfl, rfl⟩ (by decide +kernel) (List.mem_cons_of_mem _ zf_Tr_39) rfl (by decide +kernel)) ?_
  refine zt_cons (zs_aload_n (k := 0) (by decide +kernel) rfl) ?_
  refine zt_cons (zs_gc (j := 3) (C := "CaseTree$Tree") (T := zT_Tr) (N := 12) (by decide) rfl rfl (by decide) (fun w h => List.mem_cons_of_mem _ (zu_Tr w h)) ⟨rfl, rfl, rfl⟩ (List.mem_cons_of_mem _ zf_Tr_21) rfl (fun _ => rfl) (by decide +kernel)) ?_
  refine zt_cons (zs_iload_n (k := 2) (by decide +kernel) rfl) ?_
  refine zt_cons (zs_iload_n (k := 1) (by decide +kernel) rfl) ?_
  refine zt_cons (zs_ias (by decide +kernel)) ?_
  refine zt_cons (zs_aload_n (k := 0) (by decide +kernel) rfl) ?_
  refine zt_cons (zs_iload_n (k := 2) (by decide +kernel) rfl) ?_
  refine zt_cons (zs_cv (n := 1) (x := 57) (C := "CaseTree$Tree") (T := zT_Tr) (N := 12) zI_69 rfl rfl (by decide) rfl zl_Tr_57 zim_Tr_becomeLeaf zsel_Tr_becomeLeaf zl_ini_Tr zc_Tr_becomeLeaf (by decide +kernel) (by decide) (by decide) (by decide +kernel)) ?_
  refine zt_cons (zs_iload_n (k := 2) (by decide +kernel) rfl) ?_
  refine zt_cons (zs_ir rfl (by decide +kernel)) ?_
  exact zt_nil
set_option maxRecDepth 20000 in
set_option maxHeartbeats 4000000 in
theorem zok_Tr_becomeLeaf {Ex : ze_G → State → Prop} : ∀ pc, ze_snd zI Ex zi_Tr_becomeLeaf pc (ze_lk t_Tr_becomeLeaf pc) := by
  refine zt_cons (zs_aload_n (k := 0) (by decide +kernel) rfl) ?_
  refine zt_cons (zs_gc (j := 0) (C := "CaseTree$Tree") (T := zT_Tr) (N := 12) (by decide) rfl rfl (by decide) (fun w h => List.mem_cons_of_mem _ (zu_Tr w h)) ⟨rfl, rfl, rfl⟩ (List.mem_cons_of_mem _ zf_Tr_9) rfl (fun _ => rfl) (by decide +kernel)) ?_
  refine zt_cons (zs_iload_n (k := 1) (by decide +kernel) rfl) ?_
  refine zt_cons (zs_iconst (n := (-1)) (by decide +kernel) (by decide)) ?_
  refine zt_cons (zs_ias (by decide +kernel)) ?_
  refine zt_cons (zs_aload_n (k := 0) (by decide +kernel) rfl) ?_
  refine zt_cons (zs_gc (j := 1) (C := "CaseTree$Tree") (T := zT_Tr) (N := 12) (by decide) rfl rfl (by decide) (fun w h => List.mem_cons_of_mem _ (zu_Tr w h)) ⟨rfl, rfl, rfl⟩ (List.mem_cons_of_mem _ zf_Tr_15) rfl (fun _ => rfl) (by decide +kernel)) ?_
  refine zt_cons (zs_iload_n (k := 1) (by decide +kernel) rfl) ?_
  refine zt_cons (zs_iconst (n := (-1)) (by decide +kernel) (by decide)) ?_
  refine zt_cons (zs_ias (by decide +kernel)) ?_
  refine zt_cons (zs_aload_n (k := 0) (by decide +kernel) rfl) ?_
  refine zt_cons (zs_gc (j := 2) (C := "CaseTree$Tree") (T := zT_Tr) (N := 12) (by decide) rfl rfl (by decide) (fun w h => List.mem_cons_of_mem _ (zu_Tr w h)) ⟨rfl, rfl, rfl⟩ (List.mem_cons_of_mem _ zf_Tr_18) rfl (fun _ => rfl) (by decide +kernel)) ?_
  refine zt_cons (zs_iload_n (k := 1) (by decide +kernel) rfl) ?_
  refine zt_cons (zs_iconst (n := 0) (by decide +kernel) (by decide)) ?_
  refine zt_cons (zs_ias (by decide +kernel)) ?_
  refine zt_cons (zs_vr rfl (by decide +kernel)) ?_
  exact zt_nil
set_option maxRecDepth 20000 in
set_option maxHeartbeats 4000000 in
theorem zok_Tr_keepTest {Ex : ze_G → State → Prop} : ∀ pc, ze_snd zI Ex zi_Tr_keepTest pc (ze_lk t_Tr_keepTest pc) := by
  refine zt_cons (zs_aload_n (k := 0) (by decide +kernel) rfl) ?_
  refine zt_cons (zs_gc (j := 0) (C := "CaseTree$Tree") (T := zT_Tr) (N := 12) (by decide) rfl rfl (by decide) (fun w h => List.mem_cons_of_mem _ (zu_Tr w h)) ⟨rfl, rfl, rfl⟩ (List.mem_cons_of_mem _ zf_Tr_9) rfl (fun _ => rfl) (by decide +kernel)) ?_
  refine zt_cons (zs_iload_n (k := 1) (by decide +kernel) rfl) ?_
  refine zt_cons (zs_aload_n (k := 2) (by decide +kernel) rfl) ?_
  refine zt_cons (zs_gi (C := "CaseTree$Fork") (T := zT_Fo) (N := 6) (by decide) rfl rfl (by decide) (fun w h => List.mem_cons_of_mem _ (zu_Fo w h)) ⟨rfl, rfl, rfl⟩ (List.mem_cons_of_mem _ zf_Tr_61) rfl (by decide +kernel)) ?_
  refine zt_cons (zs_ias (by decide +kernel)) ?_
  refine zt_cons (zs_aload_n (k := 0) (by decide +kernel) rfl) ?_
  refine zt_cons (zs_gc (j := 1) (C := "CaseTree$Tree") (T := zT_Tr) (N := 12) (by decide) rfl rfl (by decide) (fun w h => List.mem_cons_of_mem _ (zu_Tr w h)) ⟨rfl, rfl, rfl⟩ (List.mem_cons_of_mem _ zf_Tr_15) rfl (fun _ => rfl) (by decide +kernel)) ?_
  refine zt_cons (zs_iload_n (k := 1) (by decide +kernel) rfl) ?_
  refine zt_cons (zs_aload_n (k := 2) (by decide +kernel) rfl) ?_
  refine zt_cons (zs_gi (C := "CaseTree$Fork") (T := zT_Fo) (N := 6) (by decide) rfl rfl (by decide) (fun w h => List.mem_cons_of_mem _ (zu_Fo w h)) ⟨rfl, rfl, rfl⟩ (List.mem_cons_of_mem _ zf_Tr_66) rfl (by decide +kernel)) ?_
  refine zt_cons (zs_ias (by decide +kernel)) ?_
  refine zt_cons (zs_aload_n (k := 0) (by decide +kernel) rfl) ?_
  refine zt_cons (zs_gc (j := 2) (C := "CaseTree$Tree") (T := zT_Tr) (N := 12) (by decide) rfl rfl (by decide) (fun w h => List.mem_cons_of_mem _ (zu_Tr w h)) ⟨rfl, rfl, rfl⟩ (List.mem_cons_of_mem _ zf_Tr_18) rfl (fun _ => rfl) (by decide +kernel)) ?_
  refine zt_cons (zs_iload_n (k := 1) (by decide +kernel) rfl) ?_
  refine zt_cons (zs_aload_n (k := 2) (by decide +kernel) rfl) ?_
  refine zt_cons (zs_gi (C := "CaseTree$Fork") (T := zT_Fo) (N := 6) (by decide) rfl rfl (by decide) (fun w h => List.mem_cons_of_mem _ (zu_Fo w h)) ⟨rfl, rfl, rfl⟩ (List.mem_cons_of_mem _ zf_Tr_69) rfl (by decide +kernel)) ?_
  refine zt_cons (zs_ias (by decide +kernel)) ?_
  refine zt_cons (zs_aload_n (k := 2) (by decide +kernel) rfl) ?_
  refine zt_cons (zs_gf (j := 0) (C := "CaseTree$Fork") (T := zT_Fo) (N := 6) (by decide) rfl rfl (by decide) (fun w h => List.mem_cons_of_mem _ (zu_Fo w h)) ⟨rfl, rfl, rfl⟩ (List.mem_cons_of_mem _ zf_Tr_71) rfl (fun _ => rfl) (by decide +kernel)) ?_
  refine zt_cons (zs_iconst (n := 0) (by decide +kernel) (by decide)) ?_
  refine zt_cons (zs_aload_n (k := 0) (by decide +kernel) rfl) ?_
  refine zt_cons (zs_gc (j := 5) (C := "CaseTree$Tree") (T := zT_Tr) (N := 12) (by decide) rfl rfl (by decide) (fun w h => List.mem_cons_of_mem _ (zu_Tr w h)) ⟨rfl, rfl, rfl⟩ (List.mem_cons_of_mem _ zf_Tr_27) rfl (fun _ => rfl) (by decide +kernel)) ?_
  refine zt_cons (zs_iload_n (k := 1) (by decide +kernel) rfl) ?_
  refine zt_cons (zs_iconst (n := 4) (by decide +kernel) (by decide)) ?_
  refine zt_cons (zs_imul (by decide +kernel)) ?_
  refine zt_cons (zs_iconst (n := 4) (by decide +kernel) (by decide)) ?_
  refine zt_cons (zs_cpy (x := 72) (List.mem_cons_of_mem _ zl_Tr_72) (List.mem_cons_of_mem _ zl_native) (List.mem_cons_of_mem _ zl_static) (List.mem_cons_of_mem _ zl_ini_System) (by decide +kernel)) ?_
  refine zt_cons (zs_vr rfl (by decide +kernel)) ?_
  exact zt_nil
set_option maxRecDepth 20000 in
set_option maxHeartbeats 4000000 in
theorem zok_Tr_readTest {Ex : ze_G → State → Prop} : ∀ pc, ze_snd zI Ex zi_Tr_readTest pc (ze_lk t_Tr_readTest pc) := by
  refine zt_cons (zs_aload_n (k := 2) (by decide +kernel) rfl) ?_
  refine zt_cons (zs_aload_n (k := 0) (by decide +kernel) rfl) ?_
  refine zt_cons (zs_gc (j := 0) (C := "CaseTree$Tree") (T := zT_Tr) (N := 12) (by decide) rfl rfl (by decide) (fun w h => List.mem_cons_of_mem _ (zu_Tr w h)) ⟨rfl, rfl, rfl⟩ (List.mem_cons_of_mem _ zf_Tr_9) rfl (fun _ => rfl) (by decide +kernel)) ?_
  refine zt_cons (zs_iload_n (k := 1) (by decide +kernel) rfl) ?_
  refine zt_cons (zs_ia (by decide +kernel)) ?_
  refine zt_cons (zs_aload_n (k := 0) (by decide +kernel) rfl) ?_
  refine zt_cons (zs_gc (j := 1) (C := "CaseTree$Tree") (T := zT_Tr) (N := 12) (by decide) rfl rfl (by decide) (fun w h => List.mem_cons_of_mem _ (zu_Tr w h)) ⟨rfl, rfl, rfl⟩ (List.mem_cons_of_mem _ zf_Tr_15) rfl (fun _ => rfl) (by decide +kernel)) ?_
  refine zt_cons (zs_iload_n (k := 1) (by decide +kernel) rfl) ?_
  refine zt_cons (zs_ia (by decide +kernel)) ?_
  refine zt_cons (zs_aload_n (k := 0) (by decide +kernel) rfl) ?_
  refine zt_cons (zs_gc (j := 2) (C := "CaseTree$Tree") (T := zT_Tr) (N := 12) (by decide) rfl rfl (by decide) (fun w h => List.mem_cons_of_mem _ (zu_Tr w h)) ⟨rfl, rfl, rfl⟩ (List.mem_cons_of_mem _ zf_Tr_18) rfl (fun _ => rfl) (by decide +kernel)) ?_
  refine zt_cons (zs_iload_n (k := 1) (by decide +kernel) rfl) ?_
  refine zt_cons (zs_ia (by decide +kernel)) ?_
  refine zt_cons (zs_cv (n := 3) (x := 78) (C := "CaseTree$Fork") (T := zT_Fo) (N := 6) zI_40 rfl rfl (by decide) rfl zl_Tr_78 zim_Fo_setTest zsel_Fo_setTest zl_ini_Fo zc_Fo_setTest (by decide +kernel) (by decide) (by decide) (by decide +kernel)) ?_
  refine zt_cons (zs_aload_n (k := 0) (by decide +kernel) rfl) ?_
  refine zt_cons (zs_gc (j := 5) (C := "CaseTree$Tree") (T := zT_Tr) (N := 12) (by decide) rfl rfl (by decide) (fun w h => List.mem_cons_of_mem _ (zu_Tr w h)) ⟨rfl, rfl, rfl⟩ (List.mem_cons_of_mem _ zf_Tr_27) rfl (fun _ => rfl) (by decide +kernel)) ?_
  refine zt_cons (zs_iload_n (k := 1) (by decide +kernel) rfl) ?_
  refine zt_cons (zs_iconst (n := 4) (by decide +kernel) (by decide)) ?_
  refine zt_cons (zs_imul (by decide +kernel)) ?_
  refine zt_cons (zs_aload_n (k := 2) (by decide +kernel) rfl) ?_
  refine zt_cons (zs_gf (j := 0) (C := "CaseTree$Fork") (T := zT_Fo) (N := 6) (by decide) rfl rfl (by decide) (fun w h => List.mem_cons_of_mem _ (zu_Fo w h)) ⟨rfl, rfl, rfl⟩ (List.mem_cons_of_mem _ zf_Tr_71) rfl (fun _ => rfl) (by decide +kernel)) ?_
  refine zt_cons (zs_iconst (n := 0) (by decide +kernel) (by decide)) ?_
  refine zt_cons (zs_iconst (n := 4) (by decide +kernel) (by decide)) ?_
  refine zt_cons (zs_cpy (x := 72) (List.mem_cons_of_mem _ zl_Tr_72) (List.mem_cons_of_mem _ zl_native) (List.mem_cons_of_mem _ zl_static) (List.mem_cons_of_mem _ zl_ini_System) (by decide +kernel)) ?_
  refine zt_cons (zs_aload_n (k := 2) (by decide +kernel) rfl) ?_
  refine zt_cons (zs_cv (n := 0) (x := 82) (C := "CaseTree$Fork") (T := zT_Fo) (N := 6) zI_41 rfl rfl (by decide) rfl zl_Tr_82 zim_Fo_settleParts zsel_Fo_settleParts zl_ini_Fo zc_Fo_settleParts (by decide +kernel) (by decide) (by decide) (by decide +kernel)) ?_
  refine zt_cons (zs_vr rfl (by decide +kernel)) ?_
  exact zt_nil
set_option maxRecDepth 20000 in
set_option maxHeartbeats 4000000 in
theorem zok_Tr_keepWeights {Ex : ze_G → State → Prop} : ∀ pc, ze_snd zI Ex zi_Tr_keepWeights pc (ze_lk t_Tr_keepWeights pc) := by
  refine zt_cons (zs_aload_n (k := 2) (by decide +kernel) rfl) ?_
  refine zt_cons (zs_iconst (n := 0) (by decide +kernel) (by decide)) ?_
  refine zt_cons (zs_aload_n (k := 0) (by decide +kernel) rfl) ?_
  refine zt_cons (zs_gc (j := 4) (C := "CaseTree$Tree") (T := zT_Tr) (N := 12) (by decide) rfl rfl (by decide) (fun w h => List.mem_cons_of_mem _ (zu_Tr w h)) ⟨rfl, rfl, rfl⟩ (List.mem_cons_of_mem _ zf_Tr_24) rfl (fun _ => rfl) (by decide +kernel)) ?_
  refine zt_cons (zs_iload_n (k := 1) (by decide +kernel) rfl) ?_
  refine zt_cons (zs_iconst (n := 3) (by decide +kernel) (by decide)) ?_
  refine zt_cons (zs_imul (by decide +kernel)) ?_
  refine zt_cons (zs_iconst (n := 3) (by decide +kernel) (by decide)) ?_
  refine zt_cons (zs_cpy (x := 72) (List.mem_cons_of_mem _ zl_Tr_72) (List.mem_cons_of_mem _ zl_native) (List.mem_cons_of_mem _ zl_static) (List.mem_cons_of_mem _ zl_ini_System) (by decide +kernel)) ?_
  refine zt_cons (zs_aload_n (k := 0) (by decide +kernel) rfl) ?_
  refine zt_cons (zs_iload_n (k := 1) (by decide +kernel) rfl) ?_
  refine zt_cons (zs_cv (n := 1) (x := 85) (C := "CaseTree$Tree") (T := zT_Tr) (N := 12) zI_67 rfl rfl (by decide) rfl zl_Tr_85 zim_Tr_totalWeight zsel_Tr_totalWeight zl_ini_Tr zc_Tr_totalWeight (by decide +kernel) (by decide) (by decide) (by decide +kernel)) ?_
  refine zt_cons (zs_ifle (off := 15) (by decide +kernel) (by decide)) ?_
  refine zt_cons (zs_aload_n (k := 0) (by decide +kernel) rfl) ?_
  refine zt_cons (zs_gc (j := 3) (C := "CaseTree$Tree") (T := zT_Tr) (N := 12) (by decide) rfl rfl (by decide) (fun w h => List.mem_cons_of_mem _ (zu_Tr w h)) ⟨rfl, rfl, rfl⟩ (List.mem_cons_of_mem _ zf_Tr_21) rfl (fun _ => rfl) (by decide +kernel)) ?_
  refine zt_cons (zs_iload_n (k := 1) (by decide +kernel) rfl) ?_
  refine zt_cons (zs_aload_n (k := 2) (by decide +kernel) rfl) ?_
  refine zt_cons (zs_iconst (n := 0) (by decide +kernel) (by decide)) ?_
  refine zt_cons (zs_iconst (n := 3) (by decide +kernel) (by decide)) ?_
  refine zt_cons (zs_csN (x := 89) zI_27 rfl rfl zs_static_C_firstGreatest zl_ini_C zc_C_firstGreatest 12 rfl (by decide +kernel) (by decide) (by decide) (by decide +kernel)) ?_
  refine zt_cons (zs_ias (by decide +kernel)) ?_
  refine zt_cons (zs_vr rfl (by decide +kernel)) ?_
  exact zt_nil
set_option maxRecDepth 20000 in
set_option maxHeartbeats 4000000 in
theorem zok_Tr_moveNode {Ex : ze_G → State → Prop} : ∀ pc, ze_snd zI Ex zi_Tr_moveNode pc (ze_lk t_Tr_moveNode pc) := by
  refine zt_cons (zs_aload_n (k := 0) (by decide +kernel) rfl) ?_
  refine zt_cons (zs_gc (j := 0) (C := "CaseTree$Tree") (T := zT_Tr) (N := 12) (by decide) rfl rfl (by decide) (fun w h => List.mem_cons_of_mem _ (zu_Tr w h)) ⟨rfl, rfl, rfl⟩ (List.mem_cons_of_mem _ zf_Tr_9) rfl (fun _ => rfl) (by decide +kernel)) ?_
  refine zt_cons (zs_iload_n (k := 2) (by decide +kernel) rfl) ?_
  refine zt_cons (zs_aload_n (k := 0) (by decide +kernel) rfl) ?_
  refine zt_cons (zs_gc (j := 0) (C := "CaseTree$Tree") (T := zT_Tr) (N := 12) (by decide) rfl rfl (by decide) (fun w h => List.mem_cons_of_mem _ (zu_Tr w h)) ⟨rfl, rfl, rfl⟩ (List.mem_cons_of_mem _ zf_Tr_9) rfl (fun _ => rfl) (by decide +kernel)) ?_
  refine zt_cons (zs_iload_n (k := 1) (by decide +kernel) rfl) ?_
  refine zt_cons (zs_ia (by decide +kernel)) ?_
  refine zt_cons (zs_ias (by decide +kernel)) ?_
  refine zt_cons (zs_aload_n (k := 0) (by decide +kernel) rfl) ?_
  refine zt_cons (zs_gc (j := 1) (C := "CaseTree$Tree") (T := zT_Tr) (N := 12) (by decide) rfl rfl (by decide) (fun w h => List.mem_cons_of_mem _ (zu_Tr w h)) ⟨rfl, rfl, rfl⟩ (List.mem_cons_of_mem _ zf_Tr_15) rfl (fun _ => rfl) (by decide +kernel)) ?_
  refine zt_cons (zs_iload_n (k := 2) (by decide +kernel) rfl) ?_
  refine zt_cons (zs_aload_n (k := 0) (by decide +kernel) rfl) ?_
  refine zt_cons (zs_gc (j := 1) (C := "CaseTree$Tree") (T := zT_Tr) (N := 12) (by decide) rfl rfl (by decide) (fun w h => List.mem_cons_of_mem _ (zu_Tr w h)) ⟨rfl, rfl, rfl⟩ (List.mem_cons_of_mem _ zf_Tr_15) rfl (fun _ => rfl) (by decide +kernel)) ?_
  refine zt_cons (zs_iload_n (k := 1) (by decide +kernel) rfl) ?_
  refine zt_cons (zs_ia (by decide +kernel)) ?_
  refine zt_cons (zs_ias (by decide +kernel)) ?_
  refine zt_cons (zs_aload_n (k := 0) (by decide +kernel) rfl) ?_
  refine zt_cons (zs_gc (j := 2) (C := "CaseTree$Tree") (T := zT_Tr) (N := 12) (by decide) rfl rfl (by decide) (fun w h => List.mem_cons_of_mem _ (zu_Tr w h)) ⟨rfl, rfl, rfl⟩ (List.mem_cons_of_mem _ zf_Tr_18) rfl (fun _ => rfl) (by decide +kernel)) ?_
  refine zt_cons (zs_iload_n (k := 2) (by decide +kernel) rfl) ?_
  refine zt_cons (zs_aload_n (k := 0) (by decide +kernel) rfl) ?_
  refine zt_cons (zs_gc (j := 2) (C := "CaseTree$Tree") (T := zT_Tr) (N := 12) (by decide) rfl rfl (by decide) (fun w h => List.mem_cons_of_mem _ (zu_Tr w h)) ⟨rfl, rfl, rfl⟩ (List.mem_cons_of_mem _ zf_Tr_18) rfl (fun _ => rfl) (by decide +kernel)) ?_
  refine zt_cons (zs_iload_n (k := 1) (by decide +kernel) rfl) ?_
  refine zt_cons (zs_ia (by decide +kernel)) ?_
  refine zt_cons (zs_ias (by decide +kernel)) ?_
  refine zt_cons (zs_aload_n (k := 0) (by decide +kernel) rfl) ?_
  refine zt_cons (zs_gc (j := 3) (C := "CaseTree$Tree") (T := zT_Tr) (N := 12) (by decide) rfl rfl (by decide) (fun w h => List.mem_cons_of_mem _ (zu_Tr w h)) ⟨rfl, rfl, rfl⟩ (List.mem_cons_of_mem _ zf_Tr_21) rfl (fun _ => rfl) (by decide +kernel)) ?_
  refine zt_cons (zs_iload_n (k := 2) (by decide +kernel) rfl) ?_
  refine zt_cons (zs_aload_n (k := 0) (by decide +kernel) rfl) ?_
  refine zt_cons (zs_gc (j := 3) (C := "CaseTree$Tree") (T := zT_Tr) (N := 12) (by decide) rfl rfl (by decide) (fun w h => List.mem_cons_of_mem _ (zu_Tr w h)) ⟨rfl, rfl, rfl⟩ (List.mem_cons_of_mem _ zf_Tr_21) rfl (fun _ => rfl) (by decide +kernel)) ?_
  refine zt_cons (zs_iload_n (k := 1) (by decide +kernel) rfl) ?_
  refine zt_cons (zs_ia (by decide +kernel)) ?_
  refine zt_cons (zs_ias (by decide +kernel)) ?_
  refine zt_cons (zs_aload_n (k := 0) (by decide +kernel) rfl) ?_
  refine zt_cons (zs_gc (j := 4) (C := "CaseTree$Tree") (T := zT_Tr) (N := 12) (by decide) rfl rfl (by decide) (fun w h => List.mem_cons_of_mem _ (zu_Tr w h)) ⟨rfl, rfl, rfl⟩ (List.mem_cons_of_mem _ zf_Tr_24) rfl (fun _ => rfl) (by decide +kernel)) ?_
  refine zt_cons (zs_iload_n (k := 1) (by decide +kernel) rfl) ?_
  refine zt_cons (zs_iconst (n := 3) (by decide +kernel) (by decide)) ?_
  refine zt_cons (zs_imul (by decide +kernel)) ?_
  refine zt_cons (zs_aload_n (k := 0) (by decide +kernel) rfl) ?_
  refine zt_cons (zs_gc (j := 4) (C := "CaseTree$Tree") (T := zT_Tr) (N := 12) (by decide) rfl rfl (by decide) (fun w h => List.mem_cons_of_mem _ (zu_Tr w h)) ⟨rfl, rfl, rfl⟩ (List.mem_cons_of_mem _ zf_Tr_24) rfl (fun _ => rfl) (by decide +kernel)) ?_
  refine zt_cons (zs_iload_n (k := 2) (by decide +kernel) rfl) ?_
  refine zt_cons (zs_iconst (n := 3) (by decide +kernel) (by decide)) ?_
  refine zt_cons (zs_imul (by decide +kernel)) ?_
  refine zt_cons (zs_iconst (n := 3) (by decide +kernel) (by decide)) ?_
  refine zt_cons (zs_cpy (x := 72) (List.mem_cons_of_mem _ zl_Tr_72) (List.mem_cons_of_mem _ zl_native) (List.mem_cons_of_mem _ zl_static) (List.mem_cons_of_mem _ zl_ini_System) (by decide +kernel)) ?_
  refine zt_cons (zs_aload_n (k := 0) (by decide +kernel) rfl) ?_
  refine zt_cons (zs_gc (j := 5) (C := "CaseTree$Tree") (T := zT_Tr) (N := 12) (by decide) rfl rfl (by decide) (fun w h => List.mem_cons_of_mem _ (zu_Tr w h)) ⟨rfl, rfl, rfl⟩ (List.mem_cons_of_mem _ zf_Tr_27) rfl (fun _ => rfl) (by decide +kernel)) ?_
  refine zt_cons (zs_iload_n (k := 1) (by decide +kernel) rfl) ?_
  refine zt_cons (zs_iconst (n := 4) (by decide +kernel) (by decide)) ?_
  refine zt_cons (zs_imul (by decide +kernel)) ?_
  refine zt_cons (zs_aload_n (k := 0) (by decide +kernel) rfl) ?_
  refine zt_cons (zs_gc (j := 5) (C := "CaseTree$Tree") (T := zT_Tr) (N := 12) (by decide) rfl rfl (by decide) (fun w h => List.mem_cons_of_mem _ (zu_Tr w h)) ⟨rfl, rfl, rfl⟩ (List.mem_cons_of_mem _ zf_Tr_27) rfl (fun _ => rfl) (by decide +kernel)) ?_
  refine zt_cons (zs_iload_n (k := 2) (by decide +kernel) rfl) ?_
  refine zt_cons (zs_iconst (n := 4) (by decide +kernel) (by decide)) ?_
  refine zt_cons (zs_imul (by decide +kernel)) ?_
  refine zt_cons (zs_iconst (n := 4) (by decide +kernel) (by decide)) ?_
  refine zt_cons (zs_cpy (x := 72) (List.mem_cons_of_mem _ zl_Tr_72) (List.mem_cons_of_mem _ zl_native) (List.mem_cons_of_mem _ zl_static) (List.mem_cons_of_mem _ zl_ini_System) (by decide +kernel)) ?_
  refine zt_cons (zs_aload_n (k := 0) (by decide +kernel) rfl) ?_
  refine zt_cons (zs_gc (j := 6) (C := "CaseTree$Tree") (T := zT_Tr) (N := 12) (by decide) rfl rfl (by decide) (fun w h => List.mem_cons_of_mem _ (zu_Tr w h)) ⟨rfl, rfl, rfl⟩ (List.mem_cons_of_mem _ zf_Tr_30) rfl (fun _ => rfl) (by decide +kernel)) ?_
  refine zt_cons (zs_iload_n (k := 1) (by decide +kernel) rfl) ?_
  refine zt_cons (zs_iconst (n := 4) (by decide +kernel) (by decide)) ?_
  refine zt_cons (zs_imul (by decide +kernel)) ?_
  refine zt_cons (zs_aload_n (k := 0) (by decide +kernel) rfl) ?_
  refine zt_cons (zs_gc (j := 6) (C := "CaseTree$Tree") (T := zT_Tr) (N := 12) (by decide) rfl rfl (by decide) (fun w h => List.mem_cons_of_mem _ (zu_Tr w h)) ⟨rfl, rfl, rfl⟩ (List.mem_cons_of_mem _ zf_Tr_30) rfl (fun _ => rfl) (by decide +kernel)) ?_
  refine zt_cons (zs_iload_n (k := 2) (by decide +kernel) rfl) ?_
  refine zt_cons (zs_iconst (n := 4) (by decide +kernel) (by decide)) ?_
  refine zt_cons (zs_imul (by decide +kernel)) ?_
  refine zt_cons (zs_iconst (n := 4) (by decide +kernel) (by decide)) ?_
  refine zt_cons (zs_cpy (x := 72) (List.mem_cons_of_mem _ zl_Tr_72) (List.mem_cons_of_mem _ zl_native) (List.mem_cons_of_mem _ zl_static) (List.mem_cons_of_mem _ zl_ini_System) (by decide +kernel)) ?_
  refine zt_cons (zs_vr rfl (by decide +kernel)) ?_
  exact zt_nil
set_option maxRecDepth 20000 in
set_option maxHeartbeats 4000000 in
theorem zok_Tr_heaviestBelow {Ex : ze_G → State → Prop} : ∀ pc, ze_snd zI Ex zi_Tr_heaviestBelow pc (ze_lk t_Tr_heaviestBelow pc) := by
  refine zt_cons (zs_aload_n (k := 0) (by decide +kernel) rfl) ?_
  refine zt_cons (zs_iload_n (k := 1) (by decide +kernel) rfl) ?_
  refine zt_cons (zs_iconst (n := 0) (by decide +kernel) (by decide)) ?_
  refine zt_cons (zs_cv (n := 2) (x := 92) (C := "CaseTree$Tree") (T := zT_Tr) (N := 12) zI_66 rfl rfl (by decide) rfl zl_Tr_92 zim_Tr_below zsel_Tr_below zl_ini_Tr zc_Tr_below (by decide +kernel) (by decide) (by decide) (by decide +kernel)) ?_
  refine zt_cons (zs_istore_n (k := 2) (by decide +kernel) rfl (by decide)) ?_
  refine zt_cons (zs_iconst (n := 1) (by decide +kernel) (by decide)) ?_
  refine zt_cons (zs_istore_n (k := 3) (by decide +kernel) rfl (by decide)) ?_
  refine zt_cons (zs_iload_n (k := 3) (by decide +kernel) rfl) ?_
  refine zt_cons (zs_aload_n (k := 0) (by decide +kernel) rfl) ?_
  refine zt_cons (zs_gc (j := 2) (C := "CaseTree$Tree") (T := zT_Tr) (N := 12) (by decide) rfl rfl (by decide) (fun w h => List.mem_cons_of_mem _ (zu_Tr w h)) ⟨rfl, rfl, rfl⟩ (List.mem_cons_of_mem _ zf_Tr_18) rfl (fun _ => rfl) (by decide +kernel)) ?_
  refine zt_cons (zs_iload_n (k := 1) (by decide +kernel) rfl) ?_
  refine zt_cons (zs_ia (by decide +kernel)) ?_
  refine zt_cons (zs_cge (off := 34) (by decide +kernel) (by decide)) ?_
  refine zt_cons (zs_aload_n (k := 0) (by decide +kernel) rfl) ?_
  refine zt_cons (zs_iload_n (k := 1) (by decide +kernel) rfl) ?_
  refine zt_cons (zs_iload_n (k := 3) (by decide +kernel) rfl) ?_
  refine zt_cons (zs_cv (n := 2) (x := 92) (C := "CaseTree$Tree") (T := zT_Tr) (N := 12) zI_66 rfl rfl (by decide) rfl zl_Tr_92 zim_Tr_below zsel_Tr_below zl_ini_Tr zc_Tr_below (by decide +kernel) (by decide) (by decide) (by decide +kernel)) ?_
  refine zt_cons (zs_istore (by decide +kernel) (by decide)) ?_
  refine zt_cons (zs_aload_n (k := 0) (by decide +kernel) rfl) ?_
  refine zt_cons (zs_iload (by decide +kernel)) ?_
  refine zt_cons (zs_cv (n := 1) (x := 85) (C := "CaseTree$Tree") (T := zT_Tr) (N := 12) zI_67 rfl rfl (by decide) rfl zl_Tr_85 zim_Tr_totalWeight zsel_Tr_totalWeight zl_ini_Tr zc_Tr_totalWeight (by decide +kernel) (by decide) (by decide) (by decide +kernel)) ?_
  refine zt_cons (zs_aload_n (k := 0) (by decide +kernel) rfl) ?_
  refine zt_cons (zs_iload_n (k := 2) (by decide +kernel) rfl) ?_
  refine zt_cons (zs_cv (n := 1) (x := 85) (C := "CaseTree$Tree") (T := zT_Tr) (N := 12) zI_67 rfl rfl (by decide) rfl zl_Tr_85 zim_Tr_totalWeight zsel_Tr_totalWeight zl_ini_Tr zc_Tr_totalWeight (by decide +kernel) (by decide) (by decide) (by decide +kernel)) ?_
  refine zt_cons (zs_cle (off := 6) (by decide +kernel) (by decide)) ?_
  refine zt_cons (zs_iload (by decide +kernel)) ?_
  refine zt_cons (zs_istore_n (k := 2) (by decide +kernel) rfl (by decide)) ?_
  refine zt_cons (zs_iinc (n := 1) (by decide +kernel) (by decide) (by decide)) ?_
  refine zt_cons (zs_goto (off := -38) (by decide +kernel) (by decide)) ?_
  refine zt_cons (zs_iload_n (k := 2) (by decide +kernel) rfl) ?_
  refine zt_cons (zs_ir rfl (by decide +kernel)) ?_
  exact zt_nil
set_option maxRecDepth 20000 in
set_option maxHeartbeats 4000000 in
theorem zok_Tr_numberNodes {Ex : ze_G → State → Prop} : ∀ pc, ze_snd zI Ex zi_Tr_numberNodes pc (ze_lk t_Tr_numberNodes pc) := by
  refine zt_cons (zs_aload_n (k := 0) (by decide +kernel) rfl) ?_
  refine zt_cons (zs_iconst (n := 0) (by decide +kernel) (by decide)) ?_
  refine zt_cons (zs_pi (C := "CaseTree$Tree") (T := zT_Tr) (N := 12) (by decide) rfl rfl (by decide) (fun w h => List.mem_cons_of_mem _ (zu_Tr w h)) zy_Tr_ok zn_Tr ⟨rfl, rfl, rfl, rfl⟩ (by decide +kernel) (List.mem_cons_of_mem _ zf_Tr_43) rfl (by decide +kernel)) ?_
  refine zt_cons (zs_aload_n (k := 0) (by decide +kernel) rfl) ?_
  refine zt_cons (zs_iconst (n := 0) (by decide +kernel) (by decide)) ?_
  refine zt_cons (zs_iconst (n := 0) (by decide +kernel) (by decide)) ?_
  refine zt_cons (zs_cv (n := 2) (x := 96) (C := "CaseTree$Tree") (T := zT_Tr) (N := 12) zI_76 rfl rfl (by decide) rfl zl_Tr_96 zim_Tr_numberFrom zsel_Tr_numberFrom zl_ini_Tr zc_Tr_numberFrom (by decide +kernel) (by decide) (by decide) (by decide +kernel)) ?_
  refine zt_cons (zs_vr rfl (by decide +kernel)) ?_
  exact zt_nil
set_option maxRecDepth 20000 in
set_option maxHeartbeats 4000000 in
theorem zok_Tr_numberFrom {Ex : ze_G → State → Prop} : ∀ pc, ze_snd zI Ex zi_Tr_numberFrom pc (ze_lk t_Tr_numberFrom pc) := by
  refine zt_cons (zs_aload_n (k := 0) (by decide +kernel) rfl) ?_
  refine zt_cons (zs_gc (j := 7) (C := "CaseTree$Tree") (T := zT_Tr) (N := 12) (by decide) rfl rfl (by decide) (fun w h => List.mem_cons_of_mem _ (zu_Tr w h)) ⟨rfl, rfl, rfl⟩ (List.mem_cons_of_mem _ zf_Tr_33) rfl (fun _ => rfl) (by decide +kernel)) ?_
  refine zt_cons (zs_aload_n (k := 0) (by decide +kernel) rfl) ?_
  refine zt_cons (zs_gi (C := "CaseTree$Tree") (T := zT_Tr) (N := 12) (by decide) rfl rfl (by decide) (fun w h => List.mem_cons_of_mem _ (zu_Tr w h)) ⟨rfl, rfl, rfl⟩ (List.mem_cons_of_mem _ zf_Tr_43) rfl (by decide +kernel)) ?_
  refine zt_cons (zs_iload_n (k := 1) (by decide +kernel) rfl) ?_
  refine zt_cons (zs_ias (by decide +kernel)) ?_
  refine zt_cons (zs_aload_n (k := 0) (by decide +kernel) rfl) ?_
  refine zt_cons (zs_gc (j := 8) (C := "CaseTree$Tree") (T := zT_Tr) (N := 12) (by decide) rfl rfl (by decide) (fun w h => List.mem_cons_of_mem _ (zu_Tr w h)) ⟨rfl, rfl, rfl⟩ (List.mem_cons_of_mem _ zf_Tr_36) rfl (fun _ => rfl) (by decide +kernel)) ?_
  refine zt_cons (zs_iload_n (k := 1) (by decide +kernel) rfl) ?_
  refine zt_cons (zs_aload_n (k := 0) (by decide +kernel) rfl) ?_
  refine zt_cons (zs_gi (C := "CaseTree$Tree") (T := zT_Tr) (N := 12) (by decide) rfl rfl (by decide) (fun w h => List.mem_cons_of_mem _ (zu_Tr w h)) ⟨rfl, rfl, rfl⟩ (List.mem_cons_of_mem _ zf_Tr_43) rfl (by decide +kernel)) ?_
  refine zt_cons (zs_ias (by decide +kernel)) ?_
  refine zt_cons (zs_aload_n (k := 0) (by decide +kernel) rfl) ?_
  refine zt_cons (zs_dup (by decide +kernel)) ?_
  refine zt_cons (zs_gi (C := "CaseTree$Tree") (T := zT_Tr) (N := 12) (by decide) rfl rfl (by decide) (fun w h => List.mem_cons_of_mem _ (zu_Tr w h)) ⟨rfl, rfl, rfl⟩ (List.mem_cons_of_mem _ zf_Tr_43) rfl (by decide +kernel)) ?_
  refine zt_cons (zs_iconst (n := 1) (by decide +kernel) (by decide)) ?_
  refine zt_cons (zs_iadd (by decide +kernel)) ?_
  refine zt_cons (zs_pi (C := "CaseTree$Tree") (T := zT_Tr) (N := 12) (by decide) rfl rfl (by decide) (fun w h => List.mem_cons_of_mem _ (zu_Tr w h)) zy_Tr_ok zn_Tr ⟨rfl, rfl, rfl, rfl⟩ (by decide +kernel) (List.mem_cons_of_mem _ zf_Tr_43) rfl (by decide +kernel)) ?_
  refine zt_cons (zs_iload_n (k := 2) (by decide +kernel) rfl) ?_
  refine zt_cons (zs_iconst (n := 3) (by decide +kernel) (by decide)) ?_
  refine zt_cons (zs_clt (off := 4) (by decide +kernel) (by decide)) ?_
  refine zt_cons (zs_vr rfl (by decide +kernel)) ?_
  refine zt_cons (zs_iconst (n := 0) (by decide +kernel) (by decide)) ?_
  refine zt_cons (zs_istore_n (k := 3) (by decide +kernel) rfl (by decide)) ?_
  refine zt_cons (zs_iload_n (k := 3) (by decide +kernel) rfl) ?_
  refine zt_cons (zs_aload_n (k := 0) (by decide +kernel) rfl) ?_
  refine zt_cons (zs_gc (j := 2) (C := "CaseTree$Tree") (T := zT_Tr) (N := 12) (by decide) rfl rfl (by decide) (fun w h => List.mem_cons_of_mem _ (zu_Tr w h)) ⟨rfl, rfl, rfl⟩ (List.mem_cons_of_mem _ zf_Tr_18) rfl (fun _ => rfl) (by decide +kernel)) ?_
  refine zt_cons (zs_iload_n (k := 1) (by decide +kernel) rfl) ?_
  refine zt_cons (zs_ia (by decide +kernel)) ?_
  refine zt_cons (zs_cge (off := 22) (by decide +kernel) (by decide)) ?_
  refine zt_cons (zs_aload_n (k := 0) (by decide +kernel) rfl) ?_
  refine zt_cons (zs_aload_n (k := 0) (by decide +kernel) rfl) ?_
  refine zt_cons (zs_iload_n (k := 1) (by decide +kernel) rfl) ?_
  refine zt_cons (zs_iload_n (k := 3) (by decide +kernel) rfl) ?_
  refine zt_cons (zs_cv (n := 2) (x := 92) (C := "CaseTree$Tree") (T := zT_Tr) (N := 12) zI_66 rfl rfl (by decide) rfl zl_Tr_92 zim_Tr_below zsel_Tr_below zl_ini_Tr zc_Tr_below (by decide +kernel) (by decide) (by decide) (by decide +kernel)) ?_
  refine zt_cons (zs_iload_n (k := 2) (by decide +kernel) rfl) ?_
  refine zt_cons (zs_iconst (n := 1) (by decide +kernel) (by decide)) ?_
  refine zt_cons (zs_iadd (by decide +kernel)) ?_
  refine zt_cons (zs_cv (n := 2) (x := 96) (C := "CaseTree$Tree") (T := zT_Tr) (N := 12) zI_76 rfl rfl (by decide) rfl zl_Tr_96 zim_Tr_numberFrom zsel_Tr_numberFrom zl_ini_Tr zc_Tr_numberFrom (by decide +kernel) (by decide) (by decide) (by decide +kernel)) ?_
  refine zt_cons (zs_iinc (n := 1) (by decide +kernel) (by decide) (by decide)) ?_
  refine zt_cons (zs_goto (off := -26) (by decide +kernel) (by decide)) ?_
  refine zt_cons (zs_vr rfl (by decide +kernel)) ?_
  exact zt_nil
set_option maxRecDepth 20000 in
set_option maxHeartbeats 4000000 in
theorem zok_M_logOf {Ex : ze_G → State → Prop} : ∀ pc, ze_snd zI Ex zi_M_logOf pc (ze_lk t_M_logOf pc) := by
  refine zt_cons (zs_iconst (n := 0) (by decide +kernel) (by decide)) ?_
  refine zt_cons (zs_istore_n (k := 1) (by decide +kernel) rfl (by decide)) ?_
  refine zt_cons (zs_iload_n (k := 0) (by decide +kernel) rfl) ?_
  refine zt_cons (zs_iload_n (k := 1) (by decide +kernel) rfl) ?_
  refine zt_cons (zs_iconst (n := 1) (by decide +kernel) (by decide)) ?_
  refine zt_cons (zs_iadd (by decide +kernel)) ?_
  refine zt_cons (zs_ishr (by decide +kernel)) ?_
  refine zt_cons (zs_ifle (off := 9) (by decide +kernel) (by decide)) ?_
  refine zt_cons (zs_iinc (n := 1) (by decide +kernel) (by decide) (by decide)) ?_
  refine zt_cons (zs_goto (off := -11) (by decide +kernel) (by decide)) ?_
  refine zt_cons (zs_iload_n (k := 1) (by decide +kernel) rfl) ?_
  refine zt_cons (zs_bipush (n := 14) (by decide +kernel) (by decide)) ?_
  refine zt_cons (zs_cgt (off := 12) (by decide +kernel) (by decide)) ?_
  refine zt_cons (zs_iload_n (k := 0) (by decide +kernel) rfl) ?_
  refine zt_cons (zs_bipush (n := 14) (by decide +kernel) (by decide)) ?_
  refine zt_cons (zs_iload_n (k := 1) (by decide +kernel) rfl) ?_
  refine zt_cons (zs_isub (by decide +kernel)) ?_
  refine zt_cons (zs_ishl (by decide +kernel)) ?_
  refine zt_cons (zs_goto (off := 9) (by decide +kernel) (by decide)) ?_
  refine zt_cons (zs_iload_n (k := 0) (by decide +kernel) rfl) ?_
  refine zt_cons (zs_iload_n (k := 1) (by decide +kernel) rfl) ?_
  refine zt_cons (zs_bipush (n := 14) (by decide +kernel) (by decide)) ?_
  refine zt_cons (zs_isub (by decide +kernel)) ?_
  refine zt_cons (zs_ishr (by decide +kernel)) ?_
  refine zt_cons (zs_istore_n (k := 2) (by decide +kernel) rfl (by decide)) ?_
  refine zt_cons (zs_iload_n (k := 1) (by decide +kernel) rfl) ?_
  refine zt_cons (zs_istore_n (k := 3) (by decide +kernel) rfl (by decide)) ?_
  refine zt_cons (zs_iconst (n := 0) (by decide +kernel) (by decide)) ?_
  refine zt_cons (zs_istore (by decide +kernel) (by decide)) ?_
  refine zt_cons (zs_iload (by decide +kernel)) ?_
  refine zt_cons (zs_bipush (n := 8) (by decide +kernel) (by decide)) ?_
  refine zt_cons (zs_cge (off := 33) (by decide +kernel) (by decide)) ?_
  refine zt_cons (zs_iload_n (k := 2) (by decide +kernel) rfl) ?_
  refine zt_cons (zs_iload_n (k := 2) (by decide +kernel) rfl) ?_
  refine zt_cons (zs_imul (by decide +kernel)) ?_
  refine zt_cons (zs_bipush (n := 14) (by decide +kernel) (by decide)) ?_
  refine zt_cons (zs_ishr (by decide +kernel)) ?_
  refine zt_cons (zs_istore_n (k := 2) (by decide +kernel) rfl (by decide)) ?_
  refine zt_cons (zs_iconst (n := 2) (by decide +kernel) (by decide)) ?_
  refine zt_cons (zs_iload_n (k := 3) (by decide +kernel) rfl) ?_
  refine zt_cons (zs_imul (by decide +kernel)) ?_
  refine zt_cons (zs_istore_n (k := 3) (by decide +kernel) rfl (by decide)) ?_
  refine zt_cons (zs_iload_n (k := 2) (by decide +kernel) rfl) ?_
  refine zt_cons (zs_ldc (List.mem_cons_of_mem _ zk_M_64) (by decide +kernel)) ?_
  refine zt_cons (zs_clt (off := 10) (by decide +kernel) (by decide)) ?_
  refine zt_cons (zs_iload_n (k := 2) (by decide +kernel) rfl) ?_
  refine zt_cons (zs_iconst (n := 1) (by decide +kernel) (by decide)) ?_
  refine zt_cons (zs_ishr (by decide +kernel)) ?_
  refine zt_cons (zs_istore_n (k := 2) (by decide +kernel) rfl (by decide)) ?_
  refine zt_cons (zs_iinc (n := 1) (by decide +kernel) (by decide) (by decide)) ?_
  refine zt_cons (zs_iinc (n := 1) (by decide +kernel) (by decide) (by decide)) ?_
  refine zt_cons (zs_goto (off := -34) (by decide +kernel) (by decide)) ?_
  refine zt_cons (zs_iload_n (k := 3) (by decide +kernel) rfl) ?_
  refine zt_cons (zs_ir rfl (by decide +kernel)) ?_
  exact zt_nil
set_option maxRecDepth 20000 in
set_option maxHeartbeats 4000000 in
theorem zok_M_term {Ex : ze_G → State → Prop} : ∀ pc, ze_snd zI Ex zi_M_term pc (ze_lk t_M_term pc) := by
  refine zt_cons (zs_iload_n (k := 0) (by decide +kernel) rfl) ?_
  refine zt_cons (zs_ifle (off := 19) (by decide +kernel) (by decide)) ?_
  refine zt_cons (zs_iload_n (k := 0) (by decide +kernel) rfl) ?_
  refine zt_cons (zs_i2l (by decide +kernel)) ?_
  refine zt_cons (zs_iload_n (k := 1) (by decide +kernel) rfl) ?_
  refine zt_cons (zs_cs (x := 65) zI_77 rfl rfl zl_M_65 zs_static_M_logOf zl_ini_M zc_M_logOf (by decide +kernel) (by decide) (by decide) (by decide +kernel)) ?_
  refine zt_cons (zs_iload_n (k := 0) (by decide +kernel) rfl) ?_
  refine zt_cons (zs_cs (x := 65) zI_77 rfl rfl zl_M_65 zs_static_M_logOf zl_ini_M zc_M_logOf (by decide +kernel) (by decide) (by decide) (by decide +kernel)) ?_
  refine zt_cons (zs_isub (by decide +kernel)) ?_
  refine zt_cons (zs_i2l (by decide +kernel)) ?_
  refine zt_cons (zs_lmul (by decide +kernel)) ?_
  refine zt_cons (zs_goto (off := 4) (by decide +kernel) (by decide)) ?_
  refine zt_cons (zs_lconst (n := 0) (by decide +kernel) (by decide)) ?_
  refine zt_cons (zs_lr rfl (by decide +kernel)) ?_
  exact zt_nil
set_option maxRecDepth 20000 in
set_option maxHeartbeats 4000000 in
theorem zok_M_information {Ex : ze_G → State → Prop} : ∀ pc, ze_snd zI Ex zi_M_information pc (ze_lk t_M_information pc) := by
  refine zt_cons (zs_iload_n (k := 0) (by decide +kernel) rfl) ?_
  refine zt_cons (zs_iload_n (k := 1) (by decide +kernel) rfl) ?_
  refine zt_cons (zs_iadd (by decide +kernel)) ?_
  refine zt_cons (zs_iload_n (k := 2) (by decide +kernel) rfl) ?_
  refine zt_cons (zs_iadd (by decide +kernel)) ?_
  refine zt_cons (zs_iload_n (k := 3) (by decide +kernel) rfl) ?_
  refine zt_cons (zs_iadd (by decide +kernel)) ?_
  refine zt_cons (zs_iload (by decide +kernel)) ?_
  refine zt_cons (zs_iadd (by decide +kernel)) ?_
  refine zt_cons (zs_istore (by decide +kernel) (by decide)) ?_
  refine zt_cons (zs_iload_n (k := 0) (by decide +kernel) rfl) ?_
  refine zt_cons (zs_iload (by decide +kernel)) ?_
  refine zt_cons (zs_cs (x := 69) zI_78 rfl rfl zl_M_69 zs_static_M_term zl_ini_M zc_M_term (by decide +kernel) (by decide) (by decide) (by decide +kernel)) ?_
  refine zt_cons (zs_iload_n (k := 1) (by decide +kernel) rfl) ?_
  refine zt_cons (zs_iload (by decide +kernel)) ?_
  refine zt_cons (zs_cs (x := 69) zI_78 rfl rfl zl_M_69 zs_static_M_term zl_ini_M zc_M_term (by decide +kernel) (by decide) (by decide) (by decide +kernel)) ?_
  refine zt_cons (zs_ladd (by decide +kernel)) ?_
  refine zt_cons (zs_iload_n (k := 2) (by decide +kernel) rfl) ?_
  refine zt_cons (zs_iload (by decide +kernel)) ?_
  refine zt_cons (zs_cs (x := 69) zI_78 rfl rfl zl_M_69 zs_static_M_term zl_ini_M zc_M_term (by decide +kernel) (by decide) (by decide) (by decide +kernel)) ?_
  refine zt_cons (zs_ladd (by decide +kernel)) ?_
  refine zt_cons (zs_iload_n (k := 3) (by decide +kernel) rfl) ?_
  refine zt_cons (zs_iload (by decide +kernel)) ?_
  refine zt_cons (zs_cs (x := 69) zI_78 rfl rfl zl_M_69 zs_static_M_term zl_ini_M zc_M_term (by decide +kernel) (by decide) (by decide) (by decide +kernel)) ?_
  refine zt_cons (zs_ladd (by decide +kernel)) ?_
  refine zt_cons (zs_iload (by decide +kernel)) ?_
  refine zt_cons (zs_iload (by decide +kernel)) ?_
  refine zt_cons (zs_cs (x := 69) zI_78 rfl rfl zl_M_69 zs_static_M_term zl_ini_M zc_M_term (by decide +kernel) (by decide) (by decide) (by decide +kernel)) ?_
  refine zt_cons (zs_ladd (by decide +kernel)) ?_
  refine zt_cons (zs_lr rfl (by decide +kernel)) ?_
  exact zt_nil
