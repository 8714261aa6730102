set_option maxRecDepth 20000 in
set_option maxHeartbeats 4000000 in
theorem zok_C_logarithm {Ex : ze_G → State → Prop} : ∀ pc, ze_snd zI Ex zi_C_logarithm pc (ze_lk t_C_logarithm pc) := by
  refine zt_cons (zs_iconst (n := 0) (by decide +kernel) (by decide)) ?_
  refine zt_cons (zs_istore_n (k := 1) (by decide +kernel) rfl (by decide)) ?_
  refine zt_cons (zs_iconst (n := 1) (by decide +kernel) (by decide)) ?_
  refine zt_cons (zs_istore_n (k := 2) (by decide +kernel) rfl (by decide)) ?_
  refine zt_cons (zs_iload_n (k := 2) (by decide +kernel) rfl) ?_
  refine zt_cons (zs_bipush (n := 14) (by decide +kernel) (by decide)) ?_
  refine zt_cons (zs_cgt (off := 17) (by decide +kernel) (by decide)) ?_
  refine zt_cons (zs_iload_n (k := 0) (by decide +kernel) rfl) ?_
  refine zt_cons (zs_iload_n (k := 2) (by decide +kernel) rfl) ?_
  refine zt_cons (zs_ishr (by decide +kernel)) ?_
  refine zt_cons (zs_ifle (off := 5) (by decide +kernel) (by decide)) ?_
  refine zt_cons (zs_iload_n (k := 2) (by decide +kernel) rfl) ?_
  refine zt_cons (zs_istore_n (k := 1) (by decide +kernel) rfl (by decide)) ?_
  refine zt_cons (zs_iinc (n := 1) (by decide +kernel) (by decide) (by decide)) ?_
  refine zt_cons (zs_goto (off := -17) (by decide +kernel) (by decide)) ?_
  refine zt_cons (zs_iload_n (k := 0) (by decide +kernel) rfl) ?_
  refine zt_cons (zs_bipush (n := 14) (by decide +kernel) (by decide)) ?_
  refine zt_cons (zs_iload_n (k := 1) (by decide +kernel) rfl) ?_
  refine zt_cons (zs_isub (by decide +kernel)) ?_
  refine zt_cons (zs_ishl (by decide +kernel)) ?_
  refine zt_cons (zs_istore_n (k := 2) (by decide +kernel) rfl (by decide)) ?_
  refine zt_cons (zs_iload_n (k := 1) (by decide +kernel) rfl) ?_
  refine zt_cons (zs_istore_n (k := 3) (by decide +kernel) rfl (by decide)) ?_
  refine zt_cons (zs_iconst (n := 0) (by decide +kernel) (by decide)) ?_
  refine zt_cons (zs_istore (by decide +kernel) (by decide)) ?_
  refine zt_cons (zs_iload (by decide +kernel)) ?_
  refine zt_cons (zs_bipush (n := 8) (by decide +kernel) (by decide)) ?_
  refine zt_cons (zs_cge (off := 36) (by decide +kernel) (by decide)) ?_
  refine zt_cons (zs_iload_n (k := 2) (by decide +kernel) rfl) ?_
  refine zt_cons (zs_iload_n (k := 2) (by decide +kernel) rfl) ?_
  refine zt_cons (zs_imul (by decide +kernel)) ?_
  refine zt_cons (zs_bipush (n := 14) (by decide +kernel) (by decide)) ?_
  refine zt_cons (zs_ishr (by decide +kernel)) ?_
  refine zt_cons (zs_istore_n (k := 2) (by decide +kernel) rfl (by decide)) ?_
  refine zt_cons (zs_iconst (n := 2) (by decide +kernel) (by decide)) ?_
  refine zt_cons (zs_iload_n (k := 3) (by decide +kernel) rfl) ?_
  refine zt_cons (zs_imul (by decide +kernel)) ?_
  refine zt_cons (zs_istore_n (k := 3) (by decide +kernel) rfl (by decide)) ?_
  refine zt_cons (zs_iload_n (k := 2) (by decide +kernel) rfl) ?_
  refine zt_cons (zs_bipush (n := 14) (by decide +kernel) (by decide)) ?_
  refine zt_cons (zs_ishr (by decide +kernel)) ?_
  refine zt_cons (zs_iconst (n := 2) (by decide +kernel) (by decide)) ?_
  refine zt_cons (zs_clt (off := 11) (by decide +kernel) (by decide)) ?_
  refine zt_cons (zs_iload_n (k := 2) (by decide +kernel) rfl) ?_
  refine zt_cons (zs_iconst (n := 1) (by decide +kernel) (by decide)) ?_
  refine zt_cons (zs_ishr (by decide +kernel)) ?_
  refine zt_cons (zs_istore_n (k := 2) (by decide +kernel) rfl (by decide)) ?_
  refine zt_cons (zs_iload_n (k := 3) (by decide +kernel) rfl) ?_
  refine zt_cons (zs_iconst (n := 1) (by decide +kernel) (by decide)) ?_
  refine zt_cons (zs_iadd (by decide +kernel)) ?_
  refine zt_cons (zs_istore_n (k := 3) (by decide +kernel) rfl (by decide)) ?_
  refine zt_cons (zs_iinc (n := 1) (by decide +kernel) (by decide) (by decide)) ?_
  refine zt_cons (zs_goto (off := -37) (by decide +kernel) (by decide)) ?_
  refine zt_cons (zs_iload_n (k := 3) (by decide +kernel) rfl) ?_
  refine zt_cons (zs_ir rfl (by decide +kernel)) ?_
  exact zt_nil
set_option maxRecDepth 20000 in
set_option maxHeartbeats 4000000 in
theorem zok_C_information {Ex : ze_G → State → Prop} : ∀ pc, ze_snd zI Ex zi_C_information pc (ze_lk t_C_information pc) := by
  refine zt_cons (zs_aload_n (k := 0) (by decide +kernel) rfl) ?_
  refine zt_cons (zs_iload_n (k := 1) (by decide +kernel) rfl) ?_
  refine zt_cons (zs_iload_n (k := 2) (by decide +kernel) rfl) ?_
  refine zt_cons (zs_cs (x := 201) zI_26 rfl rfl zl_C_201 zs_static_C_sum zl_ini_C zc_C_sum (by decide +kernel) (by decide) (by decide) (by decide +kernel)) ?_
  refine zt_cons (zs_istore_n (k := 3) (by decide +kernel) rfl (by decide)) ?_
  refine zt_cons (zs_iload_n (k := 3) (by decide +kernel) rfl) ?_
  refine zt_cons (zs_ifne (off := 5) (by decide +kernel) (by decide)) ?_
  refine zt_cons (zs_lconst (n := 0) (by decide +kernel) (by decide)) ?_
  refine zt_cons (zs_lr rfl (by decide +kernel)) ?_
  refine zt_cons (zs_iload_n (k := 3) (by decide +kernel) rfl) ?_
  refine zt_cons (zs_cs (x := 183) zI_24 rfl rfl zl_C_183 zs_static_C_logarithm zl_ini_C zc_C_logarithm (by decide +kernel) (by decide) (by decide) (by decide +kernel)) ?_
  refine zt_cons (zs_istore (by decide +kernel) (by decide)) ?_
  refine zt_cons (zs_lconst (n := 0) (by decide +kernel) (by decide)) ?_
  refine zt_cons (zs_lstore (by decide +kernel) (by decide)) ?_
  refine zt_cons (zs_iload_n (k := 1) (by decide +kernel) rfl) ?_
  refine zt_cons (zs_istore (by decide +kernel) (by decide)) ?_
  refine zt_cons (zs_iload (by decide +kernel)) ?_
  refine zt_cons (zs_iload_n (k := 1) (by decide +kernel) rfl) ?_
  refine zt_cons (zs_iload_n (k := 2) (by decide +kernel) rfl) ?_
  refine zt_cons (zs_iadd (by decide +kernel)) ?_
  refine zt_cons (zs_cge (off := 38) (by decide +kernel) (by decide)) ?_
  refine zt_cons (zs_aload_n (k := 0) (by decide +kernel) rfl) ?_
  refine zt_cons (zs_iload (by decide +kernel)) ?_
  refine zt_cons (zs_ia (by decide +kernel)) ?_
  refine zt_cons (zs_ifle (off := 25) (by decide +kernel) (by decide)) ?_
  refine zt_cons (zs_lload (by decide +kernel)) ?_
  refine zt_cons (zs_aload_n (k := 0) (by decide +kernel) rfl) ?_
  refine zt_cons (zs_iload (by decide +kernel)) ?_
  refine zt_cons (zs_ia (by decide +kernel)) ?_
  refine zt_cons (zs_i2l (by decide +kernel)) ?_
  refine zt_cons (zs_iload (by decide +kernel)) ?_
  refine zt_cons (zs_aload_n (k := 0) (by decide +kernel) rfl) ?_
  refine zt_cons (zs_iload (by decide +kernel)) ?_
  refine zt_cons (zs_ia (by decide +kernel)) ?_
  refine zt_cons (zs_cs (x := 183) zI_24 rfl rfl zl_C_183 zs_static_C_logarithm zl_ini_C zc_C_logarithm (by decide +kernel) (by decide) (by decide) (by decide +kernel)) ?_
  refine zt_cons (zs_isub (by decide +kernel)) ?_
  refine zt_cons (zs_i2l (by decide +kernel)) ?_
  refine zt_cons (zs_lmul (by decide +kernel)) ?_
  refine zt_cons (zs_ladd (by decide +kernel)) ?_
  refine zt_cons (zs_lstore (by decide +kernel) (by decide)) ?_
  refine zt_cons (zs_iinc (n := 1) (by decide +kernel) (by decide) (by decide)) ?_
  refine zt_cons (zs_goto (off := -40) (by decide +kernel) (by decide)) ?_
  refine zt_cons (zs_lload (by decide +kernel)) ?_
  refine zt_cons (zs_lr rfl (by decide +kernel)) ?_
  exact zt_nil
set_option maxRecDepth 20000 in
set_option maxHeartbeats 4000000 in
theorem zok_C_sum {Ex : ze_G → State → Prop} : ∀ pc, ze_snd zI Ex zi_C_sum pc (ze_lk t_C_sum pc) := by
  refine zt_cons (zs_iconst (n := 0) (by decide +kernel) (by decide)) ?_
  refine zt_cons (zs_istore_n (k := 3) (by decide +kernel) rfl (by decide)) ?_
  refine zt_cons (zs_iload_n (k := 1) (by decide +kernel) rfl) ?_
  refine zt_cons (zs_istore (by decide +kernel) (by decide)) ?_
  refine zt_cons (zs_iload (by decide +kernel)) ?_
  refine zt_cons (zs_iload_n (k := 1) (by decide +kernel) rfl) ?_
  refine zt_cons (zs_iload_n (k := 2) (by decide +kernel) rfl) ?_
  refine zt_cons (zs_iadd (by decide +kernel)) ?_
  refine zt_cons (zs_cge (off := 16) (by decide +kernel) (by decide)) ?_
  refine zt_cons (zs_iload_n (k := 3) (by decide +kernel) rfl) ?_
  refine zt_cons (zs_aload_n (k := 0) (by decide +kernel) rfl) ?_
  refine zt_cons (zs_iload (by decide +kernel)) ?_
  refine zt_cons (zs_ia (by decide +kernel)) ?_
  refine zt_cons (zs_iadd (by decide +kernel)) ?_
  refine zt_cons (zs_istore_n (k := 3) (by decide +kernel) rfl (by decide)) ?_
  refine zt_cons (zs_iinc (n := 1) (by decide +kernel) (by decide) (by decide)) ?_
  refine zt_cons (zs_goto (off := -18) (by decide +kernel) (by decide)) ?_
  refine zt_cons (zs_iload_n (k := 3) (by decide +kernel) rfl) ?_
  refine zt_cons (zs_ir rfl (by decide +kernel)) ?_
  exact zt_nil
set_option maxRecDepth 20000 in
set_option maxHeartbeats 4000000 in
theorem zok_C_firstGreatest {Ex : ze_G → State → Prop} : ∀ pc, ze_snd zI Ex zi_C_firstGreatest pc (ze_lk t_C_firstGreatest pc) := by
  refine zt_cons (zs_iconst (n := 0) (by decide +kernel) (by decide)) ?_
  refine zt_cons (zs_istore_n (k := 3) (by decide +kernel) rfl (by decide)) ?_
  refine zt_cons (zs_iconst (n := 1) (by decide +kernel) (by decide)) ?_
  refine zt_cons (zs_istore (by decide +kernel) (by decide)) ?_
  refine zt_cons (zs_iload (by decide +kernel)) ?_
  refine zt_cons (zs_iload_n (k := 2) (by decide +kernel) rfl) ?_
  refine zt_cons (zs_cge (off := 26) (by decide +kernel) (by decide)) ?_
  refine zt_cons (zs_aload_n (k := 0) (by decide +kernel) rfl) ?_
  refine zt_cons (zs_iload_n (k := 1) (by decide +kernel) rfl) ?_
  refine zt_cons (zs_iload (by decide +kernel)) ?_
  refine zt_cons (zs_iadd (by decide +kernel)) ?_
  refine zt_cons (zs_ia (by decide +kernel)) ?_
  refine zt_cons (zs_aload_n (k := 0) (by decide +kernel) rfl) ?_
  refine zt_cons (zs_iload_n (k := 1) (by decide +kernel) rfl) ?_
  refine zt_cons (zs_iload_n (k := 3) (by decide +kernel) rfl) ?_
  refine zt_cons (zs_iadd (by decide +kernel)) ?_
  refine zt_cons (zs_ia (by decide +kernel)) ?_
  refine zt_cons (zs_cle (off := 6) (by decide +kernel) (by decide)) ?_
  refine zt_cons (zs_iload (by decide +kernel)) ?_
  refine zt_cons (zs_istore_n (k := 3) (by decide +kernel) rfl (by decide)) ?_
  refine zt_cons (zs_iinc (n := 1) (by decide +kernel) (by decide) (by decide)) ?_
  refine zt_cons (zs_goto (off := -26) (by decide +kernel) (by decide)) ?_
  refine zt_cons (zs_iload_n (k := 3) (by decide +kernel) rfl) ?_
  refine zt_cons (zs_ir rfl (by decide +kernel)) ?_
  exact zt_nil
set_option maxRecDepth 20000 in
set_option maxHeartbeats 4000000 in
theorem zok_C_branchFor {Ex : ze_G → State → Prop} : ∀ pc, ze_snd zI Ex zi_C_branchFor pc (ze_lk t_C_branchFor pc) := by
  refine zt_cons (zs_iload_n (k := 1) (by decide +kernel) rfl) ?_
  refine zt_cons (zs_iconst (n := (-1)) (by decide +kernel) (by decide)) ?_
  refine zt_cons (zs_cne (off := 5) (by decide +kernel) (by decide)) ?_
  refine zt_cons (zs_iload_n (k := 0) (by decide +kernel) rfl) ?_
  refine zt_cons (zs_ir rfl (by decide +kernel)) ?_
  refine zt_cons (zs_iload_n (k := 0) (by decide +kernel) rfl) ?_
  refine zt_cons (zs_iload_n (k := 1) (by decide +kernel) rfl) ?_
  refine zt_cons (zs_cgt (off := 7) (by decide +kernel) (by decide)) ?_
  refine zt_cons (zs_iconst (n := 0) (by decide +kernel) (by decide)) ?_
  refine zt_cons (zs_goto (off := 4) (by decide +kernel) (by decide)) ?_
  refine zt_cons (zs_iconst (n := 1) (by decide +kernel) (by decide)) ?_
  refine zt_cons (zs_ir rfl (by decide +kernel)) ?_
  exact zt_nil
set_option maxRecDepth 20000 in
set_option maxHeartbeats 4000000 in
theorem zok_Cs_putAttribute {Ex : ze_G → State → Prop} : ∀ pc, ze_snd zI Ex zi_Cs_putAttribute pc (ze_lk t_Cs_putAttribute pc) := by
  refine zt_cons (zs_aload_n (k := 0) (by decide +kernel) rfl) ?_
  refine zt_cons (zs_gc (j := 0) (C := "CaseTree$Cases") (T := zT_Cs) (N := 5) (by decide) rfl rfl (by decide) (fun w h => List.mem_cons_of_mem _ (zu_Cs w h)) ⟨rfl, rfl, rfl⟩ (List.mem_cons_of_mem _ zf_Cs_9) rfl (fun _ => rfl) (by decide +kernel)) ?_
  refine zt_cons (zs_aload_n (k := 0) (by decide +kernel) rfl) ?_
  refine zt_cons (zs_gi (C := "CaseTree$Cases") (T := zT_Cs) (N := 5) (by decide) rfl rfl (by decide) (fun w h => List.mem_cons_of_mem _ (zu_Cs w h)) ⟨rfl, rfl, rfl⟩ (List.mem_cons_of_mem _ zf_Cs_21) rfl (by decide +kernel)) ?_
  refine zt_cons (zs_iload_n (k := 1) (by decide +kernel) rfl) ?_
  refine zt_cons (zs_ias (by decide +kernel)) ?_
  refine zt_cons (zs_aload_n (k := 0) (by decide +kernel) rfl) ?_
  refine zt_cons (zs_dup (by decide +kernel)) ?_
  refine zt_cons (zs_gi (C := "CaseTree$Cases") (T := zT_Cs) (N := 5) (by decide) rfl rfl (by decide) (fun w h => List.mem_cons_of_mem _ (zu_Cs w h)) ⟨rfl, rfl, rfl⟩ (List.mem_cons_of_mem _ zf_Cs_21) rfl (by decide +kernel)) ?_
  refine zt_cons (zs_iconst (n := 1) (by decide +kernel) (by decide)) ?_
  refine zt_cons (zs_iadd (by decide +kernel)) ?_
  refine zt_cons (zs_pi (C := "CaseTree$Cases") (T := zT_Cs) (N := 5) (by decide) rfl rfl (by decide) (fun w h => List.mem_cons_of_mem _ (zu_Cs w h)) zy_Cs_ok zn_Cs ⟨rfl, rfl, rfl, rfl⟩ (by decide +kernel) (List.mem_cons_of_mem _ zf_Cs_21) rfl (by decide +kernel)) ?_
  refine zt_cons (zs_aload_n (k := 0) (by decide +kernel) rfl) ?_
  refine zt_cons (zs_gi (C := "CaseTree$Cases") (T := zT_Cs) (N := 5) (by decide) rfl rfl (by decide) (fun w h => List.mem_cons_of_mem _ (zu_Cs w h)) ⟨rfl, rfl, rfl⟩ (List.mem_cons_of_mem _ zf_Cs_21) rfl (by decide +kernel)) ?_
  refine zt_cons (zs_iconst (n := 1) (by decide +kernel) (by decide)) ?_
  refine zt_cons (zs_isub (by decide +kernel)) ?_
  refine zt_cons (zs_ir rfl (by decide +kernel)) ?_
  exact zt_nil
set_option maxRecDepth 20000 in
set_option maxHeartbeats 4000000 in
theorem zok_Cs_putCase {Ex : ze_G → State → Prop} : ∀ pc, ze_snd zI Ex zi_Cs_putCase pc (ze_lk t_Cs_putCase pc) := by
  refine zt_cons (zs_aload_n (k := 0) (by decide +kernel) rfl) ?_
  refine zt_cons (zs_gc (j := 1) (C := "CaseTree$Cases") (T := zT_Cs) (N := 5) (by decide) rfl rfl (by decide) (fun w h => List.mem_cons_of_mem _ (zu_Cs w h)) ⟨rfl, rfl, rfl⟩ (List.mem_cons_of_mem _ zf_Cs_15) rfl (fun _ => rfl) (by decide +kernel)) ?_
  refine zt_cons (zs_aload_n (k := 0) (by decide +kernel) rfl) ?_
  refine zt_cons (zs_gi (C := "CaseTree$Cases") (T := zT_Cs) (N := 5) (by decide) rfl rfl (by decide) (fun w h => List.mem_cons_of_mem _ (zu_Cs w h)) ⟨rfl, rfl, rfl⟩ (List.mem_cons_of_mem _ zf_Cs_25) rfl (by decide +kernel)) ?_
  refine zt_cons (zs_iload_n (k := 1) (by decide +kernel) rfl) ?_
  refine zt_cons (zs_ias (by decide +kernel)) ?_
  refine zt_cons (zs_aload_n (k := 2) (by decide +kernel) rfl) ?_
  refine zt_cons (zs_iconst (n := 0) (by decide +kernel) (by decide)) ?_
  refine zt_cons (zs_aload_n (k := 0) (by decide +kernel) rfl) ?_
  refine zt_cons (zs_gc (j := 2) (C := "CaseTree$Cases") (T := zT_Cs) (N := 5) (by decide) rfl rfl (by decide) (fun w h => List.mem_cons_of_mem _ (zu_Cs w h)) ⟨rfl, rfl, rfl⟩ (List.mem_cons_of_mem _ zf_Cs_18) rfl (fun _ => rfl) (by decide +kernel)) ?_
  refine zt_cons (zs_aload_n (k := 0) (by decide +kernel) rfl) ?_
  refine zt_cons (zs_gi (C := "CaseTree$Cases") (T := zT_Cs) (N := 5) (by decide) rfl rfl (by decide) (fun w h => List.mem_cons_of_mem _ (zu_Cs w h)) ⟨rfl, rfl, rfl⟩ (List.mem_cons_of_mem _ zf_Cs_25) rfl (by decide +kernel)) ?_
  refine zt_cons (zs_iconst (n := 4) (by decide +kernel) (by decide)) ?_
  refine zt_cons (zs_imul (by decide +kernel)) ?_
  refine zt_cons (zs_iconst (n := 4) (by decide +kernel) (by decide)) ?_
  refine zt_cons (zs_cpy (x := 28) (List.mem_cons_of_mem _ zl_Cs_28) (List.mem_cons_of_mem _ zl_native) (List.mem_cons_of_mem _ zl_static) (List.mem_cons_of_mem _ zl_ini_System) (by decide +kernel)) ?_
  refine zt_cons (zs_aload_n (k := 0) (by decide +kernel) rfl) ?_
  refine zt_cons (zs_dup (by decide +kernel)) ?_
  refine zt_cons (zs_gi (C := "CaseTree$Cases") (T := zT_Cs) (N := 5) (by decide) rfl rfl (by decide) (fun w h => List.mem_cons_of_mem _ (zu_Cs w h)) ⟨rfl, rfl, rfl⟩ (List.mem_cons_of_mem _ zf_Cs_25) rfl (by decide +kernel)) ?_
  refine zt_cons (zs_iconst (n := 1) (by decide +kernel) (by decide)) ?_
  refine zt_cons (zs_iadd (by decide +kernel)) ?_
  refine zt_cons (zs_pi (C := "CaseTree$Cases") (T := zT_Cs) (N := 5) (by decide) rfl rfl (by decide) (fun w h => List.mem_cons_of_mem _ (zu_Cs w h)) zy_Cs_ok zn_Cs ⟨rfl, rfl, rfl, rfl⟩ (by decide +kernel) (List.mem_cons_of_mem _ zf_Cs_25) rfl (by decide +kernel)) ?_
  refine zt_cons (zs_aload_n (k := 0) (by decide +kernel) rfl) ?_
  refine zt_cons (zs_gi (C := "CaseTree$Cases") (T := zT_Cs) (N := 5) (by decide) rfl rfl (by decide) (fun w h => List.mem_cons_of_mem _ (zu_Cs w h)) ⟨rfl, rfl, rfl⟩ (List.mem_cons_of_mem _ zf_Cs_25) rfl (by decide +kernel)) ?_
  refine zt_cons (zs_iconst (n := 1) (by decide +kernel) (by decide)) ?_
  refine zt_cons (zs_isub (by decide +kernel)) ?_
  refine zt_cons (zs_ir rfl (by decide +kernel)) ?_
  exact zt_nil
set_option maxRecDepth 20000 in
set_option maxHeartbeats 4000000 in
theorem zok_Cs_copyValues {Ex : ze_G → State → Prop} : ∀ pc, ze_snd zI Ex zi_Cs_copyValues pc (ze_lk t_Cs_copyValues pc) := by
  refine zt_cons (zs_aload_n (k := 0) (by decide +kernel) rfl) ?_
  refine zt_cons (zs_gc (j := 2) (C := "CaseTree$Cases") (T := zT_Cs) (N := 5) (by decide) rfl rfl (by decide) (fun w h => List.mem_cons_of_mem _ (zu_Cs w h)) ⟨rfl, rfl, rfl⟩ (List.mem_cons_of_mem _ zf_Cs_18) rfl (fun _ => rfl) (by decide +kernel)) ?_
  refine zt_cons (zs_iload_n (k := 1) (by decide +kernel) rfl) ?_
  refine zt_cons (zs_iconst (n := 4) (by decide +kernel) (by decide)) ?_
  refine zt_cons (zs_imul (by decide +kernel)) ?_
  refine zt_cons (zs_aload_n (k := 2) (by decide +kernel) rfl) ?_
  refine zt_cons (zs_iconst (n := 0) (by decide +kernel) (by decide)) ?_
  refine zt_cons (zs_iconst (n := 4) (by decide +kernel) (by decide)) ?_
  refine zt_cons (zs_cpy (x := 28) (List.mem_cons_of_mem _ zl_Cs_28) (List.mem_cons_of_mem _ zl_native) (List.mem_cons_of_mem _ zl_static) (List.mem_cons_of_mem _ zl_ini_System) (by decide +kernel)) ?_
  refine zt_cons (zs_vr rfl (by decide +kernel)) ?_
  exact zt_nil
set_option maxRecDepth 20000 in
set_option maxHeartbeats 4000000 in
theorem zok_Cs_valueOf {Ex : ze_G → State → Prop} : ∀ pc, ze_snd zI Ex zi_Cs_valueOf pc (ze_lk t_Cs_valueOf pc) := by
  refine zt_cons (zs_aload_n (k := 0) (by decide +kernel) rfl) ?_
  refine zt_cons (zs_gc (j := 2) (C := "CaseTree$Cases") (T := zT_Cs) (N := 5) (by decide) rfl rfl (by decide) (fun w h => List.mem_cons_of_mem _ (zu_Cs w h)) ⟨rfl, rfl, rfl⟩ (List.mem_cons_of_mem _ zf_Cs_18) rfl (fun _ => rfl) (by decide +kernel)) ?_
  refine zt_cons (zs_iload_n (k := 1) (by decide +kernel) rfl) ?_
  refine zt_cons (zs_iconst (n := 4) (by decide +kernel) (by decide)) ?_
  refine zt_cons (zs_imul (by decide +kernel)) ?_
  refine zt_cons (zs_iload_n (k := 2) (by decide +kernel) rfl) ?_
  refine zt_cons (zs_iadd (by decide +kernel)) ?_
  refine zt_cons (zs_ia (by decide +kernel)) ?_
  refine zt_cons (zs_ir rfl (by decide +kernel)) ?_
  exact zt_nil
set_option maxRecDepth 20000 in
set_option maxHeartbeats 4000000 in
theorem zok_Cs_isContinuous {Ex : ze_G → State → Prop} : ∀ pc, ze_snd zI Ex zi_Cs_isContinuous pc (ze_lk t_Cs_isContinuous pc) := by
  refine zt_cons (zs_aload_n (k := 0) (by decide +kernel) rfl) ?_
  refine zt_cons (zs_gc (j := 0) (C := "CaseTree$Cases") (T := zT_Cs) (N := 5) (by decide) rfl rfl (by decide) (fun w h => List.mem_cons_of_mem _ (zu_Cs w h)) ⟨rfl, rfl, rfl⟩ (List.mem_cons_of_mem _ zf_Cs_9) rfl (fun _ => rfl) (by decide +kernel)) ?_
  refine zt_cons (zs_iload_n (k := 1) (by decide +kernel) rfl) ?_
  refine zt_cons (zs_ia (by decide +kernel)) ?_
  refine zt_cons (zs_ifne (off := 7) (by decide +kernel) (by decide)) ?_
  refine zt_cons (zs_iconst (n := 1) (by decide +kernel) (by decide)) ?_
  refine zt_cons (zs_goto (off := 4) (by decide +kernel) (by decide)) ?_
  refine zt_cons (zs_iconst (n := 0) (by decide +kernel) (by decide)) ?_
  refine zt_cons (zs_zr rfl (by decide +kernel)) ?_
  exact zt_nil
set_option maxRecDepth 20000 in
set_option maxHeartbeats 4000000 in
theorem zok_Cs_branchesOf {Ex : ze_G → State → Prop} : ∀ pc, ze_snd zI Ex zi_Cs_branchesOf pc (ze_lk t_Cs_branchesOf pc) := by
  refine zt_cons (zs_aload_n (k := 0) (by decide +kernel) rfl) ?_
  refine zt_cons (zs_iload_n (k := 1) (by decide +kernel) rfl) ?_
  refine zt_cons (zs_cv (n := 1) (x := 34) (C := "CaseTree$Cases") (T := zT_Cs) (N := 5) zI_33 rfl rfl (by decide) rfl zl_Cs_34 zim_Cs_isContinuous zsel_Cs_isContinuous zl_ini_Cs zc_Cs_isContinuous (by decide +kernel) (by decide) (by decide) (by decide +kernel)) ?_
  refine zt_cons (zs_ifeq (off := 7) (by decide +kernel) (by decide)) ?_
  refine zt_cons (zs_iconst (n := 2) (by decide +kernel) (by decide)) ?_
  refine zt_cons (zs_goto (off := 9) (by decide +kernel) (by decide)) ?_
  refine zt_cons (zs_aload_n (k := 0) (by decide +kernel) rfl) ?_
  refine zt_cons (zs_gc (j := 0) (C := "CaseTree$Cases") (T := zT_Cs) (N := 5) (by decide) rfl rfl (by decide) (fun w h => List.mem_cons_of_mem _ (zu_Cs w h)) ⟨rfl, rfl, rfl⟩ (List.mem_cons_of_mem _ zf_Cs_9) rfl (fun _ => rfl) (by decide +kernel)) ?_
  refine zt_cons (zs_iload_n (k := 1) (by decide +kernel) rfl) ?_
  refine zt_cons (zs_ia (by decide +kernel)) ?_
  refine zt_cons (zs_ir rfl (by decide +kernel)) ?_
  exact zt_nil
set_option maxRecDepth 20000 in
set_option maxHeartbeats 4000000 in
theorem zok_Cs_fits {Ex : ze_G → State → Prop} : ∀ pc, ze_snd zI Ex zi_Cs_fits pc (ze_lk t_Cs_fits pc) := by
  refine zt_cons (zs_iconst (n := 0) (by decide +kernel) (by decide)) ?_
  refine zt_cons (zs_istore_n (k := 2) (by decide +kernel) rfl (by decide)) ?_
  refine zt_cons (zs_iload_n (k := 2) (by decide +kernel) rfl) ?_
  refine zt_cons (zs_aload_n (k := 0) (by decide +kernel) rfl) ?_
  refine zt_cons (zs_gi (C := "CaseTree$Cases") (T := zT_Cs) (N := 5) (by decide) rfl rfl (by decide) (fun w h => List.mem_cons_of_mem _ (zu_Cs w h)) ⟨rfl, rfl, rfl⟩ (List.mem_cons_of_mem _ zf_Cs_21) rfl (by decide +kernel)) ?_
  refine zt_cons (zs_cge (off := 48) (by decide +kernel) (by decide)) ?_
  refine zt_cons (zs_aload_n (k := 0) (by decide +kernel) rfl) ?_
  refine zt_cons (zs_iload_n (k := 2) (by decide +kernel) rfl) ?_
  refine zt_cons (zs_cv (n := 1) (x := 34) (C := "CaseTree$Cases") (T := zT_Cs) (N := 5) zI_33 rfl rfl (by decide) rfl zl_Cs_34 zim_Cs_isContinuous zsel_Cs_isContinuous zl_ini_Cs zc_Cs_isContinuous (by decide +kernel) (by decide) (by decide) (by decide +kernel)) ?_
  refine zt_cons (zs_ifeq (off := 9) (by decide +kernel) (by decide)) ?_
  refine zt_cons (zs_sipush (n := 999) (by decide +kernel) (by decide)) ?_
  refine zt_cons (zs_goto (off := 11) (by decide +kernel) (by decide)) ?_
  refine zt_cons (zs_aload_n (k := 0) (by decide +kernel) rfl) ?_
  refine zt_cons (zs_gc (j := 0) (C := "CaseTree$Cases") (T := zT_Cs) (N := 5) (by decide) rfl rfl (by decide) (fun w h => List.mem_cons_of_mem _ (zu_Cs w h)) ⟨rfl, rfl, rfl⟩ (List.mem_cons_of_mem _ zf_Cs_9) rfl (fun _ => rfl) (by decide +kernel)) ?_
  refine zt_cons (zs_iload_n (k := 2) (by decide +kernel) rfl) ?_
  refine zt_cons (zs_ia (by decide +kernel)) ?_
  refine zt_cons (zs_iconst (n := 1) (by decide +kernel) (by decide)) ?_
  refine zt_cons (zs_isub (by decide +kernel)) ?_
  refine zt_cons (zs_istore_n (k := 3) (by decide +kernel) rfl (by decide)) ?_
  refine zt_cons (zs_aload_n (k := 1) (by decide +kernel) rfl) ?_
  refine zt_cons (zs_iload_n (k := 2) (by decide +kernel) rfl) ?_
  refine zt_cons (zs_ia (by decide +kernel)) ?_
  refine zt_cons (zs_iconst (n := (-1)) (by decide +kernel) (by decide)) ?_
  refine zt_cons (zs_clt (off := 10) (by decide +kernel) (by decide)) ?_
  refine zt_cons (zs_aload_n (k := 1) (by decide +kernel) rfl) ?_
  refine zt_cons (zs_iload_n (k := 2) (by decide +kernel) rfl) ?_
  refine zt_cons (zs_ia (by decide +kernel)) ?_
  refine zt_cons (zs_iload_n (k := 3) (by decide +kernel) rfl) ?_
  refine zt_cons (zs_cle (off := 5) (by decide +kernel) (by decide)) ?_
  refine zt_cons (zs_iconst (n := 0) (by decide +kernel) (by decide)) ?_
  refine zt_cons (zs_zr rfl (by decide +kernel)) ?_
  refine zt_cons (zs_iinc (n := 1) (by decide +kernel) (by decide) (by decide)) ?_
  refine zt_cons (zs_goto (off := -50) (by decide +kernel) (by decide)) ?_
  refine zt_cons (zs_iconst (n := 1) (by decide +kernel) (by decide)) ?_
  refine zt_cons (zs_zr rfl (by decide +kernel)) ?_
  exact zt_nil
set_option maxRecDepth 20000 in
set_option maxHeartbeats 4000000 in
theorem zok_Cs_nextValue {Ex : ze_G → State → Prop} : ∀ pc, ze_snd zI Ex zi_Cs_nextValue pc (ze_lk t_Cs_nextValue pc) := by
  refine zt_cons (zs_iconst (n := (-1)) (by decide +kernel) (by decide)) ?_
  refine zt_cons (zs_istore (by decide +kernel) (by decide)) ?_
  refine zt_cons (zs_iconst (n := 0) (by decide +kernel) (by decide)) ?_
  refine zt_cons (zs_istore (by decide +kernel) (by decide)) ?_
  refine zt_cons (zs_iload (by decide +kernel)) ?_
  refine zt_cons (zs_aload_n (k := 0) (by decide +kernel) rfl) ?_
  refine zt_cons (zs_gi (C := "CaseTree$Cases") (T := zT_Cs) (N := 5) (by decide) rfl rfl (by decide) (fun w h => List.mem_cons_of_mem _ (zu_Cs w h)) ⟨rfl, rfl, rfl⟩ (List.mem_cons_of_mem _ zf_Cs_25) rfl (by decide +kernel)) ?_
  refine zt_cons (zs_cge (off := 48) (by decide +kernel) (by decide)) ?_
  refine zt_cons (zs_aload_n (k := 0) (by decide +kernel) rfl) ?_
  refine zt_cons (zs_iload (by decide +kernel)) ?_
  refine zt_cons (zs_iload_n (k := 1) (by decide +kernel) rfl) ?_
  refine zt_cons (zs_cv (n := 2) (x := 38) (C := "CaseTree$Cases") (T := zT_Cs) (N := 5) zI_32 rfl rfl (by decide) rfl zl_Cs_38 zim_Cs_valueOf zsel_Cs_valueOf zl_ini_Cs zc_Cs_valueOf (by decide +kernel) (by decide) (by decide) (by decide +kernel)) ?_
  refine zt_cons (zs_istore (by decide +kernel) (by decide)) ?_
  refine zt_cons (zs_aload_n (k := 2) (by decide +kernel) rfl) ?_
  refine zt_cons (zs_iload (by decide +kernel)) ?_
  refine zt_cons (zs_ia (by decide +kernel)) ?_
  refine zt_cons (zs_ifle (off := 26) (by decide +kernel) (by decide)) ?_
  refine zt_cons (zs_iload (by decide +kernel)) ?_
  refine zt_cons (zs_iload_n (k := 3) (by decide +kernel) rfl) ?_
  refine zt_cons (zs_cle (off := 20) (by decide +kernel) (by decide)) ?_
  refine zt_cons (zs_iload (by decide +kernel)) ?_
  refine zt_cons (zs_iconst (n := (-1)) (by decide +kernel) (by decide)) ?_
  refine zt_cons (zs_ceq (off := 10) (by decide +kernel) (by decide)) ?_
  refine zt_cons (zs_iload (by decide +kernel)) ?_
  refine zt_cons (zs_iload (by decide +kernel)) ?_
  refine zt_cons (zs_cge (off := 7) (by decide +kernel) (by decide)) ?_
  refine zt_cons (zs_iload (by decide +kernel)) ?_
  refine zt_cons (zs_istore (by decide +kernel) (by decide)) ?_
  refine zt_cons (zs_iinc (n := 1) (by decide +kernel) (by decide) (by decide)) ?_
  refine zt_cons (zs_goto (off := -51) (by decide +kernel) (by decide)) ?_
  refine zt_cons (zs_iload (by decide +kernel)) ?_
  refine zt_cons (zs_ir rfl (by decide +kernel)) ?_
  exact zt_nil
set_option maxRecDepth 20000 in
set_option maxHeartbeats 4000000 in
theorem zok_Cs_valueUpTo {Ex : ze_G → State → Prop} : ∀ pc, ze_snd zI Ex zi_Cs_valueUpTo pc (ze_lk t_Cs_valueUpTo pc) := by
  refine zt_cons (zs_iconst (n := (-1)) (by decide +kernel) (by decide)) ?_
  refine zt_cons (zs_istore_n (k := 3) (by decide +kernel) rfl (by decide)) ?_
  refine zt_cons (zs_iconst (n := 0) (by decide +kernel) (by decide)) ?_
  refine zt_cons (zs_istore (by decide +kernel) (by decide)) ?_
  refine zt_cons (zs_iload (by decide +kernel)) ?_
  refine zt_cons (zs_aload_n (k := 0) (by decide +kernel) rfl) ?_
  refine zt_cons (zs_gi (C := "CaseTree$Cases") (T := zT_Cs) (N := 5) (by decide) rfl rfl (by decide) (fun w h => List.mem_cons_of_mem _ (zu_Cs w h)) ⟨rfl, rfl, rfl⟩ (List.mem_cons_of_mem _ zf_Cs_25) rfl (by decide +kernel)) ?_
  refine zt_cons (zs_cge (off := 33) (by decide +kernel) (by decide)) ?_
  refine zt_cons (zs_aload_n (k := 0) (by decide +kernel) rfl) ?_
  refine zt_cons (zs_iload (by decide +kernel)) ?_
  refine zt_cons (zs_iload_n (k := 1) (by decide +kernel) rfl) ?_
  refine zt_cons (zs_cv (n := 2) (x := 38) (C := "CaseTree$Cases") (T := zT_Cs) (N := 5) zI_32 rfl rfl (by decide) rfl zl_Cs_38 zim_Cs_valueOf zsel_Cs_valueOf zl_ini_Cs zc_Cs_valueOf (by decide +kernel) (by decide) (by decide) (by decide +kernel)) ?_
  refine zt_cons (zs_istore (by decide +kernel) (by decide)) ?_
  refine zt_cons (zs_iload (by decide +kernel)) ?_
  refine zt_cons (zs_iload_n (k := 2) (by decide +kernel) rfl) ?_
  refine zt_cons (zs_cgt (off := 12) (by decide +kernel) (by decide)) ?_
  refine zt_cons (zs_iload (by decide +kernel)) ?_
  refine zt_cons (zs_iload_n (k := 3) (by decide +kernel) rfl) ?_
  refine zt_cons (zs_cle (off := 6) (by decide +kernel) (by decide)) ?_
  refine zt_cons (zs_iload (by decide +kernel)) ?_
  refine zt_cons (zs_istore_n (k := 3) (by decide +kernel) rfl (by decide)) ?_
  refine zt_cons (zs_iinc (n := 1) (by decide +kernel) (by decide) (by decide)) ?_
  refine zt_cons (zs_goto (off := -36) (by decide +kernel) (by decide)) ?_
  refine zt_cons (zs_iload_n (k := 3) (by decide +kernel) rfl) ?_
  refine zt_cons (zs_ir rfl (by decide +kernel)) ?_
  exact zt_nil
set_option maxRecDepth 20000 in
set_option maxHeartbeats 4000000 in
theorem zok_Fi_hasGain {Ex : ze_G → State → Prop} : ∀ pc, ze_snd zI Ex zi_Fi_hasGain pc (ze_lk t_Fi_hasGain pc) := by
  refine zt_cons (zs_aload_n (k := 0) (by decide +kernel) rfl) ?_
  refine zt_cons (zs_gi (C := "CaseTree$Finding") (T := zT_Fi) (N := 4) (by decide) rfl rfl (by decide) (fun w h => List.mem_cons_of_mem _ (zu_Fi w h)) ⟨rfl, rfl, rfl⟩ (List.mem_cons_of_mem _ zf_Fi_9) rfl (by decide +kernel)) ?_
  refine zt_cons (zs_ifeq (off := 16) (by decide +kernel) (by decide)) ?_
  refine zt_cons (zs_aload_n (k := 0) (by decide +kernel) rfl) ?_
  refine zt_cons (zs_gl (C := "CaseTree$Finding") (T := zT_Fi) (N := 4) (by decide) rfl rfl (by decide) (fun w h => List.mem_cons_of_mem _ (zu_Fi w h)) ⟨rfl, rfl, rfl⟩ (List.mem_cons_of_mem _ zf_Fi_19) rfl (by decide +kernel)) ?_
  refine zt_cons (zs_lconst (n := 0) (by decide +kernel) (by decide)) ?_
  refine zt_cons (zs_lcmp (by decide +kernel)) ?_
  refine zt_cons (zs_ifle (off := 7) (by decide +kernel) (by decide)) ?_
  refine zt_cons (zs_iconst (n := 1) (by decide +kernel) (by decide)) ?_
  refine zt_cons (zs_goto (off := 4) (by decide +kernel) (by decide)) ?_
  refine zt_cons (zs_iconst (n := 0) (by decide +kernel) (by decide)) ?_
  refine zt_cons (zs_zr rfl (by decide +kernel)) ?_
  exact zt_nil
set_option maxRecDepth 20000 in
set_option maxHeartbeats 4000000 in
theorem zok_Fi_hasGreaterRatio {Ex : ze_G → State → Prop} : ∀ pc, ze_snd zI Ex zi_Fi_hasGreaterRatio pc (ze_lk t_Fi_hasGreaterRatio pc) := by
  refine zt_cons (zs_aload_n (k := 0) (by decide +kernel) rfl) ?_
  refine zt_cons (zs_gl (C := "CaseTree$Finding") (T := zT_Fi) (N := 4) (by decide) rfl rfl (by decide) (fun w h => List.mem_cons_of_mem _ (zu_Fi w h)) ⟨rfl, rfl, rfl⟩ (List.mem_cons_of_mem _ zf_Fi_19) rfl (by decide +kernel)) ?_
  refine zt_cons (zs_aload_n (k := 1) (by decide +kernel) rfl) ?_
  refine zt_cons (zs_gl (C := "CaseTree$Finding") (T := zT_Fi) (N := 4) (by decide) rfl rfl (by decide) (fun w h => List.mem_cons_of_mem _ (zu_Fi w h)) ⟨rfl, rfl, rfl⟩ (List.mem_cons_of_mem _ zf_Fi_23) rfl (by decide +kernel)) ?_
  refine zt_cons (zs_lmul (by decide +kernel)) ?_
  refine zt_cons (zs_aload_n (k := 1) (by decide +kernel) rfl) ?_
  refine zt_cons (zs_gl (C := "CaseTree$Finding") (T := zT_Fi) (N := 4) (by decide) rfl rfl (by decide) (fun w h => List.mem_cons_of_mem _ (zu_Fi w h)) ⟨rfl, rfl, rfl⟩ (List.mem_cons_of_mem _ zf_Fi_19) rfl (by decide +kernel)) ?_
  refine zt_cons (zs_aload_n (k := 0) (by decide +kernel) rfl) ?_
  refine zt_cons (zs_gl (C := "CaseTree$Finding") (T := zT_Fi) (N := 4) (by decide) rfl rfl (by decide) (fun w h => List.mem_cons_of_mem _ (zu_Fi w h)) ⟨rfl, rfl, rfl⟩ (List.mem_cons_of_mem _ zf_Fi_23) rfl (by decide +kernel)) ?_
  refine zt_cons (zs_lmul (by decide +kernel)) ?_
  refine zt_cons (zs_lcmp (by decide +kernel)) ?_
  refine zt_cons (zs_ifle (off := 7) (by decide +kernel) (by decide)) ?_
  refine zt_cons (zs_iconst (n := 1) (by decide +kernel) (by decide)) ?_
  refine zt_cons (zs_goto (off := 4) (by decide +kernel) (by decide)) ?_
  refine zt_cons (zs_iconst (n := 0) (by decide +kernel) (by decide)) ?_
  refine zt_cons (zs_zr rfl (by decide +kernel)) ?_
  exact zt_nil
set_option maxRecDepth 20000 in
set_option maxHeartbeats 4000000 in
theorem zok_Fo_setTest {Ex : ze_G → State → Prop} : ∀ pc, ze_snd zI Ex zi_Fo_setTest pc (ze_lk t_Fo_setTest pc) := by
  refine zt_cons (zs_aload_n (k := 0) (by decide +kernel) rfl) ?_
  refine zt_cons (zs_iload_n (k := 1) (by decide +kernel) rfl) ?_
  refine zt_cons (zs_pi (C := "CaseTree$Fork") (T := zT_Fo) (N := 6) (by decide) rfl rfl (by decide) (fun w h => List.mem_cons_of_mem _ (zu_Fo w h)) zy_Fo_ok zn_Fo ⟨rfl, rfl, rfl, rfl⟩ (by decide +kernel) (List.mem_cons_of_mem _ zf_Fo_15) rfl (by decide +kernel)) ?_
  refine zt_cons (zs_aload_n (k := 0) (by decide +kernel) rfl) ?_
  refine zt_cons (zs_iload_n (k := 2) (by decide +kernel) rfl) ?_
  refine zt_cons (zs_pi (C := "CaseTree$Fork") (T := zT_Fo) (N := 6) (by decide) rfl rfl (by decide) (fun w h => List.mem_cons_of_mem _ (zu_Fo w h)) zy_Fo_ok zn_Fo ⟨rfl, rfl, rfl, rfl⟩ (by decide +kernel) (List.mem_cons_of_mem _ zf_Fo_19) rfl (by decide +kernel)) ?_
  refine zt_cons (zs_aload_n (k := 0) (by decide +kernel) rfl) ?_
  refine zt_cons (zs_iload_n (k := 3) (by decide +kernel) rfl) ?_
  refine zt_cons (zs_pi (C := "CaseTree$Fork") (T := zT_Fo) (N := 6) (by decide) rfl rfl (by decide) (fun w h => List.mem_cons_of_mem _ (zu_Fo w h)) zy_Fo_ok zn_Fo ⟨rfl, rfl, rfl, rfl⟩ (by decide +kernel) (List.mem_cons_of_mem _ zf_Fo_22) rfl (by decide +kernel)) ?_
  refine zt_cons (zs_aload_n (k := 0) (by decide +kernel) rfl) ?_
  refine zt_cons (zs_gf (j := 0) (C := "CaseTree$Fork") (T := zT_Fo) (N := 6) (by decide) rfl rfl (by decide) (fun w h => List.mem_cons_of_mem _ (zu_Fo w h)) ⟨rfl, rfl, rfl⟩ (List.mem_cons_of_mem _ zf_Fo_9) rfl (fun _ => rfl) (by decide +kernel)) ?_
  refine zt_cons (zs_iconst (n := 0) (by decide +kernel) (by decide)) ?_
  refine zt_cons (zs_cs (x := 31) zI_0 rfl rfl zl_Fo_31 zs_static_A_fill zl_ini_A zc_A_fill (by decide +kernel) (by decide) (by decide) (by decide +kernel)) ?_
  refine zt_cons (zs_vr rfl (by decide +kernel)) ?_
  exact zt_nil
set_option maxRecDepth 20000 in
set_option maxHeartbeats 4000000 in
theorem zok_Fo_settleParts {Ex : ze_G → State → Prop} : ∀ pc, ze_snd zI Ex zi_Fo_settleParts pc (ze_lk t_Fo_settleParts pc) := by
  refine zt_cons (zs_aload_n (k := 0) (by decide +kernel) rfl) ?_
  refine zt_cons (zs_aload_n (k := 0) (by decide +kernel) rfl) ?_
  refine zt_cons (zs_gf (j := 0) (C := "CaseTree$Fork") (T := zT_Fo) (N := 6) (by decide) rfl rfl (by decide) (fun w h => List.mem_cons_of_mem _ (zu_Fo w h)) ⟨rfl, rfl, rfl⟩ (List.mem_cons_of_mem _ zf_Fo_9) rfl (fun _ => rfl) (by decide +kernel)) ?_
  refine zt_cons (zs_iconst (n := 0) (by decide +kernel) (by decide)) ?_
  refine zt_cons (zs_iconst (n := 4) (by decide +kernel) (by decide)) ?_
  refine zt_cons (zs_csN (x := 37) zI_26 rfl rfl zs_static_C_sum zl_ini_C zc_C_sum 0 rfl (by decide +kernel) (by decide) (by decide) (by decide +kernel)) ?_
  refine zt_cons (zs_pi (C := "CaseTree$Fork") (T := zT_Fo) (N := 6) (by decide) rfl rfl (by decide) (fun w h => List.mem_cons_of_mem _ (zu_Fo w h)) zy_Fo_ok zn_Fo ⟨rfl, rfl, rfl, rfl⟩ (by decide +kernel) (List.mem_cons_of_mem _ zf_Fo_25) rfl (by decide +kernel)) ?_
  refine zt_cons (zs_aload_n (k := 0) (by decide +kernel) rfl) ?_
  refine zt_cons (zs_aload_n (k := 0) (by decide +kernel) rfl) ?_
  refine zt_cons (zs_gf (j := 0) (C := "CaseTree$Fork") (T := zT_Fo) (N := 6) (by decide) rfl rfl (by decide) (fun w h => List.mem_cons_of_mem _ (zu_Fo w h)) ⟨rfl, rfl, rfl⟩ (List.mem_cons_of_mem _ zf_Fo_9) rfl (fun _ => rfl) (by decide +kernel)) ?_
  refine zt_cons (zs_iconst (n := 0) (by decide +kernel) (by decide)) ?_
  refine zt_cons (zs_iconst (n := 4) (by decide +kernel) (by decide)) ?_
  refine zt_cons (zs_csN (x := 41) zI_27 rfl rfl zs_static_C_firstGreatest zl_ini_C zc_C_firstGreatest 1 rfl (by decide +kernel) (by decide) (by decide) (by decide +kernel)) ?_
  refine zt_cons (zs_pi (C := "CaseTree$Fork") (T := zT_Fo) (N := 6) (by decide) rfl rfl (by decide) (fun w h => List.mem_cons_of_mem _ (zu_Fo w h)) zy_Fo_ok zn_Fo ⟨rfl, rfl, rfl, rfl⟩ (by decide +kernel) (List.mem_cons_of_mem _ zf_Fo_28) rfl (by decide +kernel)) ?_
  refine zt_cons (zs_vr rfl (by decide +kernel)) ?_
  exact zt_nil
set_option maxRecDepth 20000 in
set_option maxHeartbeats 4000000 in
theorem zok_Fo_passed {Ex : ze_G → State → Prop} : ∀ pc, ze_snd zI Ex zi_Fo_passed pc (ze_lk t_Fo_passed pc) := by
  refine zt_cons (zs_iload_n (k := 2) (by decide +kernel) rfl) ?_
  refine zt_cons (zs_iconst (n := (-1)) (by decide +kernel) (by decide)) ?_
  refine zt_cons (zs_ceq (off := 21) (by decide +kernel) (by decide)) ?_
  refine zt_cons (zs_iload_n (k := 2) (by decide +kernel) rfl) ?_
  refine zt_cons (zs_aload_n (k := 0) (by decide +kernel) rfl) ?_
  refine zt_cons (zs_gi (C := "CaseTree$Fork") (T := zT_Fo) (N := 6) (by decide) rfl rfl (by decide) (fun w h => List.mem_cons_of_mem _ (zu_Fo w h)) ⟨rfl, rfl, rfl⟩ (List.mem_cons_of_mem _ zf_Fo_19) rfl (by decide +kernel)) ?_
  refine zt_cons (zs_csN (x := 44) zI_28 rfl rfl zs_static_C_branchFor zl_ini_C zc_C_branchFor 2 rfl (by decide +kernel) (by decide) (by decide) (by decide +kernel)) ?_
  refine zt_cons (zs_iload_n (k := 3) (by decide +kernel) rfl) ?_
  refine zt_cons (zs_cne (off := 7) (by decide +kernel) (by decide)) ?_
  refine zt_cons (zs_iload_n (k := 1) (by decide +kernel) rfl) ?_
  refine zt_cons (zs_goto (off := 4) (by decide +kernel) (by decide)) ?_
  refine zt_cons (zs_iconst (n := 0) (by decide +kernel) (by decide)) ?_
  refine zt_cons (zs_ir rfl (by decide +kernel)) ?_
  refine zt_cons (zs_aload_n (k := 0) (by decide +kernel) rfl) ?_
  refine zt_cons (zs_gi (C := "CaseTree$Fork") (T := zT_Fo) (N := 6) (by decide) rfl rfl (by decide) (fun w h => List.mem_cons_of_mem _ (zu_Fo w h)) ⟨rfl, rfl, rfl⟩ (List.mem_cons_of_mem _ zf_Fo_25) rfl (by decide +kernel)) ?_
  refine zt_cons (zs_ifne (off := 13) (by decide +kernel) (by decide)) ?_
  refine zt_cons (zs_iload_n (k := 3) (by decide +kernel) rfl) ?_
  refine zt_cons (zs_ifne (off := 7) (by decide +kernel) (by decide)) ?_
  refine zt_cons (zs_iload_n (k := 1) (by decide +kernel) rfl) ?_
  refine zt_cons (zs_goto (off := 4) (by decide +kernel) (by decide)) ?_
  refine zt_cons (zs_iconst (n := 0) (by decide +kernel) (by decide)) ?_
  refine zt_cons (zs_ir rfl (by decide +kernel)) ?_
  refine zt_cons (zs_iload_n (k := 3) (by decide +kernel) rfl) ?_
  refine zt_cons (zs_aload_n (k := 0) (by decide +kernel) rfl) ?_
  refine zt_cons (zs_gi (C := "CaseTree$Fork") (T := zT_Fo) (N := 6) (by decide) rfl rfl (by decide) (fun w h => List.mem_cons_of_mem _ (zu_Fo w h)) ⟨rfl, rfl, rfl⟩ (List.mem_cons_of_mem _ zf_Fo_28) rfl (by decide +kernel)) ?_
  refine zt_cons (zs_ceq (off := 17) (by decide +kernel) (by decide)) ?_
  refine zt_cons (zs_iload_n (k := 1) (by decide +kernel) rfl) ?_
  refine zt_cons (zs_aload_n (k := 0) (by decide +kernel) rfl) ?_
  refine zt_cons (zs_gf (j := 0) (C := "CaseTree$Fork") (T := zT_Fo) (N := 6) (by decide) rfl rfl (by decide) (fun w h => List.mem_cons_of_mem _ (zu_Fo w h)) ⟨rfl, rfl, rfl⟩ (List.mem_cons_of_mem _ zf_Fo_9) rfl (fun _ => rfl) (by decide +kernel)) ?_
  refine zt_cons (zs_iload_n (k := 3) (by decide +kernel) rfl) ?_
  refine zt_cons (zs_ia (by decide +kernel)) ?_
  refine zt_cons (zs_imul (by decide +kernel)) ?_
  refine zt_cons (zs_aload_n (k := 0) (by decide +kernel) rfl) ?_
  refine zt_cons (zs_gi (C := "CaseTree$Fork") (T := zT_Fo) (N := 6) (by decide) rfl rfl (by decide) (fun w h => List.mem_cons_of_mem _ (zu_Fo w h)) ⟨rfl, rfl, rfl⟩ (List.mem_cons_of_mem _ zf_Fo_25) rfl (by decide +kernel)) ?_
  refine zt_cons (zs_idiv (by decide +kernel)) ?_
  refine zt_cons (zs_ir rfl (by decide +kernel)) ?_
  refine zt_cons (zs_iload_n (k := 1) (by decide +kernel) rfl) ?_
  refine zt_cons (zs_istore (by decide +kernel) (by decide)) ?_
  refine zt_cons (zs_iconst (n := 0) (by decide +kernel) (by decide)) ?_
  refine zt_cons (zs_istore (by decide +kernel) (by decide)) ?_
  refine zt_cons (zs_iload (by decide +kernel)) ?_
  refine zt_cons (zs_aload_n (k := 0) (by decide +kernel) rfl) ?_
  refine zt_cons (zs_gi (C := "CaseTree$Fork") (T := zT_Fo) (N := 6) (by decide) rfl rfl (by decide) (fun w h => List.mem_cons_of_mem _ (zu_Fo w h)) ⟨rfl, rfl, rfl⟩ (List.mem_cons_of_mem _ zf_Fo_22) rfl (by decide +kernel)) ?_
  refine zt_cons (zs_cge (off := 37) (by decide +kernel) (by decide)) ?_
  refine zt_cons (zs_iload (by decide +kernel)) ?_
  refine zt_cons (zs_aload_n (k := 0) (by decide +kernel) rfl) ?_
  refine zt_cons (zs_gi (C := "CaseTree$Fork") (T := zT_Fo) (N := 6) (by decide) rfl rfl (by decide) (fun w h => List.mem_cons_of_mem _ (zu_Fo w h)) ⟨rfl, rfl, rfl⟩ (List.mem_cons_of_mem _ zf_Fo_28) rfl (by decide +kernel)) ?_
  refine zt_cons (zs_ceq (off := 22) (by decide +kernel) (by decide)) ?_
  refine zt_cons (zs_iload (by decide +kernel)) ?_
  refine zt_cons (zs_iload_n (k := 1) (by decide +kernel) rfl) ?_
  refine zt_cons (zs_aload_n (k := 0) (by decide +kernel) rfl) ?_
  refine zt_cons (zs_gf (j := 0) (C := "CaseTree$Fork") (T := zT_Fo) (N := 6) (by decide) rfl rfl (by decide) (fun w h => List.mem_cons_of_mem _ (zu_Fo w h)) ⟨rfl, rfl, rfl⟩ (List.mem_cons_of_mem _ zf_Fo_9) rfl (fun _ => rfl) (by decide +kernel)) ?_
  refine zt_cons (zs_iload (by decide +kernel)) ?_
  refine zt_cons (zs_ia (by decide +kernel)) ?_
  refine zt_cons (zs_imul (by decide +kernel)) ?_
  refine zt_cons (zs_aload_n (k := 0) (by decide +kernel) rfl) ?_
  refine zt_cons (zs_gi (C := "CaseTree$Fork") (T := zT_Fo) (N := 6) (by decide) rfl rfl (by decide) (fun w h => List.mem_cons_of_mem _ (zu_Fo w h)) ⟨rfl, rfl, rfl⟩ (List.mem_cons_of_mem _ zf_Fo_25) rfl (by decide +kernel)) ?_
  refine zt_cons (zs_idiv (by decide +kernel)) ?_
  refine zt_cons (zs_isub (by decide +kernel)) ?_
  refine zt_cons (zs_istore (by decide +kernel) (by decide)) ?_
  refine zt_cons (zs_iinc (n := 1) (by decide +kernel) (by decide) (by decide)) ?_
  refine zt_cons (zs_goto (off := -40) (by decide +kernel) (by decide)) ?_
  refine zt_cons (zs_iload (by decide +kernel)) ?_
  refine zt_cons (zs_ir rfl (by decide +kernel)) ?_
  exact zt_nil
set_option maxRecDepth 20000 in
set_option maxHeartbeats 4000000 in
theorem zok_Gr_plant {Ex : ze_G → State → Prop} : ∀ pc, ze_snd zI Ex zi_Gr_plant pc (ze_lk t_Gr_plant pc) := by
  refine zt_cons (zs_aload_n (k := 0) (by decide +kernel) rfl) ?_
  refine zt_cons (zs_iload_n (k := 1) (by decide +kernel) rfl) ?_
  refine zt_cons (zs_pi (C := "CaseTree$Grower") (T := zT_Gr) (N := 5) (by decide) rfl rfl (by decide) (fun w h => List.mem_cons_of_mem _ (zu_Gr w h)) zy_Gr_ok zn_Gr ⟨rfl, rfl, rfl, rfl⟩ (by decide +kernel) (List.mem_cons_of_mem _ zf_Gr_9) rfl (by decide +kernel)) ?_
  refine zt_cons (zs_aload_n (k := 0) (by decide +kernel) rfl) ?_
  refine zt_cons (zs_gc (j := 1) (C := "CaseTree$Grower") (T := zT_Gr) (N := 5) (by decide) rfl rfl (by decide) (fun w h => List.mem_cons_of_mem _ (zu_Gr w h)) ⟨rfl, rfl, rfl⟩ (List.mem_cons_of_mem _ zf_Gr_19) rfl (fun _ => rfl) (by decide +kernel)) ?_
  refine zt_cons (zs_iconst (n := 0) (by decide +kernel) (by decide)) ?_
  refine zt_cons (zs_pi (C := "CaseTree$Tree") (T := zT_Tr) (N := 12) (by decide) rfl rfl (by decide) (fun w h => List.mem_cons_of_mem _ (zu_Tr w h)) zy_Tr_ok zn_Tr ⟨rfl, rfl, rfl, rfl⟩ (by decide +kernel) (List.mem_cons_of_mem _ zf_Gr_31) rfl (by decide +kernel)) ?_
  refine zt_cons (zs_aload_n (k := 0) (by decide +kernel) rfl) ?_
  refine zt_cons (zs_gc (j := 1) (C := "CaseTree$Grower") (T := zT_Gr) (N := 5) (by decide) rfl rfl (by decide) (fun w h => List.mem_cons_of_mem _ (zu_Gr w h)) ⟨rfl, rfl, rfl⟩ (List.mem_cons_of_mem _ zf_Gr_19) rfl (fun _ => rfl) (by decide +kernel)) ?_
  refine zt_cons (zs_aload_n (k := 0) (by decide +kernel) rfl) ?_
  refine zt_cons (zs_gc (j := 0) (C := "CaseTree$Grower") (T := zT_Gr) (N := 5) (by decide) rfl rfl (by decide) (fun w h => List.mem_cons_of_mem _ (zu_Gr w h)) ⟨rfl, rfl, rfl⟩ (List.mem_cons_of_mem _ zf_Gr_15) rfl (fun _ => rfl) (by decide +kernel)) ?_
  refine zt_cons (zs_gi (C := "CaseTree$Cases") (T := zT_Cs) (N := 5) (by decide) rfl rfl (by decide) (fun w h => List.mem_cons_of_mem _ (zu_Cs w h)) ⟨rfl, rfl, rfl⟩ (List.mem_cons_of_mem _ zf_Gr_36) rfl (by decide +kernel)) ?_
  refine zt_cons (zs_pi (C := "CaseTree$Tree") (T := zT_Tr) (N := 12) (by decide) rfl rfl (by decide) (fun w h => List.mem_cons_of_mem _ (zu_Tr w h)) zy_Tr_ok zn_Tr ⟨rfl, rfl, rfl, rfl⟩ (by decide +kernel) (List.mem_cons_of_mem _ zf_Gr_41) rfl (by decide +kernel)) ?_
  refine zt_cons (zs_aload_n (k := 0) (by decide +kernel) rfl) ?_
  refine zt_cons (zs_gc (j := 2) (C := "CaseTree$Grower") (T := zT_Gr) (N := 5) (by decide) rfl rfl (by decide) (fun w h => List.mem_cons_of_mem _ (zu_Gr w h)) ⟨rfl, rfl, rfl⟩ (List.mem_cons_of_mem _ zf_Gr_23) rfl (fun _ => rfl) (by decide +kernel)) ?_
  refine zt_cons (zs_aload_n (k := 0) (by decide +kernel) rfl) ?_
  refine zt_cons (zs_gc (j := 0) (C := "CaseTree$Grower") (T := zT_Gr) (N := 5) (by decide) rfl rfl (by decide) (fun w h => List.mem_cons_of_mem _ (zu_Gr w h)) ⟨rfl, rfl, rfl⟩ (List.mem_cons_of_mem _ zf_Gr_15) rfl (fun _ => rfl) (by decide +kernel)) ?_
  refine zt_cons (zs_gi (C := "CaseTree$Cases") (T := zT_Cs) (N := 5) (by decide) rfl rfl (by decide) (fun w h => List.mem_cons_of_mem _ (zu_Cs w h)) ⟨rfl, rfl, rfl⟩ (List.mem_cons_of_mem _ zf_Gr_36) rfl (by decide +kernel)) ?_
  refine zt_cons (zs_cv (n := 1) (x := 42) (C := "CaseTree$Path") (T := zT_Pa) (N := 4) zI_50 rfl rfl (by decide) rfl zl_Gr_42 zim_Pa_start zsel_Pa_start zl_ini_Pa zc_Pa_start (by decide +kernel) (by decide) (by decide) (by decide +kernel)) ?_
  refine zt_cons (zs_aload_n (k := 0) (by decide +kernel) rfl) ?_
  refine zt_cons (zs_aload_n (k := 0) (by decide +kernel) rfl) ?_
  refine zt_cons (zs_gc (j := 1) (C := "CaseTree$Grower") (T := zT_Gr) (N := 5) (by decide) rfl rfl (by decide) (fun w h => List.mem_cons_of_mem _ (zu_Gr w h)) ⟨rfl, rfl, rfl⟩ (List.mem_cons_of_mem _ zf_Gr_19) rfl (fun _ => rfl) (by decide +kernel)) ?_
  refine zt_cons (zs_iconst (n := 0) (by decide +kernel) (by decide)) ?_
  refine zt_cons (zs_cv (n := 1) (x := 48) (C := "CaseTree$Tree") (T := zT_Tr) (N := 12) zI_68 rfl rfl (by decide) rfl zl_Gr_48 zim_Tr_makeNode zsel_Tr_makeNode zl_ini_Tr zc_Tr_makeNode (by decide +kernel) (by decide) (by decide) (by decide +kernel)) ?_
  refine zt_cons (zs_iconst (n := 0) (by decide +kernel) (by decide)) ?_
  refine zt_cons (zs_iconst (n := 0) (by decide +kernel) (by decide)) ?_
  refine zt_cons (zs_cv (n := 3) (x := 52) (C := "CaseTree$Grower") (T := zT_Gr) (N := 5) zI_44 rfl rfl (by decide) rfl zl_Gr_52 zim_Gr_growFrom zsel_Gr_growFrom zl_ini_Gr zc_Gr_growFrom (by decide +kernel) (by decide) (by decide) (by decide +kernel)) ?_
  refine zt_cons (zs_aload_n (k := 0) (by decide +kernel) rfl) ?_
  refine zt_cons (zs_gc (j := 1) (C := "CaseTree$Grower") (T := zT_Gr) (N := 5) (by decide) rfl rfl (by decide) (fun w h => List.mem_cons_of_mem _ (zu_Gr w h)) ⟨rfl, rfl, rfl⟩ (List.mem_cons_of_mem _ zf_Gr_19) rfl (fun _ => rfl) (by decide +kernel)) ?_
  refine zt_cons (zs_cv (n := 0) (x := 56) (C := "CaseTree$Tree") (T := zT_Tr) (N := 12) zI_75 rfl rfl (by decide) rfl zl_Gr_56 zim_Tr_numberNodes zsel_Tr_numberNodes zl_ini_Tr zc_Tr_numberNodes (by decide +kernel) (by decide) (by decide) (by decide +kernel)) ?_
  refine zt_cons (zs_vr rfl (by decide +kernel)) ?_
  exact zt_nil
