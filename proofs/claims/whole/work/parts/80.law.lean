/-! the law: its script is the abstract cell 99 -/
def zLx (N : Nat) (xs : Nat → Int32) (G : ze_G) (s : State) : Prop := va_X (G.2.1 99) N xs s s.heap ∧ G.2.1 99 < s.heap.size ∧ ¬ ze_A G (G.2.1 99)
def zo_sl (N : Nat) (xs : Nat → Int32) : ze_F → ze_R
  | (pc, L, st, σ) => ze_pi st fun i r => ze_pr r fun k r => ze_gi (k = 99 ∧ vp_in i N) (pc + 1, L, .int (xs i.toNatClampNeg) :: r, σ)
def zo_sn (N : Nat) : ze_F → ze_R
  | (pc, L, st, σ) => ze_pr st fun k r => ze_gi (k = 99) (pc + 1, L, .int (nI N) :: r, σ)
def ztgs : List Nat := [124, 147, 210, 233, 256, 309, 332, 345, 379, 413, 446, 459, 472, 495, 518, 551, 574, 607, 640]
def zsw (x : Int32) : Nat := if x.toInt < 0 then 663 else ztgs.getD x.toInt.toNat 663
def zo_ts : ze_F → ze_R
  | (_, L, st, σ) => ze_pi st fun x r => ze_go (zsw x, L, r, σ)
def zi_L : ze_I := (x, code, 4, some .boolean, zb)
theorem zc_C_attribute : Cond.code ⟨"CaseTree", "attribute", "(I)I"⟩ prog_1_method_2_code 3 (some .int) ∈ zb := zb_in 364 (by decide +kernel) (by decide +kernel)
theorem zl_L_13 : Cond.methodLink "CaseTreeLaw" 13 ⟨"CaseTree", "attribute", "(I)I"⟩ ∈ zb := zb_in 361 (by decide +kernel) (by decide +kernel)
theorem zim_C_attribute : Cond.instanceMethod ⟨"CaseTree", "attribute", "(I)I"⟩ ∈ zb := zb_in 362 (by decide +kernel) (by decide +kernel)
theorem zsel_C_attribute : Cond.selects "CaseTree" ⟨"CaseTree", "attribute", "(I)I"⟩ ⟨"CaseTree", "attribute", "(I)I"⟩ ∈ zb := zb_in 363 (by decide +kernel) (by decide +kernel)
theorem zc_M_attribute : Cond.code ⟨"CaseTreeModel", "attribute", "(I)I"⟩ prog_12_method_6_code 2 (some .int) ∈ zb := zb_in 815 (by decide +kernel) (by decide +kernel)
theorem zl_L_17 : Cond.methodLink "CaseTreeLaw" 17 ⟨"CaseTreeModel", "attribute", "(I)I"⟩ ∈ zb := zb_in 812 (by decide +kernel) (by decide +kernel)
theorem zim_M_attribute : Cond.instanceMethod ⟨"CaseTreeModel", "attribute", "(I)I"⟩ ∈ zb := zb_in 813 (by decide +kernel) (by decide +kernel)
theorem zsel_M_attribute : Cond.selects "CaseTreeModel" ⟨"CaseTreeModel", "attribute", "(I)I"⟩ ⟨"CaseTreeModel", "attribute", "(I)I"⟩ ∈ zb := zb_in 814 (by decide +kernel) (by decide +kernel)
theorem zc_C_add : Cond.code ⟨"CaseTree", "add", "(IIIII)I"⟩ prog_1_method_3_code 6 (some .int) ∈ zb := zb_in 372 (by decide +kernel) (by decide +kernel)
theorem zl_L_18 : Cond.methodLink "CaseTreeLaw" 18 ⟨"CaseTree", "add", "(IIIII)I"⟩ ∈ zb := zb_in 369 (by decide +kernel) (by decide +kernel)
theorem zim_C_add : Cond.instanceMethod ⟨"CaseTree", "add", "(IIIII)I"⟩ ∈ zb := zb_in 370 (by decide +kernel) (by decide +kernel)
theorem zsel_C_add : Cond.selects "CaseTree" ⟨"CaseTree", "add", "(IIIII)I"⟩ ⟨"CaseTree", "add", "(IIIII)I"⟩ ∈ zb := zb_in 371 (by decide +kernel) (by decide +kernel)
theorem zc_M_add : Cond.code ⟨"CaseTreeModel", "add", "(IIIII)I"⟩ prog_12_method_9_code 6 (some .int) ∈ zb := zb_in 819 (by decide +kernel) (by decide +kernel)
theorem zl_L_22 : Cond.methodLink "CaseTreeLaw" 22 ⟨"CaseTreeModel", "add", "(IIIII)I"⟩ ∈ zb := zb_in 816 (by decide +kernel) (by decide +kernel)
theorem zim_M_add : Cond.instanceMethod ⟨"CaseTreeModel", "add", "(IIIII)I"⟩ ∈ zb := zb_in 817 (by decide +kernel) (by decide +kernel)
theorem zsel_M_add : Cond.selects "CaseTreeModel" ⟨"CaseTreeModel", "add", "(IIIII)I"⟩ ⟨"CaseTreeModel", "add", "(IIIII)I"⟩ ∈ zb := zb_in 818 (by decide +kernel) (by decide +kernel)
theorem zc_C_grow : Cond.code ⟨"CaseTree", "grow", "(I)I"⟩ prog_1_method_4_code 2 (some .int) ∈ zb := zb_in 398 (by decide +kernel) (by decide +kernel)
theorem zl_L_23 : Cond.methodLink "CaseTreeLaw" 23 ⟨"CaseTree", "grow", "(I)I"⟩ ∈ zb := zb_in 395 (by decide +kernel) (by decide +kernel)
theorem zim_C_grow : Cond.instanceMethod ⟨"CaseTree", "grow", "(I)I"⟩ ∈ zb := zb_in 396 (by decide +kernel) (by decide +kernel)
theorem zsel_C_grow : Cond.selects "CaseTree" ⟨"CaseTree", "grow", "(I)I"⟩ ⟨"CaseTree", "grow", "(I)I"⟩ ∈ zb := zb_in 397 (by decide +kernel) (by decide +kernel)
theorem zc_M_grow : Cond.code ⟨"CaseTreeModel", "grow", "(I)I"⟩ prog_12_method_25_code 3 (some .int) ∈ zb := zb_in 831 (by decide +kernel) (by decide +kernel)
theorem zl_L_26 : Cond.methodLink "CaseTreeLaw" 26 ⟨"CaseTreeModel", "grow", "(I)I"⟩ ∈ zb := zb_in 828 (by decide +kernel) (by decide +kernel)
theorem zim_M_grow : Cond.instanceMethod ⟨"CaseTreeModel", "grow", "(I)I"⟩ ∈ zb := zb_in 829 (by decide +kernel) (by decide +kernel)
theorem zsel_M_grow : Cond.selects "CaseTreeModel" ⟨"CaseTreeModel", "grow", "(I)I"⟩ ⟨"CaseTreeModel", "grow", "(I)I"⟩ ∈ zb := zb_in 830 (by decide +kernel) (by decide +kernel)
theorem zc_C_prune : Cond.code ⟨"CaseTree", "prune", "(I)I"⟩ prog_1_method_5_code 2 (some .int) ∈ zb := zb_in 558 (by decide +kernel) (by decide +kernel)
theorem zl_L_27 : Cond.methodLink "CaseTreeLaw" 27 ⟨"CaseTree", "prune", "(I)I"⟩ ∈ zb := zb_in 555 (by decide +kernel) (by decide +kernel)
theorem zim_C_prune : Cond.instanceMethod ⟨"CaseTree", "prune", "(I)I"⟩ ∈ zb := zb_in 556 (by decide +kernel) (by decide +kernel)
theorem zsel_C_prune : Cond.selects "CaseTree" ⟨"CaseTree", "prune", "(I)I"⟩ ⟨"CaseTree", "prune", "(I)I"⟩ ∈ zb := zb_in 557 (by decide +kernel) (by decide +kernel)
theorem zc_M_prune : Cond.code ⟨"CaseTreeModel", "prune", "(I)I"⟩ prog_12_method_33_code 3 (some .int) ∈ zb := zb_in 910 (by decide +kernel) (by decide +kernel)
theorem zl_L_30 : Cond.methodLink "CaseTreeLaw" 30 ⟨"CaseTreeModel", "prune", "(I)I"⟩ ∈ zb := zb_in 907 (by decide +kernel) (by decide +kernel)
theorem zim_M_prune : Cond.instanceMethod ⟨"CaseTreeModel", "prune", "(I)I"⟩ ∈ zb := zb_in 908 (by decide +kernel) (by decide +kernel)
theorem zsel_M_prune : Cond.selects "CaseTreeModel" ⟨"CaseTreeModel", "prune", "(I)I"⟩ ⟨"CaseTreeModel", "prune", "(I)I"⟩ ∈ zb := zb_in 909 (by decide +kernel) (by decide +kernel)
theorem zc_C_classify : Cond.code ⟨"CaseTree", "classify", "(IIII)I"⟩ prog_1_method_6_code 6 (some .int) ∈ zb := zb_in 608 (by decide +kernel) (by decide +kernel)
theorem zl_L_31 : Cond.methodLink "CaseTreeLaw" 31 ⟨"CaseTree", "classify", "(IIII)I"⟩ ∈ zb := zb_in 605 (by decide +kernel) (by decide +kernel)
theorem zim_C_classify : Cond.instanceMethod ⟨"CaseTree", "classify", "(IIII)I"⟩ ∈ zb := zb_in 606 (by decide +kernel) (by decide +kernel)
theorem zsel_C_classify : Cond.selects "CaseTree" ⟨"CaseTree", "classify", "(IIII)I"⟩ ⟨"CaseTree", "classify", "(IIII)I"⟩ ∈ zb := zb_in 607 (by decide +kernel) (by decide +kernel)
theorem zc_M_classify : Cond.code ⟨"CaseTreeModel", "classify", "(IIII)I"⟩ prog_12_method_37_code 7 (some .int) ∈ zb := zb_in 942 (by decide +kernel) (by decide +kernel)
theorem zl_L_35 : Cond.methodLink "CaseTreeLaw" 35 ⟨"CaseTreeModel", "classify", "(IIII)I"⟩ ∈ zb := zb_in 939 (by decide +kernel) (by decide +kernel)
theorem zim_M_classify : Cond.instanceMethod ⟨"CaseTreeModel", "classify", "(IIII)I"⟩ ∈ zb := zb_in 940 (by decide +kernel) (by decide +kernel)
theorem zsel_M_classify : Cond.selects "CaseTreeModel" ⟨"CaseTreeModel", "classify", "(IIII)I"⟩ ⟨"CaseTreeModel", "classify", "(IIII)I"⟩ ∈ zb := zb_in 941 (by decide +kernel) (by decide +kernel)
theorem zc_C_share : Cond.code ⟨"CaseTree", "share", "(I)I"⟩ prog_1_method_7_code 2 (some .int) ∈ zb := zb_in 632 (by decide +kernel) (by decide +kernel)
theorem zl_L_36 : Cond.methodLink "CaseTreeLaw" 36 ⟨"CaseTree", "share", "(I)I"⟩ ∈ zb := zb_in 629 (by decide +kernel) (by decide +kernel)
theorem zim_C_share : Cond.instanceMethod ⟨"CaseTree", "share", "(I)I"⟩ ∈ zb := zb_in 630 (by decide +kernel) (by decide +kernel)
theorem zsel_C_share : Cond.selects "CaseTree" ⟨"CaseTree", "share", "(I)I"⟩ ⟨"CaseTree", "share", "(I)I"⟩ ∈ zb := zb_in 631 (by decide +kernel) (by decide +kernel)
theorem zc_M_share : Cond.code ⟨"CaseTreeModel", "share", "(I)I"⟩ prog_12_method_38_code 2 (some .int) ∈ zb := zb_in 954 (by decide +kernel) (by decide +kernel)
theorem zl_L_39 : Cond.methodLink "CaseTreeLaw" 39 ⟨"CaseTreeModel", "share", "(I)I"⟩ ∈ zb := zb_in 951 (by decide +kernel) (by decide +kernel)
theorem zim_M_share : Cond.instanceMethod ⟨"CaseTreeModel", "share", "(I)I"⟩ ∈ zb := zb_in 952 (by decide +kernel) (by decide +kernel)
theorem zsel_M_share : Cond.selects "CaseTreeModel" ⟨"CaseTreeModel", "share", "(I)I"⟩ ⟨"CaseTreeModel", "share", "(I)I"⟩ ∈ zb := zb_in 953 (by decide +kernel) (by decide +kernel)
theorem zc_C_wrong : Cond.code ⟨"CaseTree", "wrong", "()I"⟩ prog_1_method_8_code 3 (some .int) ∈ zb := zb_in 636 (by decide +kernel) (by decide +kernel)
theorem zl_L_40 : Cond.methodLink "CaseTreeLaw" 40 ⟨"CaseTree", "wrong", "()I"⟩ ∈ zb := zb_in 633 (by decide +kernel) (by decide +kernel)
theorem zim_C_wrong : Cond.instanceMethod ⟨"CaseTree", "wrong", "()I"⟩ ∈ zb := zb_in 634 (by decide +kernel) (by decide +kernel)
theorem zsel_C_wrong : Cond.selects "CaseTree" ⟨"CaseTree", "wrong", "()I"⟩ ⟨"CaseTree", "wrong", "()I"⟩ ∈ zb := zb_in 635 (by decide +kernel) (by decide +kernel)
theorem zc_M_wrong : Cond.code ⟨"CaseTreeModel", "wrong", "()I"⟩ prog_12_method_39_code 4 (some .int) ∈ zb := zb_in 958 (by decide +kernel) (by decide +kernel)
theorem zl_L_44 : Cond.methodLink "CaseTreeLaw" 44 ⟨"CaseTreeModel", "wrong", "()I"⟩ ∈ zb := zb_in 955 (by decide +kernel) (by decide +kernel)
theorem zim_M_wrong : Cond.instanceMethod ⟨"CaseTreeModel", "wrong", "()I"⟩ ∈ zb := zb_in 956 (by decide +kernel) (by decide +kernel)
theorem zsel_M_wrong : Cond.selects "CaseTreeModel" ⟨"CaseTreeModel", "wrong", "()I"⟩ ⟨"CaseTreeModel", "wrong", "()I"⟩ ∈ zb := zb_in 957 (by decide +kernel) (by decide +kernel)
theorem zc_C_gain : Cond.code ⟨"CaseTree", "gain", "(II)J"⟩ prog_1_method_9_code 5 (some .long) ∈ zb := zb_in 644 (by decide +kernel) (by decide +kernel)
theorem zl_L_45 : Cond.methodLink "CaseTreeLaw" 45 ⟨"CaseTree", "gain", "(II)J"⟩ ∈ zb := zb_in 641 (by decide +kernel) (by decide +kernel)
theorem zim_C_gain : Cond.instanceMethod ⟨"CaseTree", "gain", "(II)J"⟩ ∈ zb := zb_in 642 (by decide +kernel) (by decide +kernel)
theorem zsel_C_gain : Cond.selects "CaseTree" ⟨"CaseTree", "gain", "(II)J"⟩ ⟨"CaseTree", "gain", "(II)J"⟩ ∈ zb := zb_in 643 (by decide +kernel) (by decide +kernel)
theorem zc_M_gain : Cond.code ⟨"CaseTreeModel", "gain", "(II)J"⟩ prog_12_method_41_code 3 (some .long) ∈ zb := zb_in 962 (by decide +kernel) (by decide +kernel)
theorem zl_L_49 : Cond.methodLink "CaseTreeLaw" 49 ⟨"CaseTreeModel", "gain", "(II)J"⟩ ∈ zb := zb_in 959 (by decide +kernel) (by decide +kernel)
theorem zim_M_gain : Cond.instanceMethod ⟨"CaseTreeModel", "gain", "(II)J"⟩ ∈ zb := zb_in 960 (by decide +kernel) (by decide +kernel)
theorem zsel_M_gain : Cond.selects "CaseTreeModel" ⟨"CaseTreeModel", "gain", "(II)J"⟩ ⟨"CaseTreeModel", "gain", "(II)J"⟩ ∈ zb := zb_in 961 (by decide +kernel) (by decide +kernel)
theorem zc_C_split : Cond.code ⟨"CaseTree", "split", "(II)J"⟩ prog_1_method_10_code 3 (some .long) ∈ zb := zb_in 656 (by decide +kernel) (by decide +kernel)
theorem zl_L_50 : Cond.methodLink "CaseTreeLaw" 50 ⟨"CaseTree", "split", "(II)J"⟩ ∈ zb := zb_in 653 (by decide +kernel) (by decide +kernel)
theorem zim_C_split : Cond.instanceMethod ⟨"CaseTree", "split", "(II)J"⟩ ∈ zb := zb_in 654 (by decide +kernel) (by decide +kernel)
theorem zsel_C_split : Cond.selects "CaseTree" ⟨"CaseTree", "split", "(II)J"⟩ ⟨"CaseTree", "split", "(II)J"⟩ ∈ zb := zb_in 655 (by decide +kernel) (by decide +kernel)
theorem zc_M_split : Cond.code ⟨"CaseTreeModel", "split", "(II)J"⟩ prog_12_method_42_code 3 (some .long) ∈ zb := zb_in 972 (by decide +kernel) (by decide +kernel)
theorem zl_L_53 : Cond.methodLink "CaseTreeLaw" 53 ⟨"CaseTreeModel", "split", "(II)J"⟩ ∈ zb := zb_in 969 (by decide +kernel) (by decide +kernel)
theorem zim_M_split : Cond.instanceMethod ⟨"CaseTreeModel", "split", "(II)J"⟩ ∈ zb := zb_in 970 (by decide +kernel) (by decide +kernel)
theorem zsel_M_split : Cond.selects "CaseTreeModel" ⟨"CaseTreeModel", "split", "(II)J"⟩ ⟨"CaseTreeModel", "split", "(II)J"⟩ ∈ zb := zb_in 971 (by decide +kernel) (by decide +kernel)
theorem zc_C_cut : Cond.code ⟨"CaseTree", "cut", "(II)I"⟩ prog_1_method_11_code 3 (some .int) ∈ zb := zb_in 660 (by decide +kernel) (by decide +kernel)
theorem zl_L_54 : Cond.methodLink "CaseTreeLaw" 54 ⟨"CaseTree", "cut", "(II)I"⟩ ∈ zb := zb_in 657 (by decide +kernel) (by decide +kernel)
theorem zim_C_cut : Cond.instanceMethod ⟨"CaseTree", "cut", "(II)I"⟩ ∈ zb := zb_in 658 (by decide +kernel) (by decide +kernel)
theorem zsel_C_cut : Cond.selects "CaseTree" ⟨"CaseTree", "cut", "(II)I"⟩ ⟨"CaseTree", "cut", "(II)I"⟩ ∈ zb := zb_in 659 (by decide +kernel) (by decide +kernel)
theorem zc_M_cut : Cond.code ⟨"CaseTreeModel", "cut", "(II)I"⟩ prog_12_method_43_code 3 (some .int) ∈ zb := zb_in 976 (by decide +kernel) (by decide +kernel)
theorem zl_L_58 : Cond.methodLink "CaseTreeLaw" 58 ⟨"CaseTreeModel", "cut", "(II)I"⟩ ∈ zb := zb_in 973 (by decide +kernel) (by decide +kernel)
theorem zim_M_cut : Cond.instanceMethod ⟨"CaseTreeModel", "cut", "(II)I"⟩ ∈ zb := zb_in 974 (by decide +kernel) (by decide +kernel)
theorem zsel_M_cut : Cond.selects "CaseTreeModel" ⟨"CaseTreeModel", "cut", "(II)I"⟩ ⟨"CaseTreeModel", "cut", "(II)I"⟩ ∈ zb := zb_in 975 (by decide +kernel) (by decide +kernel)
theorem zc_C_cases : Cond.code ⟨"CaseTree", "cases", "()I"⟩ prog_1_method_12_code 1 (some .int) ∈ zb := zb_in 664 (by decide +kernel) (by decide +kernel)
theorem zl_L_59 : Cond.methodLink "CaseTreeLaw" 59 ⟨"CaseTree", "cases", "()I"⟩ ∈ zb := zb_in 661 (by decide +kernel) (by decide +kernel)
theorem zim_C_cases : Cond.instanceMethod ⟨"CaseTree", "cases", "()I"⟩ ∈ zb := zb_in 662 (by decide +kernel) (by decide +kernel)
theorem zsel_C_cases : Cond.selects "CaseTree" ⟨"CaseTree", "cases", "()I"⟩ ⟨"CaseTree", "cases", "()I"⟩ ∈ zb := zb_in 663 (by decide +kernel) (by decide +kernel)
theorem zc_M_cases : Cond.code ⟨"CaseTreeModel", "cases", "()I"⟩ prog_12_method_44_code 1 (some .int) ∈ zb := zb_in 980 (by decide +kernel) (by decide +kernel)
theorem zl_L_62 : Cond.methodLink "CaseTreeLaw" 62 ⟨"CaseTreeModel", "cases", "()I"⟩ ∈ zb := zb_in 977 (by decide +kernel) (by decide +kernel)
theorem zim_M_cases : Cond.instanceMethod ⟨"CaseTreeModel", "cases", "()I"⟩ ∈ zb := zb_in 978 (by decide +kernel) (by decide +kernel)
theorem zsel_M_cases : Cond.selects "CaseTreeModel" ⟨"CaseTreeModel", "cases", "()I"⟩ ⟨"CaseTreeModel", "cases", "()I"⟩ ∈ zb := zb_in 979 (by decide +kernel) (by decide +kernel)
theorem zc_C_nodes : Cond.code ⟨"CaseTree", "nodes", "()I"⟩ prog_1_method_13_code 1 (some .int) ∈ zb := zb_in 668 (by decide +kernel) (by decide +kernel)
theorem zl_L_63 : Cond.methodLink "CaseTreeLaw" 63 ⟨"CaseTree", "nodes", "()I"⟩ ∈ zb := zb_in 665 (by decide +kernel) (by decide +kernel)
theorem zim_C_nodes : Cond.instanceMethod ⟨"CaseTree", "nodes", "()I"⟩ ∈ zb := zb_in 666 (by decide +kernel) (by decide +kernel)
theorem zsel_C_nodes : Cond.selects "CaseTree" ⟨"CaseTree", "nodes", "()I"⟩ ⟨"CaseTree", "nodes", "()I"⟩ ∈ zb := zb_in 667 (by decide +kernel) (by decide +kernel)
theorem zl_L_66 : Cond.methodLink "CaseTreeLaw" 66 ⟨"CaseTreeModel", "nodes", "()I"⟩ ∈ zb := zb_in 981 (by decide +kernel) (by decide +kernel)
theorem zc_C_tested : Cond.code ⟨"CaseTree", "tested", "(I)I"⟩ prog_1_method_14_code 2 (some .int) ∈ zb := zb_in 672 (by decide +kernel) (by decide +kernel)
theorem zl_L_67 : Cond.methodLink "CaseTreeLaw" 67 ⟨"CaseTree", "tested", "(I)I"⟩ ∈ zb := zb_in 669 (by decide +kernel) (by decide +kernel)
theorem zim_C_tested : Cond.instanceMethod ⟨"CaseTree", "tested", "(I)I"⟩ ∈ zb := zb_in 670 (by decide +kernel) (by decide +kernel)
theorem zsel_C_tested : Cond.selects "CaseTree" ⟨"CaseTree", "tested", "(I)I"⟩ ⟨"CaseTree", "tested", "(I)I"⟩ ∈ zb := zb_in 671 (by decide +kernel) (by decide +kernel)
theorem zc_M_tested : Cond.code ⟨"CaseTreeModel", "tested", "(I)I"⟩ prog_12_method_47_code 3 (some .int) ∈ zb := zb_in 985 (by decide +kernel) (by decide +kernel)
theorem zl_L_70 : Cond.methodLink "CaseTreeLaw" 70 ⟨"CaseTreeModel", "tested", "(I)I"⟩ ∈ zb := zb_in 982 (by decide +kernel) (by decide +kernel)
theorem zim_M_tested : Cond.instanceMethod ⟨"CaseTreeModel", "tested", "(I)I"⟩ ∈ zb := zb_in 983 (by decide +kernel) (by decide +kernel)
theorem zsel_M_tested : Cond.selects "CaseTreeModel" ⟨"CaseTreeModel", "tested", "(I)I"⟩ ⟨"CaseTreeModel", "tested", "(I)I"⟩ ∈ zb := zb_in 984 (by decide +kernel) (by decide +kernel)
theorem zc_C_threshold : Cond.code ⟨"CaseTree", "threshold", "(I)I"⟩ prog_1_method_15_code 2 (some .int) ∈ zb := zb_in 680 (by decide +kernel) (by decide +kernel)
theorem zl_L_71 : Cond.methodLink "CaseTreeLaw" 71 ⟨"CaseTree", "threshold", "(I)I"⟩ ∈ zb := zb_in 677 (by decide +kernel) (by decide +kernel)
theorem zim_C_threshold : Cond.instanceMethod ⟨"CaseTree", "threshold", "(I)I"⟩ ∈ zb := zb_in 678 (by decide +kernel) (by decide +kernel)
theorem zsel_C_threshold : Cond.selects "CaseTree" ⟨"CaseTree", "threshold", "(I)I"⟩ ⟨"CaseTree", "threshold", "(I)I"⟩ ∈ zb := zb_in 679 (by decide +kernel) (by decide +kernel)
theorem zc_M_threshold : Cond.code ⟨"CaseTreeModel", "threshold", "(I)I"⟩ prog_12_method_48_code 3 (some .int) ∈ zb := zb_in 993 (by decide +kernel) (by decide +kernel)
theorem zl_L_74 : Cond.methodLink "CaseTreeLaw" 74 ⟨"CaseTreeModel", "threshold", "(I)I"⟩ ∈ zb := zb_in 990 (by decide +kernel) (by decide +kernel)
theorem zim_M_threshold : Cond.instanceMethod ⟨"CaseTreeModel", "threshold", "(I)I"⟩ ∈ zb := zb_in 991 (by decide +kernel) (by decide +kernel)
theorem zsel_M_threshold : Cond.selects "CaseTreeModel" ⟨"CaseTreeModel", "threshold", "(I)I"⟩ ⟨"CaseTreeModel", "threshold", "(I)I"⟩ ∈ zb := zb_in 992 (by decide +kernel) (by decide +kernel)
theorem zc_C_child : Cond.code ⟨"CaseTree", "child", "(II)I"⟩ prog_1_method_16_code 3 (some .int) ∈ zb := zb_in 684 (by decide +kernel) (by decide +kernel)
theorem zl_L_75 : Cond.methodLink "CaseTreeLaw" 75 ⟨"CaseTree", "child", "(II)I"⟩ ∈ zb := zb_in 681 (by decide +kernel) (by decide +kernel)
theorem zim_C_child : Cond.instanceMethod ⟨"CaseTree", "child", "(II)I"⟩ ∈ zb := zb_in 682 (by decide +kernel) (by decide +kernel)
theorem zsel_C_child : Cond.selects "CaseTree" ⟨"CaseTree", "child", "(II)I"⟩ ⟨"CaseTree", "child", "(II)I"⟩ ∈ zb := zb_in 683 (by decide +kernel) (by decide +kernel)
theorem zc_M_child : Cond.code ⟨"CaseTreeModel", "child", "(II)I"⟩ prog_12_method_49_code 6 (some .int) ∈ zb := zb_in 997 (by decide +kernel) (by decide +kernel)
theorem zl_L_78 : Cond.methodLink "CaseTreeLaw" 78 ⟨"CaseTreeModel", "child", "(II)I"⟩ ∈ zb := zb_in 994 (by decide +kernel) (by decide +kernel)
theorem zim_M_child : Cond.instanceMethod ⟨"CaseTreeModel", "child", "(II)I"⟩ ∈ zb := zb_in 995 (by decide +kernel) (by decide +kernel)
theorem zsel_M_child : Cond.selects "CaseTreeModel" ⟨"CaseTreeModel", "child", "(II)I"⟩ ⟨"CaseTreeModel", "child", "(II)I"⟩ ∈ zb := zb_in 996 (by decide +kernel) (by decide +kernel)
theorem zc_C_classOf : Cond.code ⟨"CaseTree", "classOf", "(I)I"⟩ prog_1_method_17_code 2 (some .int) ∈ zb := zb_in 694 (by decide +kernel) (by decide +kernel)
theorem zl_L_79 : Cond.methodLink "CaseTreeLaw" 79 ⟨"CaseTree", "classOf", "(I)I"⟩ ∈ zb := zb_in 691 (by decide +kernel) (by decide +kernel)
theorem zim_C_classOf : Cond.instanceMethod ⟨"CaseTree", "classOf", "(I)I"⟩ ∈ zb := zb_in 692 (by decide +kernel) (by decide +kernel)
theorem zsel_C_classOf : Cond.selects "CaseTree" ⟨"CaseTree", "classOf", "(I)I"⟩ ⟨"CaseTree", "classOf", "(I)I"⟩ ∈ zb := zb_in 693 (by decide +kernel) (by decide +kernel)
theorem zc_M_classOf : Cond.code ⟨"CaseTreeModel", "classOf", "(I)I"⟩ prog_12_method_50_code 3 (some .int) ∈ zb := zb_in 1001 (by decide +kernel) (by decide +kernel)
theorem zl_L_82 : Cond.methodLink "CaseTreeLaw" 82 ⟨"CaseTreeModel", "classOf", "(I)I"⟩ ∈ zb := zb_in 998 (by decide +kernel) (by decide +kernel)
theorem zim_M_classOf : Cond.instanceMethod ⟨"CaseTreeModel", "classOf", "(I)I"⟩ ∈ zb := zb_in 999 (by decide +kernel) (by decide +kernel)
theorem zsel_M_classOf : Cond.selects "CaseTreeModel" ⟨"CaseTreeModel", "classOf", "(I)I"⟩ ⟨"CaseTreeModel", "classOf", "(I)I"⟩ ∈ zb := zb_in 1000 (by decide +kernel) (by decide +kernel)
theorem zc_C_weight : Cond.code ⟨"CaseTree", "weight", "(II)I"⟩ prog_1_method_18_code 3 (some .int) ∈ zb := zb_in 698 (by decide +kernel) (by decide +kernel)
theorem zl_L_83 : Cond.methodLink "CaseTreeLaw" 83 ⟨"CaseTree", "weight", "(II)I"⟩ ∈ zb := zb_in 695 (by decide +kernel) (by decide +kernel)
theorem zim_C_weight : Cond.instanceMethod ⟨"CaseTree", "weight", "(II)I"⟩ ∈ zb := zb_in 696 (by decide +kernel) (by decide +kernel)
theorem zsel_C_weight : Cond.selects "CaseTree" ⟨"CaseTree", "weight", "(II)I"⟩ ⟨"CaseTree", "weight", "(II)I"⟩ ∈ zb := zb_in 697 (by decide +kernel) (by decide +kernel)
theorem zc_M_weight : Cond.code ⟨"CaseTreeModel", "weight", "(II)I"⟩ prog_12_method_51_code 4 (some .int) ∈ zb := zb_in 1005 (by decide +kernel) (by decide +kernel)
theorem zl_L_86 : Cond.methodLink "CaseTreeLaw" 86 ⟨"CaseTreeModel", "weight", "(II)I"⟩ ∈ zb := zb_in 1002 (by decide +kernel) (by decide +kernel)
theorem zim_M_weight : Cond.instanceMethod ⟨"CaseTreeModel", "weight", "(II)I"⟩ ∈ zb := zb_in 1003 (by decide +kernel) (by decide +kernel)
theorem zsel_M_weight : Cond.selects "CaseTreeModel" ⟨"CaseTreeModel", "weight", "(II)I"⟩ ⟨"CaseTreeModel", "weight", "(II)I"⟩ ∈ zb := zb_in 1004 (by decide +kernel) (by decide +kernel)
theorem zc_C_part : Cond.code ⟨"CaseTree", "part", "(II)I"⟩ prog_1_method_19_code 3 (some .int) ∈ zb := zb_in 702 (by decide +kernel) (by decide +kernel)
theorem zl_L_87 : Cond.methodLink "CaseTreeLaw" 87 ⟨"CaseTree", "part", "(II)I"⟩ ∈ zb := zb_in 699 (by decide +kernel) (by decide +kernel)
theorem zim_C_part : Cond.instanceMethod ⟨"CaseTree", "part", "(II)I"⟩ ∈ zb := zb_in 700 (by decide +kernel) (by decide +kernel)
theorem zsel_C_part : Cond.selects "CaseTree" ⟨"CaseTree", "part", "(II)I"⟩ ⟨"CaseTree", "part", "(II)I"⟩ ∈ zb := zb_in 701 (by decide +kernel) (by decide +kernel)
theorem zc_M_part : Cond.code ⟨"CaseTreeModel", "part", "(II)I"⟩ prog_12_method_52_code 4 (some .int) ∈ zb := zb_in 1009 (by decide +kernel) (by decide +kernel)
theorem zl_L_90 : Cond.methodLink "CaseTreeLaw" 90 ⟨"CaseTreeModel", "part", "(II)I"⟩ ∈ zb := zb_in 1006 (by decide +kernel) (by decide +kernel)
theorem zim_M_part : Cond.instanceMethod ⟨"CaseTreeModel", "part", "(II)I"⟩ ∈ zb := zb_in 1007 (by decide +kernel) (by decide +kernel)
theorem zsel_M_part : Cond.selects "CaseTreeModel" ⟨"CaseTreeModel", "part", "(II)I"⟩ ⟨"CaseTreeModel", "part", "(II)I"⟩ ∈ zb := zb_in 1008 (by decide +kernel) (by decide +kernel)
theorem zc_C_log : Cond.code ⟨"CaseTree", "log", "(I)I"⟩ prog_1_method_20_code 2 (some .int) ∈ zb := zb_in 706 (by decide +kernel) (by decide +kernel)
theorem zl_L_91 : Cond.methodLink "CaseTreeLaw" 91 ⟨"CaseTree", "log", "(I)I"⟩ ∈ zb := zb_in 703 (by decide +kernel) (by decide +kernel)
theorem zim_C_log : Cond.instanceMethod ⟨"CaseTree", "log", "(I)I"⟩ ∈ zb := zb_in 704 (by decide +kernel) (by decide +kernel)
theorem zsel_C_log : Cond.selects "CaseTree" ⟨"CaseTree", "log", "(I)I"⟩ ⟨"CaseTree", "log", "(I)I"⟩ ∈ zb := zb_in 705 (by decide +kernel) (by decide +kernel)
theorem zc_M_log : Cond.code ⟨"CaseTreeModel", "log", "(I)I"⟩ prog_12_method_5_code 2 (some .int) ∈ zb := zb_in 807 (by decide +kernel) (by decide +kernel)
theorem zl_L_94 : Cond.methodLink "CaseTreeLaw" 94 ⟨"CaseTreeModel", "log", "(I)I"⟩ ∈ zb := zb_in 804 (by decide +kernel) (by decide +kernel)
theorem zim_M_log : Cond.instanceMethod ⟨"CaseTreeModel", "log", "(I)I"⟩ ∈ zb := zb_in 805 (by decide +kernel) (by decide +kernel)
theorem zsel_M_log : Cond.selects "CaseTreeModel" ⟨"CaseTreeModel", "log", "(I)I"⟩ ⟨"CaseTreeModel", "log", "(I)I"⟩ ∈ zb := zb_in 806 (by decide +kernel) (by decide +kernel)
theorem zs_sl {N : Nat} {xs : Nat → Int32} {pc : Nat} (hd : decode code pc = .ok (.iaload, 1)) : ze_snd zI (zLx N xs) zi_L pc (zo_sl N xs) := by
  intro M l d G R cs sl p e s m args below meth c Q Qc free hcx L st σ h H locs ls hP hS hL
  obtain ⟨hx, hb, -, hown, hts, hK, hi, -, -, -, -, hE, -⟩ := hcx
  obtain ⟨j, r_1, rfl, h_1⟩ := ze_pi_pre (st := st) h
  obtain ⟨k, r_2, rfl, h_2⟩ := ze_pr_pre (st := r_1) h_1
  obtain ⟨rfl, hin⟩ := And.left h_2
  exact va_sld hx hb hE.1 hE.2.1 hE.2.2 hS hin hd (And.right h_2 H locs ls hP hS hL)
theorem zs_sn {N : Nat} {xs : Nat → Int32} {pc : Nat} (hd : decode code pc = .ok (.arraylength, 1)) : ze_snd zI (zLx N xs) zi_L pc (zo_sn N) := by
  intro M l d G R cs sl p e s m args below meth c Q Qc free hcx L st σ h H locs ls hP hS hL
  obtain ⟨hx, hb, -, hown, hts, hK, hi, -, -, -, -, hE, -⟩ := hcx
  obtain ⟨k, r_1, rfl, h_1⟩ := ze_pr_pre (st := st) h
  have hk : k = 99 := And.left h_1
  subst hk
  exact va_slen hx hb hE.1 hE.2.1 hE.2.2 hS hd (And.right h_1 H locs ls hP hS hL)
theorem zts_ok : ∀ n, n < 19 → (#[91, 114, 177, 200, 223, 276, 299, 312, 346, 380, 413, 426, 439, 462, 485, 518, 541, 574, 607] : Array Int)[n]? = some (((ztgs.getD n 663 : Nat) : Int) - 33) := by decide +kernel
theorem zd_ts : decode code 33 = .ok (.tableswitch 630 0 18 #[91, 114, 177, 200, 223, 276, 299, 312, 346, 380, 413, 426, 439, 462, 485, 518, 541, 574, 607], 91) := by decide +kernel
theorem zs_ts {N : Nat} {xs : Nat → Int32} : ze_snd zI (zLx N xs) zi_L 33 zo_ts := by
  intro M l d G R cs sl p e s m args below meth c Q Qc free hcx L st σ h H locs ls hP hS hL
  obtain ⟨hx, hb, -⟩ := hcx
  obtain ⟨x, r_1, rfl, h_1⟩ := ze_pi_pre (st := st) h
  have h2 := And.right h_1 H locs ls hP hS hL
  by_cases q : x.toInt < 0 ∨ 18 < x.toInt
  · have e : zsw x = 663 := by
      unfold zsw
      rcases q with q | q
      · rw [if_pos q]
      · rw [if_neg (by omega)]
        have : 19 ≤ x.toInt.toNat := by omega
        rw [List.getD_eq_getElem?_getD, List.getElem?_eq_none (by show 19 ≤ _; exact this)]
        rfl
    rw [e] at h2
    exact lv_tableOut hx hb zd_ts q (show ((33 : Nat) : Int) + 630 = ((663 : Nat) : Int) by decide) h2
  · have q1 : ¬ x.toInt < 0 := fun z => q (Or.inl z)
    have q2 : ¬ 18 < x.toInt := fun z => q (Or.inr z)
    have e : zsw x = ztgs.getD x.toInt.toNat 663 := if_neg q1
    have ho := zts_ok x.toInt.toNat (by omega)
    rw [e] at h2
    exact lv_tableIn hx hb zd_ts q1 q2 (by rw [Int.sub_zero]; exact ho) (by omega) h2
def t_L (N : Nat) (xs : Nat → Int32) : ze_T := [(16, zo_k (.int 0) 1), (17, zo_is 3 1), (18, zo_il 3 1), (19, zo_al 0 1), (20, zo_sn N), (21, zo_k (.int 6) 2), (23, zo_isub), (24, zo_cgt 669),
  (27, zo_al 0 1), (28, zo_il 3 1), (29, zo_sl N xs), (30, zo_k (.int 31) 2), (32, zo_iand), (33, zo_ts), (124, zo_al 1 1), (125, zo_al 0 1),
  (126, zo_il 3 1), (127, zo_k (.int 1) 1), (128, zo_iadd), (129, zo_sl N xs), (130, zo_cv 1 0 2), (133, zo_al 2 1), (134, zo_al 0 1), (135, zo_il 3 1),
  (136, zo_k (.int 1) 1), (137, zo_iadd), (138, zo_sl N xs), (139, zo_cv 81 10 2), (142, zo_ceq 663), (145, zo_k (.int 0) 1), (146, zo_zr), (147, zo_al 1 1),
  (148, zo_al 0 1), (149, zo_il 3 1), (150, zo_k (.int 1) 1), (151, zo_iadd), (152, zo_sl N xs), (153, zo_al 0 1), (154, zo_il 3 1), (155, zo_k (.int 2) 1),
  (156, zo_iadd), (157, zo_sl N xs), (158, zo_al 0 1), (159, zo_il 3 1), (160, zo_k (.int 3) 1), (161, zo_iadd), (162, zo_sl N xs), (163, zo_al 0 1),
  (164, zo_il 3 1), (165, zo_k (.int 4) 1), (166, zo_iadd), (167, zo_sl N xs), (168, zo_al 0 1), (169, zo_il 3 1), (170, zo_k (.int 5) 1), (171, zo_iadd),
  (172, zo_sl N xs), (173, zo_cv 2 0 6), (176, zo_al 2 1), (177, zo_al 0 1), (178, zo_il 3 1), (179, zo_k (.int 1) 1), (180, zo_iadd), (181, zo_sl N xs),
  (182, zo_al 0 1), (183, zo_il 3 1), (184, zo_k (.int 2) 1), (185, zo_iadd), (186, zo_sl N xs), (187, zo_al 0 1), (188, zo_il 3 1), (189, zo_k (.int 3) 1),
  (190, zo_iadd), (191, zo_sl N xs), (192, zo_al 0 1), (193, zo_il 3 1), (194, zo_k (.int 4) 1), (195, zo_iadd), (196, zo_sl N xs), (197, zo_al 0 1),
  (198, zo_il 3 1), (199, zo_k (.int 5) 1), (200, zo_iadd), (201, zo_sl N xs), (202, zo_cv 84 10 6), (205, zo_ceq 663), (208, zo_k (.int 0) 1), (209, zo_zr),
  (210, zo_al 1 1), (211, zo_al 0 1), (212, zo_il 3 1), (213, zo_k (.int 1) 1), (214, zo_iadd), (215, zo_sl N xs), (216, zo_cv 3 0 2), (219, zo_al 2 1),
  (220, zo_al 0 1), (221, zo_il 3 1), (222, zo_k (.int 1) 1), (223, zo_iadd), (224, zo_sl N xs), (225, zo_cv 100 10 2), (228, zo_ceq 663), (231, zo_k (.int 0) 1),
  (232, zo_zr), (233, zo_al 1 1), (234, zo_al 0 1), (235, zo_il 3 1), (236, zo_k (.int 1) 1), (237, zo_iadd), (238, zo_sl N xs), (239, zo_cv 4 0 2),
  (242, zo_al 2 1), (243, zo_al 0 1), (244, zo_il 3 1), (245, zo_k (.int 1) 1), (246, zo_iadd), (247, zo_sl N xs), (248, zo_cv 108 10 2), (251, zo_ceq 663),
  (254, zo_k (.int 0) 1), (255, zo_zr), (256, zo_al 1 1), (257, zo_al 0 1), (258, zo_il 3 1), (259, zo_k (.int 1) 1), (260, zo_iadd), (261, zo_sl N xs),
  (262, zo_al 0 1), (263, zo_il 3 1), (264, zo_k (.int 2) 1), (265, zo_iadd), (266, zo_sl N xs), (267, zo_al 0 1), (268, zo_il 3 1), (269, zo_k (.int 3) 1),
  (270, zo_iadd), (271, zo_sl N xs), (272, zo_al 0 1), (273, zo_il 3 1), (274, zo_k (.int 4) 1), (275, zo_iadd), (276, zo_sl N xs), (277, zo_cv 5 0 5),
  (280, zo_al 2 1), (281, zo_al 0 1), (282, zo_il 3 1), (283, zo_k (.int 1) 1), (284, zo_iadd), (285, zo_sl N xs), (286, zo_al 0 1), (287, zo_il 3 1),
  (288, zo_k (.int 2) 1), (289, zo_iadd), (290, zo_sl N xs), (291, zo_al 0 1), (292, zo_il 3 1), (293, zo_k (.int 3) 1), (294, zo_iadd), (295, zo_sl N xs),
  (296, zo_al 0 1), (297, zo_il 3 1), (298, zo_k (.int 4) 1), (299, zo_iadd), (300, zo_sl N xs), (301, zo_cv 112 10 5), (304, zo_ceq 663), (307, zo_k (.int 0) 1),
  (308, zo_zr), (309, zo_al 1 1), (310, zo_al 0 1), (311, zo_il 3 1), (312, zo_k (.int 1) 1), (313, zo_iadd), (314, zo_sl N xs), (315, zo_cv 6 0 2),
  (318, zo_al 2 1), (319, zo_al 0 1), (320, zo_il 3 1), (321, zo_k (.int 1) 1), (322, zo_iadd), (323, zo_sl N xs), (324, zo_cv 113 10 2), (327, zo_ceq 663),
  (330, zo_k (.int 0) 1), (331, zo_zr), (332, zo_al 1 1), (333, zo_cv 7 0 1), (336, zo_al 2 1), (337, zo_cv 114 10 1), (340, zo_ceq 663), (343, zo_k (.int 0) 1),
  (344, zo_zr), (345, zo_al 1 1), (346, zo_al 0 1), (347, zo_il 3 1), (348, zo_k (.int 1) 1), (349, zo_iadd), (350, zo_sl N xs), (351, zo_al 0 1),
  (352, zo_il 3 1), (353, zo_k (.int 2) 1), (354, zo_iadd), (355, zo_sl N xs), (356, zo_cv 8 0 3), (359, zo_al 2 1), (360, zo_al 0 1), (361, zo_il 3 1),
  (362, zo_k (.int 1) 1), (363, zo_iadd), (364, zo_sl N xs), (365, zo_al 0 1), (366, zo_il 3 1), (367, zo_k (.int 2) 1), (368, zo_iadd), (369, zo_sl N xs),
  (370, zo_cv 116 10 3), (373, zo_lcmp), (374, zo_ifeq 663), (377, zo_k (.int 0) 1), (378, zo_zr), (379, zo_al 1 1), (380, zo_al 0 1), (381, zo_il 3 1),
  (382, zo_k (.int 1) 1), (383, zo_iadd), (384, zo_sl N xs), (385, zo_al 0 1), (386, zo_il 3 1), (387, zo_k (.int 2) 1), (388, zo_iadd), (389, zo_sl N xs),
  (390, zo_cv 9 0 3), (393, zo_al 2 1), (394, zo_al 0 1), (395, zo_il 3 1), (396, zo_k (.int 1) 1), (397, zo_iadd), (398, zo_sl N xs), (399, zo_al 0 1),
  (400, zo_il 3 1), (401, zo_k (.int 2) 1), (402, zo_iadd), (403, zo_sl N xs), (404, zo_cv 117 10 3), (407, zo_lcmp), (408, zo_ifeq 663), (411, zo_k (.int 0) 1),
  (412, zo_zr), (413, zo_al 1 1), (414, zo_al 0 1), (415, zo_il 3 1), (416, zo_k (.int 1) 1), (417, zo_iadd), (418, zo_sl N xs), (419, zo_al 0 1),
  (420, zo_il 3 1), (421, zo_k (.int 2) 1), (422, zo_iadd), (423, zo_sl N xs), (424, zo_cv 10 0 3), (427, zo_al 2 1), (428, zo_al 0 1), (429, zo_il 3 1),
  (430, zo_k (.int 1) 1), (431, zo_iadd), (432, zo_sl N xs), (433, zo_al 0 1), (434, zo_il 3 1), (435, zo_k (.int 2) 1), (436, zo_iadd), (437, zo_sl N xs),
  (438, zo_cv 118 10 3), (441, zo_ceq 663), (444, zo_k (.int 0) 1), (445, zo_zr), (446, zo_al 1 1), (447, zo_cv 11 0 1), (450, zo_al 2 1), (451, zo_cv 119 10 1),
  (454, zo_ceq 663), (457, zo_k (.int 0) 1), (458, zo_zr), (459, zo_al 1 1), (460, zo_cv 12 0 1), (463, zo_al 2 1), (464, zo_cv 120 10 1), (467, zo_ceq 663),
  (470, zo_k (.int 0) 1), (471, zo_zr), (472, zo_al 1 1), (473, zo_al 0 1), (474, zo_il 3 1), (475, zo_k (.int 1) 1), (476, zo_iadd), (477, zo_sl N xs),
  (478, zo_cv 13 0 2), (481, zo_al 2 1), (482, zo_al 0 1), (483, zo_il 3 1), (484, zo_k (.int 1) 1), (485, zo_iadd), (486, zo_sl N xs), (487, zo_cv 122 10 2),
  (490, zo_ceq 663), (493, zo_k (.int 0) 1), (494, zo_zr), (495, zo_al 1 1), (496, zo_al 0 1), (497, zo_il 3 1), (498, zo_k (.int 1) 1), (499, zo_iadd),
  (500, zo_sl N xs), (501, zo_cv 14 0 2), (504, zo_al 2 1), (505, zo_al 0 1), (506, zo_il 3 1), (507, zo_k (.int 1) 1), (508, zo_iadd), (509, zo_sl N xs),
  (510, zo_cv 123 10 2), (513, zo_ceq 663), (516, zo_k (.int 0) 1), (517, zo_zr), (518, zo_al 1 1), (519, zo_al 0 1), (520, zo_il 3 1), (521, zo_k (.int 1) 1),
  (522, zo_iadd), (523, zo_sl N xs), (524, zo_al 0 1), (525, zo_il 3 1), (526, zo_k (.int 2) 1), (527, zo_iadd), (528, zo_sl N xs), (529, zo_cv 15 0 3),
  (532, zo_al 2 1), (533, zo_al 0 1), (534, zo_il 3 1), (535, zo_k (.int 1) 1), (536, zo_iadd), (537, zo_sl N xs), (538, zo_al 0 1), (539, zo_il 3 1),
  (540, zo_k (.int 2) 1), (541, zo_iadd), (542, zo_sl N xs), (543, zo_cv 124 10 3), (546, zo_ceq 663), (549, zo_k (.int 0) 1), (550, zo_zr), (551, zo_al 1 1),
  (552, zo_al 0 1), (553, zo_il 3 1), (554, zo_k (.int 1) 1), (555, zo_iadd), (556, zo_sl N xs), (557, zo_cv 16 0 2), (560, zo_al 2 1), (561, zo_al 0 1),
  (562, zo_il 3 1), (563, zo_k (.int 1) 1), (564, zo_iadd), (565, zo_sl N xs), (566, zo_cv 125 10 2), (569, zo_ceq 663), (572, zo_k (.int 0) 1), (573, zo_zr),
  (574, zo_al 1 1), (575, zo_al 0 1), (576, zo_il 3 1), (577, zo_k (.int 1) 1), (578, zo_iadd), (579, zo_sl N xs), (580, zo_al 0 1), (581, zo_il 3 1),
  (582, zo_k (.int 2) 1), (583, zo_iadd), (584, zo_sl N xs), (585, zo_cv 17 0 3), (588, zo_al 2 1), (589, zo_al 0 1), (590, zo_il 3 1), (591, zo_k (.int 1) 1),
  (592, zo_iadd), (593, zo_sl N xs), (594, zo_al 0 1), (595, zo_il 3 1), (596, zo_k (.int 2) 1), (597, zo_iadd), (598, zo_sl N xs), (599, zo_cv 126 10 3),
  (602, zo_ceq 663), (605, zo_k (.int 0) 1), (606, zo_zr), (607, zo_al 1 1), (608, zo_al 0 1), (609, zo_il 3 1), (610, zo_k (.int 1) 1), (611, zo_iadd),
  (612, zo_sl N xs), (613, zo_al 0 1), (614, zo_il 3 1), (615, zo_k (.int 2) 1), (616, zo_iadd), (617, zo_sl N xs), (618, zo_cv 18 0 3), (621, zo_al 2 1),
  (622, zo_al 0 1), (623, zo_il 3 1), (624, zo_k (.int 1) 1), (625, zo_iadd), (626, zo_sl N xs), (627, zo_al 0 1), (628, zo_il 3 1), (629, zo_k (.int 2) 1),
  (630, zo_iadd), (631, zo_sl N xs), (632, zo_cv 127 10 3), (635, zo_ceq 663), (638, zo_k (.int 0) 1), (639, zo_zr), (640, zo_al 1 1), (641, zo_al 0 1),
  (642, zo_il 3 1), (643, zo_k (.int 1) 1), (644, zo_iadd), (645, zo_sl N xs), (646, zo_cv 19 0 2), (649, zo_al 2 1), (650, zo_al 0 1), (651, zo_il 3 1),
  (652, zo_k (.int 1) 1), (653, zo_iadd), (654, zo_sl N xs), (655, zo_cv 80 10 2), (658, zo_ceq 663), (661, zo_k (.int 0) 1), (662, zo_zr), (663, zo_inc 3 6),
  (666, zo_goto 18), (669, zo_k (.int 1) 1), (670, zo_zr)]
set_option maxRecDepth 20000 in
set_option maxHeartbeats 4000000 in
theorem zok_L {N : Nat} {xs : Nat → Int32} : ∀ pc, ze_snd zI (zLx N xs) zi_L pc (ze_lk (t_L N xs) pc) := by
  refine zt_cons (zs_iconst (n := 0) (by decide +kernel) (by decide)) ?_
  refine zt_cons (zs_istore_n (k := 3) (by decide +kernel) rfl (by decide)) ?_
  refine zt_cons (zs_iload_n (k := 3) (by decide +kernel) rfl) ?_
  refine zt_cons (zs_aload_n (k := 0) (by decide +kernel) rfl) ?_
  refine zt_cons (zs_sn (by decide +kernel)) ?_
  refine zt_cons (zs_bipush (n := 6) (by decide +kernel) (by decide)) ?_
  refine zt_cons (zs_isub (by decide +kernel)) ?_
  refine zt_cons (zs_cgt (off := 645) (by decide +kernel) (by decide)) ?_
  refine zt_cons (zs_aload_n (k := 0) (by decide +kernel) rfl) ?_
  refine zt_cons (zs_iload_n (k := 3) (by decide +kernel) rfl) ?_
  refine zt_cons (zs_sl (by decide +kernel)) ?_
  refine zt_cons (zs_bipush (n := 31) (by decide +kernel) (by decide)) ?_
  refine zt_cons (zs_iand (by decide +kernel)) ?_
  refine zt_cons (zs_ts) ?_
  refine zt_cons (zs_aload_n (k := 1) (by decide +kernel) rfl) ?_
  refine zt_cons (zs_aload_n (k := 0) (by decide +kernel) rfl) ?_
  refine zt_cons (zs_iload_n (k := 3) (by decide +kernel) rfl) ?_
  refine zt_cons (zs_iconst (n := 1) (by decide +kernel) (by decide)) ?_
  refine zt_cons (zs_iadd (by decide +kernel)) ?_
  refine zt_cons (zs_sl (by decide +kernel)) ?_
  refine zt_cons (zs_cv (n := 1) (x := 13) (C := "CaseTree") (T := zT_C) (N := 9) zI_1 rfl rfl (by decide) rfl zl_L_13 zim_C_attribute zsel_C_attribute zl_ini_C zc_C_attribute (by decide +kernel) (by decide) (by decide) (by decide +kernel)) ?_
  refine zt_cons (zs_aload_n (k := 2) (by decide +kernel) rfl) ?_
  refine zt_cons (zs_aload_n (k := 0) (by decide +kernel) rfl) ?_
  refine zt_cons (zs_iload_n (k := 3) (by decide +kernel) rfl) ?_
  refine zt_cons (zs_iconst (n := 1) (by decide +kernel) (by decide)) ?_
  refine zt_cons (zs_iadd (by decide +kernel)) ?_
  refine zt_cons (zs_sl (by decide +kernel)) ?_
  refine zt_cons (zs_cv (n := 1) (x := 17) (C := "CaseTreeModel") (T := zT_M) (N := 30) zI_81 rfl rfl (by decide) rfl zl_L_17 zim_M_attribute zsel_M_attribute zl_ini_M zc_M_attribute (by decide +kernel) (by decide) (by decide) (by decide +kernel)) ?_
  refine zt_cons (zs_ceq (off := 521) (by decide +kernel) (by decide)) ?_
  refine zt_cons (zs_iconst (n := 0) (by decide +kernel) (by decide)) ?_
  refine zt_cons (zs_zr rfl (by decide +kernel)) ?_
  refine zt_cons (zs_aload_n (k := 1) (by decide +kernel) rfl) ?_
  refine zt_cons (zs_aload_n (k := 0) (by decide +kernel) rfl) ?_
  refine zt_cons (zs_iload_n (k := 3) (by decide +kernel) rfl) ?_
  refine zt_cons (zs_iconst (n := 1) (by decide +kernel) (by decide)) ?_
  refine zt_cons (zs_iadd (by decide +kernel)) ?_
  refine zt_cons (zs_sl (by decide +kernel)) ?_
  refine zt_cons (zs_aload_n (k := 0) (by decide +kernel) rfl) ?_
  refine zt_cons (zs_iload_n (k := 3) (by decide +kernel) rfl) ?_
  refine zt_cons (zs_iconst (n := 2) (by decide +kernel) (by decide)) ?_
  refine zt_cons (zs_iadd (by decide +kernel)) ?_
  refine zt_cons (zs_sl (by decide +kernel)) ?_
  refine zt_cons (zs_aload_n (k := 0) (by decide +kernel) rfl) ?_
  refine zt_cons (zs_iload_n (k := 3) (by decide +kernel) rfl) ?_
  refine zt_cons (zs_iconst (n := 3) (by decide +kernel) (by decide)) ?_
  refine zt_cons (zs_iadd (by decide +kernel)) ?_
  refine zt_cons (zs_sl (by decide +kernel)) ?_
  refine zt_cons (zs_aload_n (k := 0) (by decide +kernel) rfl) ?_
  refine zt_cons (zs_iload_n (k := 3) (by decide +kernel) rfl) ?_
  refine zt_cons (zs_iconst (n := 4) (by decide +kernel) (by decide)) ?_
  refine zt_cons (zs_iadd (by decide +kernel)) ?_
  refine zt_cons (zs_sl (by decide +kernel)) ?_
  refine zt_cons (zs_aload_n (k := 0) (by decide +kernel) rfl) ?_
  refine zt_cons (zs_iload_n (k := 3) (by decide +kernel) rfl) ?_
  refine zt_cons (zs_iconst (n := 5) (by decide +kernel) (by decide)) ?_
  refine zt_cons (zs_iadd (by decide +kernel)) ?_
  refine zt_cons (zs_sl (by decide +kernel)) ?_
  refine zt_cons (zs_cv (n := 5) (x := 18) (C := "CaseTree") (T := zT_C) (N := 9) zI_2 rfl rfl (by decide) rfl zl_L_18 zim_C_add zsel_C_add zl_ini_C zc_C_add (by decide +kernel) (by decide) (by decide) (by decide +kernel)) ?_
  refine zt_cons (zs_aload_n (k := 2) (by decide +kernel) rfl) ?_
  refine zt_cons (zs_aload_n (k := 0) (by decide +kernel) rfl) ?_
  refine zt_cons (zs_iload_n (k := 3) (by decide +kernel) rfl) ?_
  refine zt_cons (zs_iconst (n := 1) (by decide +kernel) (by decide)) ?_
  refine zt_cons (zs_iadd (by decide +kernel)) ?_
  refine zt_cons (zs_sl (by decide +kernel)) ?_
  refine zt_cons (zs_aload_n (k := 0) (by decide +kernel) rfl) ?_
  refine zt_cons (zs_iload_n (k := 3) (by decide +kernel) rfl) ?_
  refine zt_cons (zs_iconst (n := 2) (by decide +kernel) (by decide)) ?_
  refine zt_cons (zs_iadd (by decide +kernel)) ?_
  refine zt_cons (zs_sl (by decide +kernel)) ?_
  refine zt_cons (zs_aload_n (k := 0) (by decide +kernel) rfl) ?_
  refine zt_cons (zs_iload_n (k := 3) (by decide +kernel) rfl) ?_
  refine zt_cons (zs_iconst (n := 3) (by decide +kernel) (by decide)) ?_
  refine zt_cons (zs_iadd (by decide +kernel)) ?_
  refine zt_cons (zs_sl (by decide +kernel)) ?_
  refine zt_cons (zs_aload_n (k := 0) (by decide +kernel) rfl) ?_
  refine zt_cons (zs_iload_n (k := 3) (by decide +kernel) rfl) ?_
  refine zt_cons (zs_iconst (n := 4) (by decide +kernel) (by decide)) ?_
  refine zt_cons (zs_iadd (by decide +kernel)) ?_
  refine zt_cons (zs_sl (by decide +kernel)) ?_
  refine zt_cons (zs_aload_n (k := 0) (by decide +kernel) rfl) ?_
  refine zt_cons (zs_iload_n (k := 3) (by decide +kernel) rfl) ?_
  refine zt_cons (zs_iconst (n := 5) (by decide +kernel) (by decide)) ?_
  refine zt_cons (zs_iadd (by decide +kernel)) ?_
  refine zt_cons (zs_sl (by decide +kernel)) ?_
  refine zt_cons (zs_cv (n := 5) (x := 22) (C := "CaseTreeModel") (T := zT_M) (N := 30) zI_84 rfl rfl (by decide) rfl zl_L_22 zim_M_add zsel_M_add zl_ini_M zc_M_add (by decide +kernel) (by decide) (by decide) (by decide +kernel)) ?_
  refine zt_cons (zs_ceq (off := 458) (by decide +kernel) (by decide)) ?_
  refine zt_cons (zs_iconst (n := 0) (by decide +kernel) (by decide)) ?_
  refine zt_cons (zs_zr rfl (by decide +kernel)) ?_
  refine zt_cons (zs_aload_n (k := 1) (by decide +kernel) rfl) ?_
  refine zt_cons (zs_aload_n (k := 0) (by decide +kernel) rfl) ?_
  refine zt_cons (zs_iload_n (k := 3) (by decide +kernel) rfl) ?_
  refine zt_cons (zs_iconst (n := 1) (by decide +kernel) (by decide)) ?_
  refine zt_cons (zs_iadd (by decide +kernel)) ?_
  refine zt_cons (zs_sl (by decide +kernel)) ?_
  refine zt_cons (zs_cv (n := 1) (x := 23) (C := "CaseTree") (T := zT_C) (N := 9) zI_3 rfl rfl (by decide) rfl zl_L_23 zim_C_grow zsel_C_grow zl_ini_C zc_C_grow (by decide +kernel) (by decide) (by decide) (by decide +kernel)) ?_
  refine zt_cons (zs_aload_n (k := 2) (by decide +kernel) rfl) ?_
  refine zt_cons (zs_aload_n (k := 0) (by decide +kernel) rfl) ?_
  refine zt_cons (zs_iload_n (k := 3) (by decide +kernel) rfl) ?_
  refine zt_cons (zs_iconst (n := 1) (by decide +kernel) (by decide)) ?_
  refine zt_cons (zs_iadd (by decide +kernel)) ?_
  refine zt_cons (zs_sl (by decide +kernel)) ?_
  refine zt_cons (zs_cv (n := 1) (x := 26) (C := "CaseTreeModel") (T := zT_M) (N := 30) zI_100 rfl rfl (by decide) rfl zl_L_26 zim_M_grow zsel_M_grow zl_ini_M zc_M_grow (by decide +kernel) (by decide) (by decide) (by decide +kernel)) ?_
  refine zt_cons (zs_ceq (off := 435) (by decide +kernel) (by decide)) ?_
  refine zt_cons (zs_iconst (n := 0) (by decide +kernel) (by decide)) ?_
  refine zt_cons (zs_zr rfl (by decide +kernel)) ?_
  refine zt_cons (zs_aload_n (k := 1) (by decide +kernel) rfl) ?_
  refine zt_cons (zs_aload_n (k := 0) (by decide +kernel) rfl) ?_
  refine zt_cons (zs_iload_n (k := 3) (by decide +kernel) rfl) ?_
  refine zt_cons (zs_iconst (n := 1) (by decide +kernel) (by decide)) ?_
  refine zt_cons (zs_iadd (by decide +kernel)) ?_
  refine zt_cons (zs_sl (by decide +kernel)) ?_
  refine zt_cons (zs_cv (n := 1) (x := 27) (C := "CaseTree") (T := zT_C) (N := 9) zI_4 rfl rfl (by decide) rfl zl_L_27 zim_C_prune zsel_C_prune zl_ini_C zc_C_prune (by decide +kernel) (by decide) (by decide) (by decide +kernel)) ?_
  refine zt_cons (zs_aload_n (k := 2) (by decide +kernel) rfl) ?_
  refine zt_cons (zs_aload_n (k := 0) (by decide +kernel) rfl) ?_
  refine zt_cons (zs_iload_n (k := 3) (by decide +kernel) rfl) ?_
  refine zt_cons (zs_iconst (n := 1) (by decide +kernel) (by decide)) ?_
  refine zt_cons (zs_iadd (by decide +kernel)) ?_
  refine zt_cons (zs_sl (by decide +kernel)) ?_
  refine zt_cons (zs_cv (n := 1) (x := 30) (C := "CaseTreeModel") (T := zT_M) (N := 30) zI_108 rfl rfl (by decide) rfl zl_L_30 zim_M_prune zsel_M_prune zl_ini_M zc_M_prune (by decide +kernel) (by decide) (by decide) (by decide +kernel)) ?_
  refine zt_cons (zs_ceq (off := 412) (by decide +kernel) (by decide)) ?_
  refine zt_cons (zs_iconst (n := 0) (by decide +kernel) (by decide)) ?_
  refine zt_cons (zs_zr rfl (by decide +kernel)) ?_
  refine zt_cons (zs_aload_n (k := 1) (by decide +kernel) rfl) ?_
  refine zt_cons (zs_aload_n (k := 0) (by decide +kernel) rfl) ?_
  refine zt_cons (zs_iload_n (k := 3) (by decide +kernel) rfl) ?_
  refine zt_cons (zs_iconst (n := 1) (by decide +kernel) (by decide)) ?_
  refine zt_cons (zs_iadd (by decide +kernel)) ?_
  refine zt_cons (zs_sl (by decide +kernel)) ?_
  refine zt_cons (zs_aload_n (k := 0) (by decide +kernel) rfl) ?_
  refine zt_cons (zs_iload_n (k := 3) (by decide +kernel) rfl) ?_
  refine zt_cons (zs_iconst (n := 2) (by decide +kernel) (by decide)) ?_
  refine zt_cons (zs_iadd (by decide +kernel)) ?_
  refine zt_cons (zs_sl (by decide +kernel)) ?_
  refine zt_cons (zs_aload_n (k := 0) (by decide +kernel) rfl) ?_
  refine zt_cons (zs_iload_n (k := 3) (by decide +kernel) rfl) ?_
  refine zt_cons (zs_iconst (n := 3) (by decide +kernel) (by decide)) ?_
  refine zt_cons (zs_iadd (by decide +kernel)) ?_
  refine zt_cons (zs_sl (by decide +kernel)) ?_
  refine zt_cons (zs_aload_n (k := 0) (by decide +kernel) rfl) ?_
  refine zt_cons (zs_iload_n (k := 3) (by decide +kernel) rfl) ?_
  refine zt_cons (zs_iconst (n := 4) (by decide +kernel) (by decide)) ?_
  refine zt_cons (zs_iadd (by decide +kernel)) ?_
  refine zt_cons (zs_sl (by decide +kernel)) ?_
  refine zt_cons (zs_cv (n := 4) (x := 31) (C := "CaseTree") (T := zT_C) (N := 9) zI_5 rfl rfl (by decide) rfl zl_L_31 zim_C_classify zsel_C_classify zl_ini_C zc_C_classify (by decide +kernel) (by decide) (by decide) (by decide +kernel)) ?_
  refine zt_cons (zs_aload_n (k := 2) (by decide +kernel) rfl) ?_
  refine zt_cons (zs_aload_n (k := 0) (by decide +kernel) rfl) ?_
  refine zt_cons (zs_iload_n (k := 3) (by decide +kernel) rfl) ?_
  refine zt_cons (zs_iconst (n := 1) (by decide +kernel) (by decide)) ?_
  refine zt_cons (zs_iadd (by decide +kernel)) ?_
  refine zt_cons (zs_sl (by decide +kernel)) ?_
  refine zt_cons (zs_aload_n (k := 0) (by decide +kernel) rfl) ?_
  refine zt_cons (zs_iload_n (k := 3) (by decide +kernel) rfl) ?_
  refine zt_cons (zs_iconst (n := 2) (by decide +kernel) (by decide)) ?_
  refine zt_cons (zs_iadd (by decide +kernel)) ?_
  refine zt_cons (zs_sl (by decide +kernel)) ?_
  refine zt_cons (zs_aload_n (k := 0) (by decide +kernel) rfl) ?_
  refine zt_cons (zs_iload_n (k := 3) (by decide +kernel) rfl) ?_
  refine zt_cons (zs_iconst (n := 3) (by decide +kernel) (by decide)) ?_
  refine zt_cons (zs_iadd (by decide +kernel)) ?_
  refine zt_cons (zs_sl (by decide +kernel)) ?_
  refine zt_cons (zs_aload_n (k := 0) (by decide +kernel) rfl) ?_
  refine zt_cons (zs_iload_n (k := 3) (by decide +kernel) rfl) ?_
  refine zt_cons (zs_iconst (n := 4) (by decide +kernel) (by decide)) ?_
  refine zt_cons (zs_iadd (by decide +kernel)) ?_
  refine zt_cons (zs_sl (by decide +kernel)) ?_
  refine zt_cons (zs_cv (n := 4) (x := 35) (C := "CaseTreeModel") (T := zT_M) (N := 30) zI_112 rfl rfl (by decide) rfl zl_L_35 zim_M_classify zsel_M_classify zl_ini_M zc_M_classify (by decide +kernel) (by decide) (by decide) (by decide +kernel)) ?_
  refine zt_cons (zs_ceq (off := 359) (by decide +kernel) (by decide)) ?_
  refine zt_cons (zs_iconst (n := 0) (by decide +kernel) (by decide)) ?_
  refine zt_cons (zs_zr rfl (by decide +kernel)) ?_
  refine zt_cons (zs_aload_n (k := 1) (by decide +kernel) rfl) ?_
  refine zt_cons (zs_aload_n (k := 0) (by decide +kernel) rfl) ?_
  refine zt_cons (zs_iload_n (k := 3) (by decide +kernel) rfl) ?_
  refine zt_cons (zs_iconst (n := 1) (by decide +kernel) (by decide)) ?_
  refine zt_cons (zs_iadd (by decide +kernel)) ?_
  refine zt_cons (zs_sl (by decide +kernel)) ?_
  refine zt_cons (zs_cv (n := 1) (x := 36) (C := "CaseTree") (T := zT_C) (N := 9) zI_6 rfl rfl (by decide) rfl zl_L_36 zim_C_share zsel_C_share zl_ini_C zc_C_share (by decide +kernel) (by decide) (by decide) (by decide +kernel)) ?_
  refine zt_cons (zs_aload_n (k := 2) (by decide +kernel) rfl) ?_
  refine zt_cons (zs_aload_n (k := 0) (by decide +kernel) rfl) ?_
  refine zt_cons (zs_iload_n (k := 3) (by decide +kernel) rfl) ?_
  refine zt_cons (zs_iconst (n := 1) (by decide +kernel) (by decide)) ?_
  refine zt_cons (zs_iadd (by decide +kernel)) ?_
  refine zt_cons (zs_sl (by decide +kernel)) ?_
  refine zt_cons (zs_cv (n := 1) (x := 39) (C := "CaseTreeModel") (T := zT_M) (N := 30) zI_113 rfl rfl (by decide) rfl zl_L_39 zim_M_share zsel_M_share zl_ini_M zc_M_share (by decide +kernel) (by decide) (by decide) (by decide +kernel)) ?_
  refine zt_cons (zs_ceq (off := 336) (by decide +kernel) (by decide)) ?_
  refine zt_cons (zs_iconst (n := 0) (by decide +kernel) (by decide)) ?_
  refine zt_cons (zs_zr rfl (by decide +kernel)) ?_
  refine zt_cons (zs_aload_n (k := 1) (by decide +kernel) rfl) ?_
  refine zt_cons (zs_cv (n := 0) (x := 40) (C := "CaseTree") (T := zT_C) (N := 9) zI_7 rfl rfl (by decide) rfl zl_L_40 zim_C_wrong zsel_C_wrong zl_ini_C zc_C_wrong (by decide +kernel) (by decide) (by decide) (by decide +kernel)) ?_
  refine zt_cons (zs_aload_n (k := 2) (by decide +kernel) rfl) ?_
  refine zt_cons (zs_cv (n := 0) (x := 44) (C := "CaseTreeModel") (T := zT_M) (N := 30) zI_114 rfl rfl (by decide) rfl zl_L_44 zim_M_wrong zsel_M_wrong zl_ini_M zc_M_wrong (by decide +kernel) (by decide) (by decide) (by decide +kernel)) ?_
  refine zt_cons (zs_ceq (off := 323) (by decide +kernel) (by decide)) ?_
  refine zt_cons (zs_iconst (n := 0) (by decide +kernel) (by decide)) ?_
  refine zt_cons (zs_zr rfl (by decide +kernel)) ?_
  refine zt_cons (zs_aload_n (k := 1) (by decide +kernel) rfl) ?_
  refine zt_cons (zs_aload_n (k := 0) (by decide +kernel) rfl) ?_
  refine zt_cons (zs_iload_n (k := 3) (by decide +kernel) rfl) ?_
  refine zt_cons (zs_iconst (n := 1) (by decide +kernel) (by decide)) ?_
  refine zt_cons (zs_iadd (by decide +kernel)) ?_
  refine zt_cons (zs_sl (by decide +kernel)) ?_
  refine zt_cons (zs_aload_n (k := 0) (by decide +kernel) rfl) ?_
  refine zt_cons (zs_iload_n (k := 3) (by decide +kernel) rfl) ?_
  refine zt_cons (zs_iconst (n := 2) (by decide +kernel) (by decide)) ?_
  refine zt_cons (zs_iadd (by decide +kernel)) ?_
  refine zt_cons (zs_sl (by decide +kernel)) ?_
  refine zt_cons (zs_cv (n := 2) (x := 45) (C := "CaseTree") (T := zT_C) (N := 9) zI_8 rfl rfl (by decide) rfl zl_L_45 zim_C_gain zsel_C_gain zl_ini_C zc_C_gain (by decide +kernel) (by decide) (by decide) (by decide +kernel)) ?_
  refine zt_cons (zs_aload_n (k := 2) (by decide +kernel) rfl) ?_
  refine zt_cons (zs_aload_n (k := 0) (by decide +kernel) rfl) ?_
  refine zt_cons (zs_iload_n (k := 3) (by decide +kernel) rfl) ?_
  refine zt_cons (zs_iconst (n := 1) (by decide +kernel) (by decide)) ?_
  refine zt_cons (zs_iadd (by decide +kernel)) ?_
  refine zt_cons (zs_sl (by decide +kernel)) ?_
  refine zt_cons (zs_aload_n (k := 0) (by decide +kernel) rfl) ?_
  refine zt_cons (zs_iload_n (k := 3) (by decide +kernel) rfl) ?_
  refine zt_cons (zs_iconst (n := 2) (by decide +kernel) (by decide)) ?_
  refine zt_cons (zs_iadd (by decide +kernel)) ?_
  refine zt_cons (zs_sl (by decide +kernel)) ?_
  refine zt_cons (zs_cv (n := 2) (x := 49) (C := "CaseTreeModel") (T := zT_M) (N := 30) zI_116 rfl rfl (by decide) rfl zl_L_49 zim_M_gain zsel_M_gain zl_ini_M zc_M_gain (by decide +kernel) (by decide) (by decide) (by decide +kernel)) ?_
  refine zt_cons (zs_lcmp (by decide +kernel)) ?_
  refine zt_cons (zs_ifeq (off := 289) (by decide +kernel) (by decide)) ?_
  refine zt_cons (zs_iconst (n := 0) (by decide +kernel) (by decide)) ?_
  refine zt_cons (zs_zr rfl (by decide +kernel)) ?_
  refine zt_cons (zs_aload_n (k := 1) (by decide +kernel) rfl) ?_
  refine zt_cons (zs_aload_n (k := 0) (by decide +kernel) rfl) ?_
  refine zt_cons (zs_iload_n (k := 3) (by decide +kernel) rfl) ?_
  refine zt_cons (zs_iconst (n := 1) (by decide +kernel) (by decide)) ?_
  refine zt_cons (zs_iadd (by decide +kernel)) ?_
  refine zt_cons (zs_sl (by decide +kernel)) ?_
  refine zt_cons (zs_aload_n (k := 0) (by decide +kernel) rfl) ?_
  refine zt_cons (zs_iload_n (k := 3) (by decide +kernel) rfl) ?_
  refine zt_cons (zs_iconst (n := 2) (by decide +kernel) (by decide)) ?_
  refine zt_cons (zs_iadd (by decide +kernel)) ?_
  refine zt_cons (zs_sl (by decide +kernel)) ?_
  refine zt_cons (zs_cv (n := 2) (x := 50) (C := "CaseTree") (T := zT_C) (N := 9) zI_9 rfl rfl (by decide) rfl zl_L_50 zim_C_split zsel_C_split zl_ini_C zc_C_split (by decide +kernel) (by decide) (by decide) (by decide +kernel)) ?_
  refine zt_cons (zs_aload_n (k := 2) (by decide +kernel) rfl) ?_
  refine zt_cons (zs_aload_n (k := 0) (by decide +kernel) rfl) ?_
  refine zt_cons (zs_iload_n (k := 3) (by decide +kernel) rfl) ?_
  refine zt_cons (zs_iconst (n := 1) (by decide +kernel) (by decide)) ?_
  refine zt_cons (zs_iadd (by decide +kernel)) ?_
  refine zt_cons (zs_sl (by decide +kernel)) ?_
  refine zt_cons (zs_aload_n (k := 0) (by decide +kernel) rfl) ?_
  refine zt_cons (zs_iload_n (k := 3) (by decide +kernel) rfl) ?_
  refine zt_cons (zs_iconst (n := 2) (by decide +kernel) (by decide)) ?_
  refine zt_cons (zs_iadd (by decide +kernel)) ?_
  refine zt_cons (zs_sl (by decide +kernel)) ?_
  refine zt_cons (zs_cv (n := 2) (x := 53) (C := "CaseTreeModel") (T := zT_M) (N := 30) zI_117 rfl rfl (by decide) rfl zl_L_53 zim_M_split zsel_M_split zl_ini_M zc_M_split (by decide +kernel) (by decide) (by decide) (by decide +kernel)) ?_
  refine zt_cons (zs_lcmp (by decide +kernel)) ?_
  refine zt_cons (zs_ifeq (off := 255) (by decide +kernel) (by decide)) ?_
  refine zt_cons (zs_iconst (n := 0) (by decide +kernel) (by decide)) ?_
  refine zt_cons (zs_zr rfl (by decide +kernel)) ?_
  refine zt_cons (zs_aload_n (k := 1) (by decide +kernel) rfl) ?_
  refine zt_cons (zs_aload_n (k := 0) (by decide +kernel) rfl) ?_
  refine zt_cons (zs_iload_n (k := 3) (by decide +kernel) rfl) ?_
  refine zt_cons (zs_iconst (n := 1) (by decide +kernel) (by decide)) ?_
  refine zt_cons (zs_iadd (by decide +kernel)) ?_
  refine zt_cons (zs_sl (by decide +kernel)) ?_
  refine zt_cons (zs_aload_n (k := 0) (by decide +kernel) rfl) ?_
  refine zt_cons (zs_iload_n (k := 3) (by decide +kernel) rfl) ?_
  refine zt_cons (zs_iconst (n := 2) (by decide +kernel) (by decide)) ?_
  refine zt_cons (zs_iadd (by decide +kernel)) ?_
  refine zt_cons (zs_sl (by decide +kernel)) ?_
  refine zt_cons (zs_cv (n := 2) (x := 54) (C := "CaseTree") (T := zT_C) (N := 9) zI_10 rfl rfl (by decide) rfl zl_L_54 zim_C_cut zsel_C_cut zl_ini_C zc_C_cut (by decide +kernel) (by decide) (by decide) (by decide +kernel)) ?_
  refine zt_cons (zs_aload_n (k := 2) (by decide +kernel) rfl) ?_
  refine zt_cons (zs_aload_n (k := 0) (by decide +kernel) rfl) ?_
  refine zt_cons (zs_iload_n (k := 3) (by decide +kernel) rfl) ?_
  refine zt_cons (zs_iconst (n := 1) (by decide +kernel) (by decide)) ?_
  refine zt_cons (zs_iadd (by decide +kernel)) ?_
  refine zt_cons (zs_sl (by decide +kernel)) ?_
  refine zt_cons (zs_aload_n (k := 0) (by decide +kernel) rfl) ?_
  refine zt_cons (zs_iload_n (k := 3) (by decide +kernel) rfl) ?_
  refine zt_cons (zs_iconst (n := 2) (by decide +kernel) (by decide)) ?_
  refine zt_cons (zs_iadd (by decide +kernel)) ?_
  refine zt_cons (zs_sl (by decide +kernel)) ?_
  refine zt_cons (zs_cv (n := 2) (x := 58) (C := "CaseTreeModel") (T := zT_M) (N := 30) zI_118 rfl rfl (by decide) rfl zl_L_58 zim_M_cut zsel_M_cut zl_ini_M zc_M_cut (by decide +kernel) (by decide) (by decide) (by decide +kernel)) ?_
  refine zt_cons (zs_ceq (off := 222) (by decide +kernel) (by decide)) ?_
  refine zt_cons (zs_iconst (n := 0) (by decide +kernel) (by decide)) ?_
  refine zt_cons (zs_zr rfl (by decide +kernel)) ?_
  refine zt_cons (zs_aload_n (k := 1) (by decide +kernel) rfl) ?_
  refine zt_cons (zs_cv (n := 0) (x := 59) (C := "CaseTree") (T := zT_C) (N := 9) zI_11 rfl rfl (by decide) rfl zl_L_59 zim_C_cases zsel_C_cases zl_ini_C zc_C_cases (by decide +kernel) (by decide) (by decide) (by decide +kernel)) ?_
  refine zt_cons (zs_aload_n (k := 2) (by decide +kernel) rfl) ?_
  refine zt_cons (zs_cv (n := 0) (x := 62) (C := "CaseTreeModel") (T := zT_M) (N := 30) zI_119 rfl rfl (by decide) rfl zl_L_62 zim_M_cases zsel_M_cases zl_ini_M zc_M_cases (by decide +kernel) (by decide) (by decide) (by decide +kernel)) ?_
  refine zt_cons (zs_ceq (off := 209) (by decide +kernel) (by decide)) ?_
  refine zt_cons (zs_iconst (n := 0) (by decide +kernel) (by decide)) ?_
  refine zt_cons (zs_zr rfl (by decide +kernel)) ?_
  refine zt_cons (zs_aload_n (k := 1) (by decide +kernel) rfl) ?_
  refine zt_cons (zs_cv (n := 0) (x := 63) (C := "CaseTree") (T := zT_C) (N := 9) zI_12 rfl rfl (by decide) rfl zl_L_63 zim_C_nodes zsel_C_nodes zl_ini_C zc_C_nodes (by decide +kernel) (by decide) (by decide) (by decide +kernel)) ?_
  refine zt_cons (zs_aload_n (k := 2) (by decide +kernel) rfl) ?_
  refine zt_cons (zs_cv (n := 0) (x := 66) (C := "CaseTreeModel") (T := zT_M) (N := 30) zI_120 rfl rfl (by decide) rfl zl_L_66 zim_M_nodes zsel_M_nodes zl_ini_M zc_M_nodes (by decide +kernel) (by decide) (by decide) (by decide +kernel)) ?_
  refine zt_cons (zs_ceq (off := 196) (by decide +kernel) (by decide)) ?_
  refine zt_cons (zs_iconst (n := 0) (by decide +kernel) (by decide)) ?_
  refine zt_cons (zs_zr rfl (by decide +kernel)) ?_
  refine zt_cons (zs_aload_n (k := 1) (by decide +kernel) rfl) ?_
  refine zt_cons (zs_aload_n (k := 0) (by decide +kernel) rfl) ?_
  refine zt_cons (zs_iload_n (k := 3) (by decide +kernel) rfl) ?_
  refine zt_cons (zs_iconst (n := 1) (by decide +kernel) (by decide)) ?_
  refine zt_cons (zs_iadd (by decide +kernel)) ?_
  refine zt_cons (zs_sl (by decide +kernel)) ?_
  refine zt_cons (zs_cv (n := 1) (x := 67) (C := "CaseTree") (T := zT_C) (N := 9) zI_13 rfl rfl (by decide) rfl zl_L_67 zim_C_tested zsel_C_tested zl_ini_C zc_C_tested (by decide +kernel) (by decide) (by decide) (by decide +kernel)) ?_
  refine zt_cons (zs_aload_n (k := 2) (by decide +kernel) rfl) ?_
  refine zt_cons (zs_aload_n (k := 0) (by decide +kernel) rfl) ?_
  refine zt_cons (zs_iload_n (k := 3) (by decide +kernel) rfl) ?_
  refine zt_cons (zs_iconst (n := 1) (by decide +kernel) (by decide)) ?_
  refine zt_cons (zs_iadd (by decide +kernel)) ?_
  refine zt_cons (zs_sl (by decide +kernel)) ?_
  refine zt_cons (zs_cv (n := 1) (x := 70) (C := "CaseTreeModel") (T := zT_M) (N := 30) zI_122 rfl rfl (by decide) rfl zl_L_70 zim_M_tested zsel_M_tested zl_ini_M zc_M_tested (by decide +kernel) (by decide) (by decide) (by decide +kernel)) ?_
  refine zt_cons (zs_ceq (off := 173) (by decide +kernel) (by decide)) ?_
  refine zt_cons (zs_iconst (n := 0) (by decide +kernel) (by decide)) ?_
  refine zt_cons (zs_zr rfl (by decide +kernel)) ?_
  refine zt_cons (zs_aload_n (k := 1) (by decide +kernel) rfl) ?_
  refine zt_cons (zs_aload_n (k := 0) (by decide +kernel) rfl) ?_
  refine zt_cons (zs_iload_n (k := 3) (by decide +kernel) rfl) ?_
  refine zt_cons (zs_iconst (n := 1) (by decide +kernel) (by decide)) ?_
  refine zt_cons (zs_iadd (by decide +kernel)) ?_
  refine zt_cons (zs_sl (by decide +kernel)) ?_
  refine zt_cons (zs_cv (n := 1) (x := 71) (C := "CaseTree") (T := zT_C) (N := 9) zI_14 rfl rfl (by decide) rfl zl_L_71 zim_C_threshold zsel_C_threshold zl_ini_C zc_C_threshold (by decide +kernel) (by decide) (by decide) (by decide +kernel)) ?_
  refine zt_cons (zs_aload_n (k := 2) (by decide +kernel) rfl) ?_
  refine zt_cons (zs_aload_n (k := 0) (by decide +kernel) rfl) ?_
  refine zt_cons (zs_iload_n (k := 3) (by decide +kernel) rfl) ?_
  refine zt_cons (zs_iconst (n := 1) (by decide +kernel) (by decide)) ?_
  refine zt_cons (zs_iadd (by decide +kernel)) ?_
  refine zt_cons (zs_sl (by decide +kernel)) ?_
  refine zt_cons (zs_cv (n := 1) (x := 74) (C := "CaseTreeModel") (T := zT_M) (N := 30) zI_123 rfl rfl (by decide) rfl zl_L_74 zim_M_threshold zsel_M_threshold zl_ini_M zc_M_threshold (by decide +kernel) (by decide) (by decide) (by decide +kernel)) ?_
  refine zt_cons (zs_ceq (off := 150) (by decide +kernel) (by decide)) ?_
  refine zt_cons (zs_iconst (n := 0) (by decide +kernel) (by decide)) ?_
  refine zt_cons (zs_zr rfl (by decide +kernel)) ?_
  refine zt_cons (zs_aload_n (k := 1) (by decide +kernel) rfl) ?_
  refine zt_cons (zs_aload_n (k := 0) (by decide +kernel) rfl) ?_
  refine zt_cons (zs_iload_n (k := 3) (by decide +kernel) rfl) ?_
  refine zt_cons (zs_iconst (n := 1) (by decide +kernel) (by decide)) ?_
  refine zt_cons (zs_iadd (by decide +kernel)) ?_
  refine zt_cons (zs_sl (by decide +kernel)) ?_
  refine zt_cons (zs_aload_n (k := 0) (by decide +kernel) rfl) ?_
  refine zt_cons (zs_iload_n (k := 3) (by decide +kernel) rfl) ?_
  refine zt_cons (zs_iconst (n := 2) (by decide +kernel) (by decide)) ?_
  refine zt_cons (zs_iadd (by decide +kernel)) ?_
  refine zt_cons (zs_sl (by decide +kernel)) ?_
  refine zt_cons (zs_cv (n := 2) (x := 75) (C := "CaseTree") (T := zT_C) (N := 9) zI_15 rfl rfl (by decide) rfl zl_L_75 zim_C_child zsel_C_child zl_ini_C zc_C_child (by decide +kernel) (by decide) (by decide) (by decide +kernel)) ?_
  refine zt_cons (zs_aload_n (k := 2) (by decide +kernel) rfl) ?_
  refine zt_cons (zs_aload_n (k := 0) (by decide +kernel) rfl) ?_
  refine zt_cons (zs_iload_n (k := 3) (by decide +kernel) rfl) ?_
  refine zt_cons (zs_iconst (n := 1) (by decide +kernel) (by decide)) ?_
  refine zt_cons (zs_iadd (by decide +kernel)) ?_
  refine zt_cons (zs_sl (by decide +kernel)) ?_
  refine zt_cons (zs_aload_n (k := 0) (by decide +kernel) rfl) ?_
  refine zt_cons (zs_iload_n (k := 3) (by decide +kernel) rfl) ?_
  refine zt_cons (zs_iconst (n := 2) (by decide +kernel) (by decide)) ?_
  refine zt_cons (zs_iadd (by decide +kernel)) ?_
  refine zt_cons (zs_sl (by decide +kernel)) ?_
  refine zt_cons (zs_cv (n := 2) (x := 78) (C := "CaseTreeModel") (T := zT_M) (N := 30) zI_124 rfl rfl (by decide) rfl zl_L_78 zim_M_child zsel_M_child zl_ini_M zc_M_child (by decide +kernel) (by decide) (by decide) (by decide +kernel)) ?_
  refine zt_cons (zs_ceq (off := 117) (by decide +kernel) (by decide)) ?_
  refine zt_cons (zs_iconst (n := 0) (by decide +kernel) (by decide)) ?_
  refine zt_cons (zs_zr rfl (by decide +kernel)) ?_
  refine zt_cons (zs_aload_n (k := 1) (by decide +kernel) rfl) ?_
  refine zt_cons (zs_aload_n (k := 0) (by decide +kernel) rfl) ?_
  refine zt_cons (zs_iload_n (k := 3) (by decide +kernel) rfl) ?_
  refine zt_cons (zs_iconst (n := 1) (by decide +kernel) (by decide)) ?_
  refine zt_cons (zs_iadd (by decide +kernel)) ?_
  refine zt_cons (zs_sl (by decide +kernel)) ?_
  refine zt_cons (zs_cv (n := 1) (x := 79) (C := "CaseTree") (T := zT_C) (N := 9) zI_16 rfl rfl (by decide) rfl zl_L_79 zim_C_classOf zsel_C_classOf zl_ini_C zc_C_classOf (by decide +kernel) (by decide) (by decide) (by decide +kernel)) ?_
  refine zt_cons (zs_aload_n (k := 2) (by decide +kernel) rfl) ?_
  refine zt_cons (zs_aload_n (k := 0) (by decide +kernel) rfl) ?_
  refine zt_cons (zs_iload_n (k := 3) (by decide +kernel) rfl) ?_
  refine zt_cons (zs_iconst (n := 1) (by decide +kernel) (by decide)) ?_
  refine zt_cons (zs_iadd (by decide +kernel)) ?_
  refine zt_cons (zs_sl (by decide +kernel)) ?_
  refine zt_cons (zs_cv (n := 1) (x := 82) (C := "CaseTreeModel") (T := zT_M) (N := 30) zI_125 rfl rfl (by decide) rfl zl_L_82 zim_M_classOf zsel_M_classOf zl_ini_M zc_M_classOf (by decide +kernel) (by decide) (by decide) (by decide +kernel)) ?_
  refine zt_cons (zs_ceq (off := 94) (by decide +kernel) (by decide)) ?_
  refine zt_cons (zs_iconst (n := 0) (by decide +kernel) (by decide)) ?_
  refine zt_cons (zs_zr rfl (by decide +kernel)) ?_
  refine zt_cons (zs_aload_n (k := 1) (by decide +kernel) rfl) ?_
  refine zt_cons (zs_aload_n (k := 0) (by decide +kernel) rfl) ?_
  refine zt_cons (zs_iload_n (k := 3) (by decide +kernel) rfl) ?_
  refine zt_cons (zs_iconst (n := 1) (by decide +kernel) (by decide)) ?_
  refine zt_cons (zs_iadd (by decide +kernel)) ?_
  refine zt_cons (zs_sl (by decide +kernel)) ?_
  refine zt_cons (zs_aload_n (k := 0) (by decide +kernel) rfl) ?_
  refine zt_cons (zs_iload_n (k := 3) (by decide +kernel) rfl) ?_
  refine zt_cons (zs_iconst (n := 2) (by decide +kernel) (by decide)) ?_
  refine zt_cons (zs_iadd (by decide +kernel)) ?_
  refine zt_cons (zs_sl (by decide +kernel)) ?_
  refine zt_cons (zs_cv (n := 2) (x := 83) (C := "CaseTree") (T := zT_C) (N := 9) zI_17 rfl rfl (by decide) rfl zl_L_83 zim_C_weight zsel_C_weight zl_ini_C zc_C_weight (by decide +kernel) (by decide) (by decide) (by decide +kernel)) ?_
  refine zt_cons (zs_aload_n (k := 2) (by decide +kernel) rfl) ?_
  refine zt_cons (zs_aload_n (k := 0) (by decide +kernel) rfl) ?_
  refine zt_cons (zs_iload_n (k := 3) (by decide +kernel) rfl) ?_
  refine zt_cons (zs_iconst (n := 1) (by decide +kernel) (by decide)) ?_
  refine zt_cons (zs_iadd (by decide +kernel)) ?_
  refine zt_cons (zs_sl (by decide +kernel)) ?_
  refine zt_cons (zs_aload_n (k := 0) (by decide +kernel) rfl) ?_
  refine zt_cons (zs_iload_n (k := 3) (by decide +kernel) rfl) ?_
  refine zt_cons (zs_iconst (n := 2) (by decide +kernel) (by decide)) ?_
  refine zt_cons (zs_iadd (by decide +kernel)) ?_
  refine zt_cons (zs_sl (by decide +kernel)) ?_
  refine zt_cons (zs_cv (n := 2) (x := 86) (C := "CaseTreeModel") (T := zT_M) (N := 30) zI_126 rfl rfl (by decide) rfl zl_L_86 zim_M_weight zsel_M_weight zl_ini_M zc_M_weight (by decide +kernel) (by decide) (by decide) (by decide +kernel)) ?_
  refine zt_cons (zs_ceq (off := 61) (by decide +kernel) (by decide)) ?_
  refine zt_cons (zs_iconst (n := 0) (by decide +kernel) (by decide)) ?_
  refine zt_cons (zs_zr rfl (by decide +kernel)) ?_
  refine zt_cons (zs_aload_n (k := 1) (by decide +kernel) rfl) ?_
  refine zt_cons (zs_aload_n (k := 0) (by decide +kernel) rfl) ?_
  refine zt_cons (zs_iload_n (k := 3) (by decide +kernel) rfl) ?_
  refine zt_cons (zs_iconst (n := 1) (by decide +kernel) (by decide)) ?_
  refine zt_cons (zs_iadd (by decide +kernel)) ?_
  refine zt_cons (zs_sl (by decide +kernel)) ?_
  refine zt_cons (zs_aload_n (k := 0) (by decide +kernel) rfl) ?_
  refine zt_cons (zs_iload_n (k := 3) (by decide +kernel) rfl) ?_
  refine zt_cons (zs_iconst (n := 2) (by decide +kernel) (by decide)) ?_
  refine zt_cons (zs_iadd (by decide +kernel)) ?_
  refine zt_cons (zs_sl (by decide +kernel)) ?_
  refine zt_cons (zs_cv (n := 2) (x := 87) (C := "CaseTree") (T := zT_C) (N := 9) zI_18 rfl rfl (by decide) rfl zl_L_87 zim_C_part zsel_C_part zl_ini_C zc_C_part (by decide +kernel) (by decide) (by decide) (by decide +kernel)) ?_
  refine zt_cons (zs_aload_n (k := 2) (by decide +kernel) rfl) ?_
  refine zt_cons (zs_aload_n (k := 0) (by decide +kernel) rfl) ?_
  refine zt_cons (zs_iload_n (k := 3) (by decide +kernel) rfl) ?_
  refine zt_cons (zs_iconst (n := 1) (by decide +kernel) (by decide)) ?_
  refine zt_cons (zs_iadd (by decide +kernel)) ?_
  refine zt_cons (zs_sl (by decide +kernel)) ?_
  refine zt_cons (zs_aload_n (k := 0) (by decide +kernel) rfl) ?_
  refine zt_cons (zs_iload_n (k := 3) (by decide +kernel) rfl) ?_
  refine zt_cons (zs_iconst (n := 2) (by decide +kernel) (by decide)) ?_
  refine zt_cons (zs_iadd (by decide +kernel)) ?_
  refine zt_cons (zs_sl (by decide +kernel)) ?_
  refine zt_cons (zs_cv (n := 2) (x := 90) (C := "CaseTreeModel") (T := zT_M) (N := 30) zI_127 rfl rfl (by decide) rfl zl_L_90 zim_M_part zsel_M_part zl_ini_M zc_M_part (by decide +kernel) (by decide) (by decide) (by decide +kernel)) ?_
  refine zt_cons (zs_ceq (off := 28) (by decide +kernel) (by decide)) ?_
  refine zt_cons (zs_iconst (n := 0) (by decide +kernel) (by decide)) ?_
  refine zt_cons (zs_zr rfl (by decide +kernel)) ?_
  refine zt_cons (zs_aload_n (k := 1) (by decide +kernel) rfl) ?_
  refine zt_cons (zs_aload_n (k := 0) (by decide +kernel) rfl) ?_
  refine zt_cons (zs_iload_n (k := 3) (by decide +kernel) rfl) ?_
  refine zt_cons (zs_iconst (n := 1) (by decide +kernel) (by decide)) ?_
  refine zt_cons (zs_iadd (by decide +kernel)) ?_
  refine zt_cons (zs_sl (by decide +kernel)) ?_
  refine zt_cons (zs_cv (n := 1) (x := 91) (C := "CaseTree") (T := zT_C) (N := 9) zI_19 rfl rfl (by decide) rfl zl_L_91 zim_C_log zsel_C_log zl_ini_C zc_C_log (by decide +kernel) (by decide) (by decide) (by decide +kernel)) ?_
  refine zt_cons (zs_aload_n (k := 2) (by decide +kernel) rfl) ?_
  refine zt_cons (zs_aload_n (k := 0) (by decide +kernel) rfl) ?_
  refine zt_cons (zs_iload_n (k := 3) (by decide +kernel) rfl) ?_
  refine zt_cons (zs_iconst (n := 1) (by decide +kernel) (by decide)) ?_
  refine zt_cons (zs_iadd (by decide +kernel)) ?_
  refine zt_cons (zs_sl (by decide +kernel)) ?_
  refine zt_cons (zs_cv (n := 1) (x := 94) (C := "CaseTreeModel") (T := zT_M) (N := 30) zI_80 rfl rfl (by decide) rfl zl_L_94 zim_M_log zsel_M_log zl_ini_M zc_M_log (by decide +kernel) (by decide) (by decide) (by decide +kernel)) ?_
  refine zt_cons (zs_ceq (off := 5) (by decide +kernel) (by decide)) ?_
  refine zt_cons (zs_iconst (n := 0) (by decide +kernel) (by decide)) ?_
  refine zt_cons (zs_zr rfl (by decide +kernel)) ?_
  refine zt_cons (zs_iinc (n := 6) (by decide +kernel) (by decide) (by decide)) ?_
  refine zt_cons (zs_goto (off := -648) (by decide +kernel) (by decide)) ?_
  refine zt_cons (zs_iconst (n := 1) (by decide +kernel) (by decide)) ?_
  refine zt_cons (zs_zr rfl (by decide +kernel)) ?_
  exact zt_nil
