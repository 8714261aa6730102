def zi_A_fill : ze_I := (⟨"java/util/Arrays", "fill", "([II)V"⟩, prog_14_method_103_code, 4, none, zb)
def t_A_fill : ze_T := [(0, zo_k (.int 0) 1), (1, zo_is 2 1), (2, zo_al 0 1), (3, zo_len), (4, zo_is 3 1), (5, zo_il 2 1), (6, zo_il 3 1), (7, zo_cge 20),
  (10, zo_al 0 1), (11, zo_il 2 1), (12, zo_il 1 1), (13, zo_ias), (14, zo_inc 2 1), (17, zo_goto 5), (20, zo_vr)]
abbrev m_A_fill : Nat := 0
def zi_C_attribute : ze_I := (⟨"CaseTree", "attribute", "(I)I"⟩, prog_1_method_2_code, 3, (some .int), zb)
def t_C_attribute : ze_T := [(0, zo_il 1 1), (1, zo_ifeq 14), (4, zo_il 1 1), (5, zo_k (.int 2) 1), (6, zo_clt 18), (9, zo_il 1 1), (10, zo_k (.int 4) 1), (11, zo_cgt 18),
  (14, zo_k (.int 1) 1), (15, zo_goto 19), (18, zo_k (.int 0) 1), (19, zo_is 2 1), (20, zo_il 2 1), (21, zo_ifeq 34), (24, zo_al 0 1), (25, zo_gc 0 28),
  (28, zo_gi 1 4), (31, zo_ifle 36), (34, zo_k (.int (-1)) 1), (35, zo_ir), (36, zo_al 0 1), (37, zo_gc 0 28), (40, zo_gi 1 3), (43, zo_k (.int 4) 1),
  (44, zo_clt 50), (47, zo_k (.int (-2)) 2), (49, zo_ir), (50, zo_al 0 1), (51, zo_gc 0 28), (54, zo_il 1 1), (55, zo_cv 29 1 2), (58, zo_ir)]
abbrev m_C_attribute : Nat := 1
def zi_C_add : ze_I := (⟨"CaseTree", "add", "(IIIII)I"⟩, prog_1_method_3_code, 6, (some .int), zb)
def t_C_add : ze_T := [(0, zo_al 0 1), (1, zo_il 2 1), (2, zo_il 3 1), (3, zo_il 4 2), (5, zo_il 5 2), (7, zo_cv 20 0 5), (10, zo_il 1 1), (11, zo_cs 22 1),
  (14, zo_ifeq 31), (17, zo_al 0 1), (18, zo_gc 0 28), (21, zo_al 0 1), (22, zo_gc 0 25), (25, zo_cv 35 1 2), (28, zo_ifne 33), (31, zo_k (.int (-1)) 1),
  (32, zo_ir), (33, zo_al 0 1), (34, zo_gc 0 28), (37, zo_gi 1 4), (40, zo_k (.int 24) 2), (42, zo_clt 48), (45, zo_k (.int (-2)) 2), (47, zo_ir),
  (48, zo_al 0 1), (49, zo_gc 0 28), (52, zo_il 1 1), (53, zo_al 0 1), (54, zo_gc 0 25), (57, zo_cv 30 1 3), (60, zo_ir)]
abbrev m_C_add : Nat := 2
def zi_C_grow : ze_I := (⟨"CaseTree", "grow", "(I)I"⟩, prog_1_method_4_code, 2, (some .int), zb)
def t_C_grow : ze_T := [(0, zo_il 1 1), (1, zo_cs 23 1), (4, zo_ifne 9), (7, zo_k (.int (-1)) 1), (8, zo_ir), (9, zo_al 0 1), (10, zo_gc 0 28), (13, zo_gi 1 4),
  (16, zo_ifne 22), (19, zo_k (.int (-3)) 2), (21, zo_ir), (22, zo_al 0 1), (23, zo_gc 0 32), (26, zo_il 1 1), (27, zo_cv 43 4 2), (30, zo_al 0 1),
  (31, zo_gc 0 29), (34, zo_gi 9 10), (37, zo_ir)]
abbrev m_C_grow : Nat := 3
def zi_C_prune : ze_I := (⟨"CaseTree", "prune", "(I)I"⟩, prog_1_method_5_code, 2, (some .int), zb)
def t_C_prune : ze_T := [(0, zo_il 1 1), (1, zo_iflt 11), (4, zo_il 1 1), (5, zo_k (.int 2000) 3), (8, zo_cle 13), (11, zo_k (.int (-1)) 1), (12, zo_ir), (13, zo_al 0 1),
  (14, zo_gc 0 29), (17, zo_gi 9 10), (20, zo_ifne 26), (23, zo_k (.int (-3)) 2), (25, zo_ir), (26, zo_al 0 1), (27, zo_gc 0 33), (30, zo_il 1 1),
  (31, zo_cv 54 7 2), (34, zo_al 0 1), (35, zo_gc 0 29), (38, zo_gi 9 10), (41, zo_ir)]
abbrev m_C_prune : Nat := 4
def zi_C_classify : ze_I := (⟨"CaseTree", "classify", "(IIII)I"⟩, prog_1_method_6_code, 6, (some .int), zb)
def t_C_classify : ze_T := [(0, zo_al 0 1), (1, zo_il 1 1), (2, zo_il 2 1), (3, zo_il 3 1), (4, zo_il 4 2), (6, zo_cv 20 0 5), (9, zo_al 0 1), (10, zo_gc 0 28),
  (13, zo_al 0 1), (14, zo_gc 0 25), (17, zo_cv 35 1 2), (20, zo_ifne 25), (23, zo_k (.int (-1)) 1), (24, zo_ir), (25, zo_al 0 1), (26, zo_gc 0 29),
  (29, zo_gi 9 10), (32, zo_ifne 38), (35, zo_k (.int (-3)) 2), (37, zo_ir), (38, zo_al 0 1), (39, zo_gc 0 34), (42, zo_al 0 1), (43, zo_gc 0 25),
  (46, zo_cv 47 5 2), (49, zo_is 5 2), (51, zo_al 0 1), (52, zo_gc 0 34), (55, zo_gc 5 24), (58, zo_k (.int 0) 1), (59, zo_al 0 1), (60, zo_gc 0 26),
  (63, zo_k (.int 0) 1), (64, zo_k (.int 3) 1), (65, zo_cpy), (68, zo_il 5 2), (70, zo_ir)]
abbrev m_C_classify : Nat := 5
def zi_C_share : ze_I := (⟨"CaseTree", "share", "(I)I"⟩, prog_1_method_7_code, 2, (some .int), zb)
def t_C_share : ze_T := [(0, zo_il 1 1), (1, zo_cs 22 1), (4, zo_ifeq 16), (7, zo_al 0 1), (8, zo_gc 0 26), (11, zo_il 1 1), (12, zo_ia), (13, zo_goto 17),
  (16, zo_k (.int 0) 1), (17, zo_ir)]
abbrev m_C_share : Nat := 6
def zi_C_wrong : ze_I := (⟨"CaseTree", "wrong", "()I"⟩, prog_1_method_8_code, 3, (some .int), zb)
def t_C_wrong : ze_T := [(0, zo_al 0 1), (1, zo_gc 0 29), (4, zo_gi 9 10), (7, zo_ifne 13), (10, zo_k (.int (-3)) 2), (12, zo_ir), (13, zo_k (.int 0) 1), (14, zo_is 1 1),
  (15, zo_k (.int 0) 1), (16, zo_is 2 1), (17, zo_il 2 1), (18, zo_al 0 1), (19, zo_gc 0 28), (22, zo_gi 1 4), (25, zo_cge 72), (28, zo_al 0 1),
  (29, zo_gc 0 28), (32, zo_il 2 1), (33, zo_al 0 1), (34, zo_gc 0 25), (37, zo_cv 31 1 3), (40, zo_al 0 1), (41, zo_gc 0 34), (44, zo_al 0 1),
  (45, zo_gc 0 25), (48, zo_cv 47 5 2), (51, zo_al 0 1), (52, zo_gc 0 28), (55, zo_gc 1 1), (58, zo_il 2 1), (59, zo_ia), (60, zo_ceq 66),
  (63, zo_inc 1 1), (66, zo_inc 2 1), (69, zo_goto 17), (72, zo_il 1 1), (73, zo_ir)]
abbrev m_C_wrong : Nat := 7
def zi_C_gain : ze_I := (⟨"CaseTree", "gain", "(II)J"⟩, prog_1_method_9_code, 5, (some .long), zb)
def t_C_gain : ze_T := [(0, zo_al 0 1), (1, zo_il 1 1), (2, zo_il 2 1), (3, zo_cv 21 0 3), (6, zo_ifne 13), (9, zo_k (.long (-1)) 3), (12, zo_lr), (13, zo_al 0 1),
  (14, zo_gc 0 31), (17, zo_gc 8 45), (20, zo_il 1 1), (21, zo_aq 45 35), (22, zo_gl 2 2), (25, zo_ls 3 1), (26, zo_ll 3 1), (27, zo_k (.long 0) 1),
  (28, zo_lcmp), (29, zo_ifge 38), (32, zo_k (.long (-2)) 3), (35, zo_goto 39), (38, zo_ll 3 1), (39, zo_lr)]
abbrev m_C_gain : Nat := 8
def zi_C_split : ze_I := (⟨"CaseTree", "split", "(II)J"⟩, prog_1_method_10_code, 3, (some .long), zb)
def t_C_split : ze_T := [(0, zo_al 0 1), (1, zo_il 1 1), (2, zo_il 2 1), (3, zo_cv 21 0 3), (6, zo_ifeq 24), (9, zo_al 0 1), (10, zo_gc 0 31), (13, zo_gc 8 45),
  (16, zo_il 1 1), (17, zo_aq 45 35), (18, zo_gl 2 3), (21, zo_goto 27), (24, zo_k (.long (-1)) 3), (27, zo_lr)]
abbrev m_C_split : Nat := 9
def zi_C_cut : ze_I := (⟨"CaseTree", "cut", "(II)I"⟩, prog_1_method_11_code, 3, (some .int), zb)
def t_C_cut : ze_T := [(0, zo_al 0 1), (1, zo_il 1 1), (2, zo_il 2 1), (3, zo_cv 21 0 3), (6, zo_ifeq 24), (9, zo_al 0 1), (10, zo_gc 0 31), (13, zo_gc 8 45),
  (16, zo_il 1 1), (17, zo_aq 45 35), (18, zo_gi 2 1), (21, zo_goto 25), (24, zo_k (.int (-1)) 1), (25, zo_ir)]
abbrev m_C_cut : Nat := 10
def zi_C_cases : ze_I := (⟨"CaseTree", "cases", "()I"⟩, prog_1_method_12_code, 1, (some .int), zb)
def t_C_cases : ze_T := [(0, zo_al 0 1), (1, zo_gc 0 28), (4, zo_gi 1 4), (7, zo_ir)]
abbrev m_C_cases : Nat := 11
def zi_C_nodes : ze_I := (⟨"CaseTree", "nodes", "()I"⟩, prog_1_method_13_code, 1, (some .int), zb)
def t_C_nodes : ze_T := [(0, zo_al 0 1), (1, zo_gc 0 29), (4, zo_gi 9 10), (7, zo_ir)]
abbrev m_C_nodes : Nat := 12
def zi_C_tested : ze_I := (⟨"CaseTree", "tested", "(I)I"⟩, prog_1_method_14_code, 2, (some .int), zb)
def t_C_tested : ze_T := [(0, zo_al 0 1), (1, zo_gc 0 29), (4, zo_il 1 1), (5, zo_cv 63 9 2), (8, zo_ifeq 31), (11, zo_al 0 1), (12, zo_gc 0 29), (15, zo_gc 9 15),
  (18, zo_al 0 1), (19, zo_gc 0 29), (22, zo_gc 9 22), (25, zo_il 1 1), (26, zo_ia), (27, zo_ia), (28, zo_goto 32), (31, zo_k (.int (-1)) 1),
  (32, zo_ir)]
abbrev m_C_tested : Nat := 13
def zi_C_threshold : ze_I := (⟨"CaseTree", "threshold", "(I)I"⟩, prog_1_method_15_code, 2, (some .int), zb)
def t_C_threshold : ze_T := [(0, zo_al 0 1), (1, zo_gc 0 29), (4, zo_il 1 1), (5, zo_cv 63 9 2), (8, zo_ifeq 31), (11, zo_al 0 1), (12, zo_gc 0 29), (15, zo_gc 9 16),
  (18, zo_al 0 1), (19, zo_gc 0 29), (22, zo_gc 9 22), (25, zo_il 1 1), (26, zo_ia), (27, zo_ia), (28, zo_goto 32), (31, zo_k (.int (-1)) 1),
  (32, zo_ir)]
abbrev m_C_threshold : Nat := 14
def zi_C_child : ze_I := (⟨"CaseTree", "child", "(II)I"⟩, prog_1_method_16_code, 3, (some .int), zb)
def t_C_child : ze_T := [(0, zo_al 0 1), (1, zo_gc 0 29), (4, zo_il 1 1), (5, zo_il 2 1), (6, zo_cv 64 9 3), (9, zo_ifne 14), (12, zo_k (.int (-1)) 1), (13, zo_ir),
  (14, zo_al 0 1), (15, zo_gc 0 29), (18, zo_gc 9 23), (21, zo_al 0 1), (22, zo_gc 0 29), (25, zo_al 0 1), (26, zo_gc 0 29), (29, zo_gc 9 22),
  (32, zo_il 1 1), (33, zo_ia), (34, zo_il 2 1), (35, zo_cv 66 9 3), (38, zo_ia), (39, zo_ir)]
abbrev m_C_child : Nat := 15
def zi_C_classOf : ze_I := (⟨"CaseTree", "classOf", "(I)I"⟩, prog_1_method_17_code, 2, (some .int), zb)
def t_C_classOf : ze_T := [(0, zo_al 0 1), (1, zo_gc 0 29), (4, zo_il 1 1), (5, zo_cv 63 9 2), (8, zo_ifeq 31), (11, zo_al 0 1), (12, zo_gc 0 29), (15, zo_gc 9 18),
  (18, zo_al 0 1), (19, zo_gc 0 29), (22, zo_gc 9 22), (25, zo_il 1 1), (26, zo_ia), (27, zo_ia), (28, zo_goto 32), (31, zo_k (.int (-1)) 1),
  (32, zo_ir)]
abbrev m_C_classOf : Nat := 16
def zi_C_weight : ze_I := (⟨"CaseTree", "weight", "(II)I"⟩, prog_1_method_18_code, 3, (some .int), zb)
def t_C_weight : ze_T := [(0, zo_al 0 1), (1, zo_gc 0 29), (4, zo_il 1 1), (5, zo_cv 63 9 2), (8, zo_ifeq 18), (11, zo_il 2 1), (12, zo_cs 22 1), (15, zo_ifne 20),
  (18, zo_k (.int (-1)) 1), (19, zo_ir), (20, zo_al 0 1), (21, zo_gc 0 29), (24, zo_gc 9 19), (27, zo_al 0 1), (28, zo_gc 0 29), (31, zo_gc 9 22),
  (34, zo_il 1 1), (35, zo_ia), (36, zo_k (.int 3) 1), (37, zo_imul), (38, zo_il 2 1), (39, zo_iadd), (40, zo_ia), (41, zo_ir)]
abbrev m_C_weight : Nat := 17
def zi_C_part : ze_I := (⟨"CaseTree", "part", "(II)I"⟩, prog_1_method_19_code, 3, (some .int), zb)
def t_C_part : ze_T := [(0, zo_al 0 1), (1, zo_gc 0 29), (4, zo_il 1 1), (5, zo_il 2 1), (6, zo_cv 64 9 3), (9, zo_ifne 14), (12, zo_k (.int (-1)) 1), (13, zo_ir),
  (14, zo_al 0 1), (15, zo_gc 0 29), (18, zo_gc 9 20), (21, zo_al 0 1), (22, zo_gc 0 29), (25, zo_gc 9 22), (28, zo_il 1 1), (29, zo_ia),
  (30, zo_k (.int 4) 1), (31, zo_imul), (32, zo_il 2 1), (33, zo_iadd), (34, zo_ia), (35, zo_ir)]
abbrev m_C_part : Nat := 18
def zi_C_log : ze_I := (⟨"CaseTree", "log", "(I)I"⟩, prog_1_method_20_code, 2, (some .int), zb)
def t_C_log : ze_T := [(0, zo_il 1 1), (1, zo_k (.int 1) 1), (2, zo_clt 12), (5, zo_il 1 1), (6, zo_k (.int 32767) 3), (9, zo_cle 16), (12, zo_k (.int (-1)) 1), (13, zo_goto 20),
  (16, zo_il 1 1), (17, zo_cs 24 1), (20, zo_ir)]
abbrev m_C_log : Nat := 19
def zi_C_ask : ze_I := (⟨"CaseTree", "ask", "(IIII)V"⟩, prog_1_method_21_code, 5, none, zb)
def t_C_ask : ze_T := [(0, zo_al 0 1), (1, zo_gc 0 25), (4, zo_k (.int 0) 1), (5, zo_il 1 1), (6, zo_ias), (7, zo_al 0 1), (8, zo_gc 0 25), (11, zo_k (.int 1) 1),
  (12, zo_il 2 1), (13, zo_ias), (14, zo_al 0 1), (15, zo_gc 0 25), (18, zo_k (.int 2) 1), (19, zo_il 3 1), (20, zo_ias), (21, zo_al 0 1),
  (22, zo_gc 0 25), (25, zo_k (.int 3) 1), (26, zo_il 4 2), (28, zo_ias), (29, zo_vr)]
abbrev m_C_ask : Nat := 20
def zi_C_hasRootTest : ze_I := (⟨"CaseTree", "hasRootTest", "(II)Z"⟩, prog_1_method_22_code, 3, (some .boolean), zb)
def t_C_hasRootTest : ze_T := [(0, zo_il 1 1), (1, zo_iflt 22), (4, zo_il 1 1), (5, zo_al 0 1), (6, zo_gc 0 28), (9, zo_gi 1 3), (12, zo_cge 22), (15, zo_il 2 1),
  (16, zo_cs 23 1), (19, zo_ifne 24), (22, zo_k (.int 0) 1), (23, zo_zr), (24, zo_al 0 1), (25, zo_gc 0 30), (28, zo_al 0 1), (29, zo_gc 0 28),
  (32, zo_gi 1 4), (35, zo_cv 50 6 2), (38, zo_al 0 1), (39, zo_gc 0 31), (42, zo_il 1 1), (43, zo_al 0 1), (44, zo_gc 0 30), (47, zo_gc 6 43),
  (50, zo_k (.int 0) 1), (51, zo_aq 43 10), (52, zo_il 2 1), (53, zo_cv 58 8 4), (56, zo_al 0 1), (57, zo_gc 0 31), (60, zo_gc 8 45), (63, zo_il 1 1),
  (64, zo_aq 45 35), (65, zo_gi 2 0), (68, zo_zr)]
abbrev m_C_hasRootTest : Nat := 21
def zi_C_isClass : ze_I := (⟨"CaseTree", "isClass", "(I)Z"⟩, prog_1_method_23_code, 1, (some .boolean), zb)
def t_C_isClass : ze_T := [(0, zo_il 0 1), (1, zo_iflt 13), (4, zo_il 0 1), (5, zo_k (.int 3) 1), (6, zo_cge 13), (9, zo_k (.int 1) 1), (10, zo_goto 14), (13, zo_k (.int 0) 1),
  (14, zo_zr)]
abbrev m_C_isClass : Nat := 22
def zi_C_isMinimum : ze_I := (⟨"CaseTree", "isMinimum", "(I)Z"⟩, prog_1_method_24_code, 1, (some .boolean), zb)
def t_C_isMinimum : ze_T := [(0, zo_il 0 1), (1, zo_k (.int 1) 1), (2, zo_clt 14), (5, zo_il 0 1), (6, zo_k (.int 5) 1), (7, zo_cgt 14), (10, zo_k (.int 1) 1), (11, zo_goto 15),
  (14, zo_k (.int 0) 1), (15, zo_zr)]
abbrev m_C_isMinimum : Nat := 23
def zi_C_logarithm : ze_I := (⟨"CaseTree", "logarithm", "(I)I"⟩, prog_1_method_25_code, 5, (some .int), zb)
def t_C_logarithm : ze_T := [(0, zo_k (.int 0) 1), (1, zo_is 1 1), (2, zo_k (.int 1) 1), (3, zo_is 2 1), (4, zo_il 2 1), (5, zo_k (.int 14) 2), (7, zo_cgt 24), (10, zo_il 0 1),
  (11, zo_il 2 1), (12, zo_ishr), (13, zo_ifle 18), (16, zo_il 2 1), (17, zo_is 1 1), (18, zo_inc 2 1), (21, zo_goto 4), (24, zo_il 0 1),
  (25, zo_k (.int 14) 2), (27, zo_il 1 1), (28, zo_isub), (29, zo_ishl), (30, zo_is 2 1), (31, zo_il 1 1), (32, zo_is 3 1), (33, zo_k (.int 0) 1),
  (34, zo_is 4 2), (36, zo_il 4 2), (38, zo_k (.int 8) 2), (40, zo_cge 76), (43, zo_il 2 1), (44, zo_il 2 1), (45, zo_imul), (46, zo_k (.int 14) 2),
  (48, zo_ishr), (49, zo_is 2 1), (50, zo_k (.int 2) 1), (51, zo_il 3 1), (52, zo_imul), (53, zo_is 3 1), (54, zo_il 2 1), (55, zo_k (.int 14) 2),
  (57, zo_ishr), (58, zo_k (.int 2) 1), (59, zo_clt 70), (62, zo_il 2 1), (63, zo_k (.int 1) 1), (64, zo_ishr), (65, zo_is 2 1), (66, zo_il 3 1),
  (67, zo_k (.int 1) 1), (68, zo_iadd), (69, zo_is 3 1), (70, zo_inc 4 1), (73, zo_goto 36), (76, zo_il 3 1), (77, zo_ir)]
abbrev m_C_logarithm : Nat := 24
def zi_C_information : ze_I := (⟨"CaseTree", "information", "([III)J"⟩, prog_1_method_26_code, 8, (some .long), zb)
def t_C_information : ze_T := [(0, zo_al 0 1), (1, zo_il 1 1), (2, zo_il 2 1), (3, zo_cs 26 3), (6, zo_is 3 1), (7, zo_il 3 1), (8, zo_ifne 13), (11, zo_k (.long 0) 1),
  (12, zo_lr), (13, zo_il 3 1), (14, zo_cs 24 1), (17, zo_is 4 2), (19, zo_k (.long 0) 1), (20, zo_ls 5 2), (22, zo_il 1 1), (23, zo_is 7 2),
  (25, zo_il 7 2), (27, zo_il 1 1), (28, zo_il 2 1), (29, zo_iadd), (30, zo_cge 68), (33, zo_al 0 1), (34, zo_il 7 2), (36, zo_ia),
  (37, zo_ifle 62), (40, zo_ll 5 2), (42, zo_al 0 1), (43, zo_il 7 2), (45, zo_ia), (46, zo_i2l), (47, zo_il 4 2), (49, zo_al 0 1),
  (50, zo_il 7 2), (52, zo_ia), (53, zo_cs 24 1), (56, zo_isub), (57, zo_i2l), (58, zo_lmul), (59, zo_ladd), (60, zo_ls 5 2),
  (62, zo_inc 7 1), (65, zo_goto 25), (68, zo_ll 5 2), (70, zo_lr)]
abbrev m_C_information : Nat := 25
def zi_C_sum : ze_I := (⟨"CaseTree", "sum", "([III)I"⟩, prog_1_method_27_code, 5, (some .int), zb)
def t_C_sum : ze_T := [(0, zo_k (.int 0) 1), (1, zo_is 3 1), (2, zo_il 1 1), (3, zo_is 4 2), (5, zo_il 4 2), (7, zo_il 1 1), (8, zo_il 2 1), (9, zo_iadd),
  (10, zo_cge 26), (13, zo_il 3 1), (14, zo_al 0 1), (15, zo_il 4 2), (17, zo_ia), (18, zo_iadd), (19, zo_is 3 1), (20, zo_inc 4 1),
  (23, zo_goto 5), (26, zo_il 3 1), (27, zo_ir)]
abbrev m_C_sum : Nat := 26
def zi_C_firstGreatest : ze_I := (⟨"CaseTree", "firstGreatest", "([III)I"⟩, prog_1_method_28_code, 5, (some .int), zb)
def t_C_firstGreatest : ze_T := [(0, zo_k (.int 0) 1), (1, zo_is 3 1), (2, zo_k (.int 1) 1), (3, zo_is 4 2), (5, zo_il 4 2), (7, zo_il 2 1), (8, zo_cge 34), (11, zo_al 0 1),
  (12, zo_il 1 1), (13, zo_il 4 2), (15, zo_iadd), (16, zo_ia), (17, zo_al 0 1), (18, zo_il 1 1), (19, zo_il 3 1), (20, zo_iadd),
  (21, zo_ia), (22, zo_cle 28), (25, zo_il 4 2), (27, zo_is 3 1), (28, zo_inc 4 1), (31, zo_goto 5), (34, zo_il 3 1), (35, zo_ir)]
abbrev m_C_firstGreatest : Nat := 27
def zi_C_branchFor : ze_I := (⟨"CaseTree", "branchFor", "(II)I"⟩, prog_1_method_29_code, 2, (some .int), zb)
def t_C_branchFor : ze_T := [(0, zo_il 1 1), (1, zo_k (.int (-1)) 1), (2, zo_cne 7), (5, zo_il 0 1), (6, zo_ir), (7, zo_il 0 1), (8, zo_il 1 1), (9, zo_cgt 16),
  (12, zo_k (.int 0) 1), (13, zo_goto 17), (16, zo_k (.int 1) 1), (17, zo_ir)]
abbrev m_C_branchFor : Nat := 28
def zi_Cs_putAttribute : ze_I := (⟨"CaseTree$Cases", "putAttribute", "(I)I"⟩, prog_2_method_2_code, 2, (some .int), zb)
def t_Cs_putAttribute : ze_T := [(0, zo_al 0 1), (1, zo_gc 1 0), (4, zo_al 0 1), (5, zo_gi 1 3), (8, zo_il 1 1), (9, zo_ias), (10, zo_al 0 1), (11, zo_dup),
  (12, zo_gi 1 3), (15, zo_k (.int 1) 1), (16, zo_iadd), (17, zo_pi 1 3), (20, zo_al 0 1), (21, zo_gi 1 3), (24, zo_k (.int 1) 1), (25, zo_isub),
  (26, zo_ir)]
abbrev m_Cs_putAttribute : Nat := 29
def zi_Cs_putCase : ze_I := (⟨"CaseTree$Cases", "putCase", "(I[I)I"⟩, prog_2_method_3_code, 3, (some .int), zb)
def t_Cs_putCase : ze_T := [(0, zo_al 0 1), (1, zo_gc 1 1), (4, zo_al 0 1), (5, zo_gi 1 4), (8, zo_il 1 1), (9, zo_ias), (10, zo_al 2 1), (11, zo_k (.int 0) 1),
  (12, zo_al 0 1), (13, zo_gc 1 2), (16, zo_al 0 1), (17, zo_gi 1 4), (20, zo_k (.int 4) 1), (21, zo_imul), (22, zo_k (.int 4) 1), (23, zo_cpy),
  (26, zo_al 0 1), (27, zo_dup), (28, zo_gi 1 4), (31, zo_k (.int 1) 1), (32, zo_iadd), (33, zo_pi 1 4), (36, zo_al 0 1), (37, zo_gi 1 4),
  (40, zo_k (.int 1) 1), (41, zo_isub), (42, zo_ir)]
abbrev m_Cs_putCase : Nat := 30
def zi_Cs_copyValues : ze_I := (⟨"CaseTree$Cases", "copyValues", "(I[I)V"⟩, prog_2_method_4_code, 3, none, zb)
def t_Cs_copyValues : ze_T := [(0, zo_al 0 1), (1, zo_gc 1 2), (4, zo_il 1 1), (5, zo_k (.int 4) 1), (6, zo_imul), (7, zo_al 2 1), (8, zo_k (.int 0) 1), (9, zo_k (.int 4) 1),
  (10, zo_cpy), (13, zo_vr)]
abbrev m_Cs_copyValues : Nat := 31
def zi_Cs_valueOf : ze_I := (⟨"CaseTree$Cases", "valueOf", "(II)I"⟩, prog_2_method_5_code, 3, (some .int), zb)
def t_Cs_valueOf : ze_T := [(0, zo_al 0 1), (1, zo_gc 1 2), (4, zo_il 1 1), (5, zo_k (.int 4) 1), (6, zo_imul), (7, zo_il 2 1), (8, zo_iadd), (9, zo_ia),
  (10, zo_ir)]
abbrev m_Cs_valueOf : Nat := 32
def zi_Cs_isContinuous : ze_I := (⟨"CaseTree$Cases", "isContinuous", "(I)Z"⟩, prog_2_method_6_code, 2, (some .boolean), zb)
def t_Cs_isContinuous : ze_T := [(0, zo_al 0 1), (1, zo_gc 1 0), (4, zo_il 1 1), (5, zo_ia), (6, zo_ifne 13), (9, zo_k (.int 1) 1), (10, zo_goto 14), (13, zo_k (.int 0) 1),
  (14, zo_zr)]
abbrev m_Cs_isContinuous : Nat := 33
def zi_Cs_branchesOf : ze_I := (⟨"CaseTree$Cases", "branchesOf", "(I)I"⟩, prog_2_method_7_code, 2, (some .int), zb)
def t_Cs_branchesOf : ze_T := [(0, zo_al 0 1), (1, zo_il 1 1), (2, zo_cv 33 1 2), (5, zo_ifeq 12), (8, zo_k (.int 2) 1), (9, zo_goto 18), (12, zo_al 0 1), (13, zo_gc 1 0),
  (16, zo_il 1 1), (17, zo_ia), (18, zo_ir)]
abbrev m_Cs_branchesOf : Nat := 34
def zi_Cs_fits : ze_I := (⟨"CaseTree$Cases", "fits", "([I)Z"⟩, prog_2_method_8_code, 4, (some .boolean), zb)
def t_Cs_fits : ze_T := [(0, zo_k (.int 0) 1), (1, zo_is 2 1), (2, zo_il 2 1), (3, zo_al 0 1), (4, zo_gi 1 3), (7, zo_cge 55), (10, zo_al 0 1), (11, zo_il 2 1),
  (12, zo_cv 33 1 2), (15, zo_ifeq 24), (18, zo_k (.int 999) 3), (21, zo_goto 32), (24, zo_al 0 1), (25, zo_gc 1 0), (28, zo_il 2 1), (29, zo_ia),
  (30, zo_k (.int 1) 1), (31, zo_isub), (32, zo_is 3 1), (33, zo_al 1 1), (34, zo_il 2 1), (35, zo_ia), (36, zo_k (.int (-1)) 1), (37, zo_clt 47),
  (40, zo_al 1 1), (41, zo_il 2 1), (42, zo_ia), (43, zo_il 3 1), (44, zo_cle 49), (47, zo_k (.int 0) 1), (48, zo_zr), (49, zo_inc 2 1),
  (52, zo_goto 2), (55, zo_k (.int 1) 1), (56, zo_zr)]
abbrev m_Cs_fits : Nat := 35
def zi_Cs_nextValue : ze_I := (⟨"CaseTree$Cases", "nextValue", "(I[II)I"⟩, prog_2_method_9_code, 7, (some .int), zb)
def t_Cs_nextValue : ze_T := [(0, zo_k (.int (-1)) 1), (1, zo_is 4 2), (3, zo_k (.int 0) 1), (4, zo_is 5 2), (6, zo_il 5 2), (8, zo_al 0 1), (9, zo_gi 1 4), (12, zo_cge 60),
  (15, zo_al 0 1), (16, zo_il 5 2), (18, zo_il 1 1), (19, zo_cv 32 1 3), (22, zo_is 6 2), (24, zo_al 2 1), (25, zo_il 5 2), (27, zo_ia),
  (28, zo_ifle 54), (31, zo_il 6 2), (33, zo_il 3 1), (34, zo_cle 54), (37, zo_il 4 2), (39, zo_k (.int (-1)) 1), (40, zo_ceq 50), (43, zo_il 6 2),
  (45, zo_il 4 2), (47, zo_cge 54), (50, zo_il 6 2), (52, zo_is 4 2), (54, zo_inc 5 1), (57, zo_goto 6), (60, zo_il 4 2), (62, zo_ir)]
abbrev m_Cs_nextValue : Nat := 36
def zi_Cs_valueUpTo : ze_I := (⟨"CaseTree$Cases", "valueUpTo", "(II)I"⟩, prog_2_method_10_code, 6, (some .int), zb)
def t_Cs_valueUpTo : ze_T := [(0, zo_k (.int (-1)) 1), (1, zo_is 3 1), (2, zo_k (.int 0) 1), (3, zo_is 4 2), (5, zo_il 4 2), (7, zo_al 0 1), (8, zo_gi 1 4), (11, zo_cge 44),
  (14, zo_al 0 1), (15, zo_il 4 2), (17, zo_il 1 1), (18, zo_cv 32 1 3), (21, zo_is 5 2), (23, zo_il 5 2), (25, zo_il 2 1), (26, zo_cgt 38),
  (29, zo_il 5 2), (31, zo_il 3 1), (32, zo_cle 38), (35, zo_il 5 2), (37, zo_is 3 1), (38, zo_inc 4 1), (41, zo_goto 5), (44, zo_il 3 1),
  (45, zo_ir)]
abbrev m_Cs_valueUpTo : Nat := 37
def zi_Fi_hasGain : ze_I := (⟨"CaseTree$Finding", "hasGain", "()Z"⟩, prog_3_method_2_code, 1, (some .boolean), zb)
def t_Fi_hasGain : ze_T := [(0, zo_al 0 1), (1, zo_gi 2 0), (4, zo_ifeq 20), (7, zo_al 0 1), (8, zo_gl 2 2), (11, zo_k (.long 0) 1), (12, zo_lcmp), (13, zo_ifle 20),
  (16, zo_k (.int 1) 1), (17, zo_goto 21), (20, zo_k (.int 0) 1), (21, zo_zr)]
abbrev m_Fi_hasGain : Nat := 38
def zi_Fi_hasGreaterRatio : ze_I := (⟨"CaseTree$Finding", "hasGreaterRatio", "(LCaseTree$Finding;)Z"⟩, prog_3_method_3_code, 2, (some .boolean), zb)
def t_Fi_hasGreaterRatio : ze_T := [(0, zo_al 0 1), (1, zo_gl 2 2), (4, zo_al 1 1), (5, zo_gl 2 3), (8, zo_lmul), (9, zo_al 1 1), (10, zo_gl 2 2), (13, zo_al 0 1),
  (14, zo_gl 2 3), (17, zo_lmul), (18, zo_lcmp), (19, zo_ifle 26), (22, zo_k (.int 1) 1), (23, zo_goto 27), (26, zo_k (.int 0) 1), (27, zo_zr)]
abbrev m_Fi_hasGreaterRatio : Nat := 39
def zi_Fo_setTest : ze_I := (⟨"CaseTree$Fork", "setTest", "(III)V"⟩, prog_4_method_2_code, 4, none, zb)
def t_Fo_setTest : ze_T := [(0, zo_al 0 1), (1, zo_il 1 1), (2, zo_pi 3 1), (5, zo_al 0 1), (6, zo_il 2 1), (7, zo_pi 3 2), (10, zo_al 0 1), (11, zo_il 3 1),
  (12, zo_pi 3 3), (15, zo_al 0 1), (16, zo_gf 3), (19, zo_k (.int 0) 1), (20, zo_cs 0 2), (23, zo_vr)]
abbrev m_Fo_setTest : Nat := 40
def zi_Fo_settleParts : ze_I := (⟨"CaseTree$Fork", "settleParts", "()V"⟩, prog_4_method_3_code, 1, none, zb)
def t_Fo_settleParts : ze_T := [(0, zo_al 0 1), (1, zo_al 0 1), (2, zo_gf 3), (5, zo_k (.int 0) 1), (6, zo_k (.int 4) 1), (7, zo_cs 26 3), (10, zo_pi 3 4), (13, zo_al 0 1),
  (14, zo_al 0 1), (15, zo_gf 3), (18, zo_k (.int 0) 1), (19, zo_k (.int 4) 1), (20, zo_cs 27 3), (23, zo_pi 3 5), (26, zo_vr)]
abbrev m_Fo_settleParts : Nat := 41
def zi_Fo_passed : ze_I := (⟨"CaseTree$Fork", "passed", "(III)I"⟩, prog_4_method_4_code, 6, (some .int), zb)
def t_Fo_passed : ze_T := [(0, zo_il 2 1), (1, zo_k (.int (-1)) 1), (2, zo_ceq 23), (5, zo_il 2 1), (6, zo_al 0 1), (7, zo_gi 3 2), (10, zo_cs 28 2), (13, zo_il 3 1),
  (14, zo_cne 21), (17, zo_il 1 1), (18, zo_goto 22), (21, zo_k (.int 0) 1), (22, zo_ir), (23, zo_al 0 1), (24, zo_gi 3 4), (27, zo_ifne 40),
  (30, zo_il 3 1), (31, zo_ifne 38), (34, zo_il 1 1), (35, zo_goto 39), (38, zo_k (.int 0) 1), (39, zo_ir), (40, zo_il 3 1), (41, zo_al 0 1),
  (42, zo_gi 3 5), (45, zo_ceq 62), (48, zo_il 1 1), (49, zo_al 0 1), (50, zo_gf 3), (53, zo_il 3 1), (54, zo_ia), (55, zo_imul),
  (56, zo_al 0 1), (57, zo_gi 3 4), (60, zo_idiv), (61, zo_ir), (62, zo_il 1 1), (63, zo_is 4 2), (65, zo_k (.int 0) 1), (66, zo_is 5 2),
  (68, zo_il 5 2), (70, zo_al 0 1), (71, zo_gi 3 3), (74, zo_cge 111), (77, zo_il 5 2), (79, zo_al 0 1), (80, zo_gi 3 5), (83, zo_ceq 105),
  (86, zo_il 4 2), (88, zo_il 1 1), (89, zo_al 0 1), (90, zo_gf 3), (93, zo_il 5 2), (95, zo_ia), (96, zo_imul), (97, zo_al 0 1),
  (98, zo_gi 3 4), (101, zo_idiv), (102, zo_isub), (103, zo_is 4 2), (105, zo_inc 5 1), (108, zo_goto 68), (111, zo_il 4 2), (113, zo_ir)]
abbrev m_Fo_passed : Nat := 42
def zi_Gr_plant : ze_I := (⟨"CaseTree$Grower", "plant", "(I)V"⟩, prog_5_method_2_code, 2, none, zb)
def t_Gr_plant : ze_T := [(0, zo_al 0 1), (1, zo_il 1 1), (2, zo_pi 4 4), (5, zo_al 0 1), (6, zo_gc 4 29), (9, zo_k (.int 0) 1), (10, zo_pi 9 9), (13, zo_al 0 1),
  (14, zo_gc 4 29), (17, zo_al 0 1), (18, zo_gc 4 28), (21, zo_gi 1 4), (24, zo_pi 9 11), (27, zo_al 0 1), (28, zo_gc 4 30), (31, zo_al 0 1),
  (32, zo_gc 4 28), (35, zo_gi 1 4), (38, zo_cv 50 6 2), (41, zo_al 0 1), (42, zo_al 0 1), (43, zo_gc 4 29), (46, zo_k (.int 0) 1), (47, zo_cv 68 9 2),
  (50, zo_k (.int 0) 1), (51, zo_k (.int 0) 1), (52, zo_cv 44 4 4), (55, zo_al 0 1), (56, zo_gc 4 29), (59, zo_cv 75 9 1), (62, zo_vr)]
abbrev m_Gr_plant : Nat := 43
def zi_Gr_growFrom : ze_I := (⟨"CaseTree$Grower", "growFrom", "(III)V"⟩, prog_5_method_3_code, 8, none, zb)
def t_Gr_growFrom : ze_T := [(0, zo_al 0 1), (1, zo_gc 4 30), (4, zo_il 2 1), (5, zo_cv 51 6 2), (8, zo_al 0 1), (9, zo_gc 4 29), (12, zo_il 1 1), (13, zo_al 0 1),
  (14, zo_gc 4 30), (17, zo_gc 6 14), (20, zo_cv 72 9 3), (23, zo_il 2 1), (24, zo_k (.int 3) 1), (25, zo_cge 35), (28, zo_al 0 1), (29, zo_cv 45 4 1),
  (32, zo_ifeq 36), (35, zo_vr), (36, zo_k (.int 0) 1), (37, zo_is 4 2), (39, zo_il 4 2), (41, zo_al 0 1), (42, zo_gc 4 28), (45, zo_gi 1 3),
  (48, zo_cge 106), (51, zo_il 3 1), (52, zo_il 4 2), (54, zo_ishr), (55, zo_k (.int 1) 1), (56, zo_iand), (57, zo_k (.int 1) 1), (58, zo_cne 78),
  (61, zo_al 0 1), (62, zo_gc 4 31), (65, zo_gc 8 45), (68, zo_il 4 2), (70, zo_aq 45 35), (71, zo_k (.int 0) 1), (72, zo_pz 2 0), (75, zo_goto 100),
  (78, zo_al 0 1), (79, zo_gc 4 31), (82, zo_il 4 2), (84, zo_al 0 1), (85, zo_gc 4 30), (88, zo_gc 6 43), (91, zo_il 2 1), (92, zo_aq 43 10),
  (93, zo_al 0 1), (94, zo_gi 4 4), (97, zo_cv 58 8 4), (100, zo_inc 4 1), (103, zo_goto 39), (106, zo_al 0 1), (107, zo_gc 4 31), (110, zo_cv 62 8 1),
  (113, zo_is 4 2), (115, zo_il 4 2), (117, zo_k (.int (-1)) 1), (118, zo_cne 122), (121, zo_vr), (122, zo_al 0 1), (123, zo_il 1 1), (124, zo_il 2 1),
  (125, zo_il 4 2), (127, zo_cv 46 4 4), (130, zo_al 0 1), (131, zo_gc 4 28), (134, zo_il 4 2), (136, zo_cv 33 1 2), (139, zo_ifeq 146), (142, zo_il 3 1),
  (143, zo_goto 152), (146, zo_il 3 1), (147, zo_k (.int 1) 1), (148, zo_il 4 2), (150, zo_ishl), (151, zo_ior), (152, zo_is 5 2), (154, zo_k (.int 0) 1),
  (155, zo_is 6 2), (157, zo_il 6 2), (159, zo_al 0 1), (160, zo_gc 4 29), (163, zo_gc 9 17), (166, zo_il 1 1), (167, zo_ia), (168, zo_cge 232),
  (171, zo_al 0 1), (172, zo_gc 4 29), (175, zo_al 0 1), (176, zo_gc 4 29), (179, zo_gc 9 18), (182, zo_il 1 1), (183, zo_ia), (184, zo_cv 68 9 2),
  (187, zo_is 7 2), (189, zo_al 0 1), (190, zo_gc 4 29), (193, zo_gc 9 21), (196, zo_il 1 1), (197, zo_k (.int 4) 1), (198, zo_imul), (199, zo_il 6 2),
  (201, zo_iadd), (202, zo_il 7 2), (204, zo_ias), (205, zo_al 0 1), (206, zo_gc 4 30), (209, zo_il 2 1), (210, zo_il 6 2), (212, zo_cv 53 6 3),
  (215, zo_al 0 1), (216, zo_il 7 2), (218, zo_il 2 1), (219, zo_k (.int 1) 1), (220, zo_iadd), (221, zo_il 5 2), (223, zo_cv 44 4 4), (226, zo_inc 6 1),
  (229, zo_goto 157), (232, zo_vr)]
abbrev m_Gr_growFrom : Nat := 44
def zi_Gr_hasTooLittle : ze_I := (⟨"CaseTree$Grower", "hasTooLittle", "()Z"⟩, prog_5_method_4_code, 3, (some .boolean), zb)
def t_Gr_hasTooLittle : ze_T := [(0, zo_k (.int 0) 1), (1, zo_is 1 1), (2, zo_k (.int 0) 1), (3, zo_is 2 1), (4, zo_il 2 1), (5, zo_k (.int 3) 1), (6, zo_cge 30), (9, zo_al 0 1),
  (10, zo_gc 4 30), (13, zo_gc 6 14), (16, zo_il 2 1), (17, zo_ia), (18, zo_ifle 24), (21, zo_inc 1 1), (24, zo_inc 2 1), (27, zo_goto 4),
  (30, zo_il 1 1), (31, zo_k (.int 1) 1), (32, zo_cle 58), (35, zo_al 0 1), (36, zo_gc 4 30), (39, zo_gc 6 14), (42, zo_k (.int 0) 1), (43, zo_k (.int 3) 1),
  (44, zo_cs 26 3), (47, zo_k (.int 1440) 3), (50, zo_al 0 1), (51, zo_gi 4 4), (54, zo_imul), (55, zo_cge 62), (58, zo_k (.int 1) 1), (59, zo_goto 63),
  (62, zo_k (.int 0) 1), (63, zo_zr)]
abbrev m_Gr_hasTooLittle : Nat := 45
def zi_Gr_fork : ze_I := (⟨"CaseTree$Grower", "fork", "(III)V"⟩, prog_5_method_5_code, 5, none, zb)
def t_Gr_fork : ze_T := [(0, zo_al 0 1), (1, zo_gc 4 31), (4, zo_gc 8 45), (7, zo_il 3 1), (8, zo_aq 45 35), (9, zo_gi 2 1), (12, zo_is 4 2), (14, zo_al 0 1),
  (15, zo_gc 4 30), (18, zo_gc 6 44), (21, zo_il 2 1), (22, zo_aq 44 39), (23, zo_il 3 1), (24, zo_il 4 2), (26, zo_al 0 1), (27, zo_gc 4 28),
  (30, zo_il 3 1), (31, zo_cv 34 1 2), (34, zo_cv 40 3 4), (37, zo_al 0 1), (38, zo_gc 4 30), (41, zo_il 2 1), (42, zo_cv 52 6 2), (45, zo_al 0 1),
  (46, zo_gc 4 29), (49, zo_il 1 1), (50, zo_al 0 1), (51, zo_gc 4 30), (54, zo_gc 6 44), (57, zo_il 2 1), (58, zo_aq 44 39), (59, zo_cv 70 9 3),
  (62, zo_vr)]
abbrev m_Gr_fork : Nat := 46
def zi_Ju_classFor : ze_I := (⟨"CaseTree$Judge", "classFor", "([I)I"⟩, prog_6_method_2_code, 2, (some .int), zb)
def t_Ju_classFor : ze_T := [(0, zo_al 0 1), (1, zo_gc 5 24), (4, zo_k (.int 0) 1), (5, zo_cs 0 2), (8, zo_al 0 1), (9, zo_k (.int 0) 1), (10, zo_k (.int 0) 1), (11, zo_k (.int 720) 3),
  (14, zo_al 1 1), (15, zo_cv 48 5 5), (18, zo_al 0 1), (19, zo_gc 5 24), (22, zo_k (.int 0) 1), (23, zo_k (.int 3) 1), (24, zo_cs 27 3), (27, zo_ir)]
abbrev m_Ju_classFor : Nat := 47
def zi_Ju_giveFrom : ze_I := (⟨"CaseTree$Judge", "giveFrom", "(III[I)V"⟩, prog_6_method_3_code, 8, none, zb)
def t_Ju_giveFrom : ze_T := [(0, zo_al 0 1), (1, zo_gc 5 29), (4, zo_il 1 1), (5, zo_cv 65 9 2), (8, zo_ifne 16), (11, zo_il 2 1), (12, zo_k (.int 3) 1), (13, zo_clt 23),
  (16, zo_al 0 1), (17, zo_il 1 1), (18, zo_il 3 1), (19, zo_cv 49 5 3), (22, zo_vr), (23, zo_al 0 1), (24, zo_gc 5 30), (27, zo_gc 6 44),
  (30, zo_il 2 1), (31, zo_aq 44 39), (32, zo_as 5 2), (34, zo_al 0 1), (35, zo_gc 5 29), (38, zo_il 1 1), (39, zo_al 5 2), (41, zo_cv 71 9 3),
  (44, zo_k (.int 0) 1), (45, zo_is 6 2), (47, zo_il 6 2), (49, zo_al 5 2), (51, zo_gi 3 3), (54, zo_cge 107), (57, zo_al 5 2), (59, zo_il 3 1),
  (60, zo_al 4 2), (62, zo_al 5 2), (64, zo_gi 3 1), (67, zo_ia), (68, zo_il 6 2), (70, zo_cv 42 3 4), (73, zo_is 7 2), (75, zo_il 7 2),
  (77, zo_ifle 101), (80, zo_al 0 1), (81, zo_al 0 1), (82, zo_gc 5 29), (85, zo_il 1 1), (86, zo_il 6 2), (88, zo_cv 66 9 3), (91, zo_il 2 1),
  (92, zo_k (.int 1) 1), (93, zo_iadd), (94, zo_il 7 2), (96, zo_al 4 2), (98, zo_cv 48 5 5), (101, zo_inc 6 1), (104, zo_goto 47), (107, zo_vr)]
abbrev m_Ju_giveFrom : Nat := 48
def zi_Ju_shareOut : ze_I := (⟨"CaseTree$Judge", "shareOut", "(II)V"⟩, prog_6_method_4_code, 7, none, zb)
def t_Ju_shareOut : ze_T := [(0, zo_al 0 1), (1, zo_gc 5 29), (4, zo_il 1 1), (5, zo_cv 67 9 2), (8, zo_is 3 1), (9, zo_il 2 1), (10, zo_is 4 2), (12, zo_k (.int 0) 1),
  (13, zo_is 5 2), (15, zo_il 5 2), (17, zo_k (.int 3) 1), (18, zo_cge 70), (21, zo_il 3 1), (22, zo_ifle 70), (25, zo_il 2 1), (26, zo_al 0 1),
  (27, zo_gc 5 29), (30, zo_gc 9 19), (33, zo_il 1 1), (34, zo_k (.int 3) 1), (35, zo_imul), (36, zo_il 5 2), (38, zo_iadd), (39, zo_ia),
  (40, zo_imul), (41, zo_il 3 1), (42, zo_idiv), (43, zo_is 6 2), (45, zo_al 0 1), (46, zo_gc 5 24), (49, zo_il 5 2), (51, zo_dup2),
  (52, zo_ia), (53, zo_il 6 2), (55, zo_iadd), (56, zo_ias), (57, zo_il 4 2), (59, zo_il 6 2), (61, zo_isub), (62, zo_is 4 2),
  (64, zo_inc 5 1), (67, zo_goto 15), (70, zo_al 0 1), (71, zo_gc 5 24), (74, zo_al 0 1), (75, zo_gc 5 29), (78, zo_gc 9 18), (81, zo_il 1 1),
  (82, zo_ia), (83, zo_dup2), (84, zo_ia), (85, zo_il 4 2), (87, zo_iadd), (88, zo_ias), (89, zo_vr)]
abbrev m_Ju_shareOut : Nat := 49
def zi_Pa_start : ze_I := (⟨"CaseTree$Path", "start", "(I)V"⟩, prog_7_method_2_code, 3, none, zb)
def t_Pa_start : ze_T := [(0, zo_k (.int 0) 1), (1, zo_is 2 1), (2, zo_il 2 1), (3, zo_k (.int 24) 2), (5, zo_cge 34), (8, zo_al 0 1), (9, zo_gc 6 43), (12, zo_k (.int 0) 1),
  (13, zo_aq 43 10), (14, zo_il 2 1), (15, zo_il 2 1), (16, zo_il 1 1), (17, zo_cge 26), (20, zo_k (.int 720) 3), (23, zo_goto 27), (26, zo_k (.int 0) 1),
  (27, zo_ias), (28, zo_inc 2 1), (31, zo_goto 2), (34, zo_vr)]
abbrev m_Pa_start : Nat := 50
def zi_Pa_tallyClasses : ze_I := (⟨"CaseTree$Path", "tallyClasses", "(I)V"⟩, prog_7_method_3_code, 3, none, zb)
def t_Pa_tallyClasses : ze_T := [(0, zo_al 0 1), (1, zo_gc 6 14), (4, zo_k (.int 0) 1), (5, zo_cs 0 2), (8, zo_k (.int 0) 1), (9, zo_is 2 1), (10, zo_il 2 1), (11, zo_al 0 1),
  (12, zo_gc 6 28), (15, zo_gi 1 4), (18, zo_cge 52), (21, zo_al 0 1), (22, zo_gc 6 14), (25, zo_al 0 1), (26, zo_gc 6 28), (29, zo_gc 1 1),
  (32, zo_il 2 1), (33, zo_ia), (34, zo_dup2), (35, zo_ia), (36, zo_al 0 1), (37, zo_gc 6 43), (40, zo_il 1 1), (41, zo_aq 43 10),
  (42, zo_il 2 1), (43, zo_ia), (44, zo_iadd), (45, zo_ias), (46, zo_inc 2 1), (49, zo_goto 10), (52, zo_vr)]
abbrev m_Pa_tallyClasses : Nat := 51
def zi_Pa_tallyParts : ze_I := (⟨"CaseTree$Path", "tallyParts", "(I)V"⟩, prog_7_method_4_code, 5, none, zb)
def t_Pa_tallyParts : ze_T := [(0, zo_al 0 1), (1, zo_gc 6 44), (4, zo_il 1 1), (5, zo_aq 44 39), (6, zo_as 2 1), (7, zo_k (.int 0) 1), (8, zo_is 3 1), (9, zo_il 3 1),
  (10, zo_al 0 1), (11, zo_gc 6 28), (14, zo_gi 1 4), (17, zo_cge 71), (20, zo_al 0 1), (21, zo_gc 6 28), (24, zo_il 3 1), (25, zo_al 2 1),
  (26, zo_gi 3 1), (29, zo_cv 32 1 3), (32, zo_is 4 2), (34, zo_il 4 2), (36, zo_k (.int (-1)) 1), (37, zo_ceq 65), (40, zo_al 2 1), (41, zo_gf 3),
  (44, zo_il 4 2), (46, zo_al 2 1), (47, zo_gi 3 2), (50, zo_cs 28 2), (53, zo_dup2), (54, zo_ia), (55, zo_al 0 1), (56, zo_gc 6 43),
  (59, zo_il 1 1), (60, zo_aq 43 10), (61, zo_il 3 1), (62, zo_ia), (63, zo_iadd), (64, zo_ias), (65, zo_inc 3 1), (68, zo_goto 9),
  (71, zo_al 2 1), (72, zo_cv 41 3 1), (75, zo_vr)]
abbrev m_Pa_tallyParts : Nat := 52
def zi_Pa_goDown : ze_I := (⟨"CaseTree$Path", "goDown", "(II)V"⟩, prog_7_method_5_code, 6, none, zb)
def t_Pa_goDown : ze_T := [(0, zo_al 0 1), (1, zo_gc 6 44), (4, zo_il 1 1), (5, zo_aq 44 39), (6, zo_as 3 1), (7, zo_k (.int 0) 1), (8, zo_is 4 2), (10, zo_il 4 2),
  (12, zo_al 0 1), (13, zo_gc 6 28), (16, zo_gi 1 4), (19, zo_cge 70), (22, zo_al 0 1), (23, zo_gc 6 28), (26, zo_il 4 2), (28, zo_al 3 1),
  (29, zo_gi 3 1), (32, zo_cv 32 1 3), (35, zo_is 5 2), (37, zo_al 0 1), (38, zo_gc 6 43), (41, zo_il 1 1), (42, zo_k (.int 1) 1), (43, zo_iadd),
  (44, zo_aq 43 10), (45, zo_il 4 2), (47, zo_al 3 1), (48, zo_al 0 1), (49, zo_gc 6 43), (52, zo_il 1 1), (53, zo_aq 43 10), (54, zo_il 4 2),
  (56, zo_ia), (57, zo_il 5 2), (59, zo_il 2 1), (60, zo_cv 42 3 4), (63, zo_ias), (64, zo_inc 4 1), (67, zo_goto 10), (70, zo_vr)]
abbrev m_Pa_goDown : Nat := 53
def zi_Pr_pruneAll : ze_I := (⟨"CaseTree$Pruner", "pruneAll", "(I)V"⟩, prog_8_method_2_code, 2, none, zb)
def t_Pr_pruneAll : ze_T := [(0, zo_al 0 1), (1, zo_il 1 1), (2, zo_pi 7 2), (5, zo_al 0 1), (6, zo_gc 7 30), (9, zo_al 0 1), (10, zo_gc 7 29), (13, zo_gi 9 11),
  (16, zo_cv 50 6 2), (19, zo_al 0 1), (20, zo_k (.int 0) 1), (21, zo_k (.int 0) 1), (22, zo_k (.int 1) 1), (23, zo_cv 55 7 4), (26, zo_pop), (27, zo_al 0 1),
  (28, zo_k (.int 0) 1), (29, zo_k (.int 0) 1), (30, zo_cv 56 7 3), (33, zo_pop), (34, zo_al 0 1), (35, zo_gc 7 29), (38, zo_cv 75 9 1), (41, zo_vr)]
abbrev m_Pr_pruneAll : Nat := 54
def zi_Pr_sendFrom : ze_I := (⟨"CaseTree$Pruner", "sendFrom", "(IIZ)I"⟩, prog_8_method_3_code, 7, (some .int), zb)
def t_Pr_sendFrom : ze_T := [(0, zo_al 0 1), (1, zo_gc 7 30), (4, zo_il 2 1), (5, zo_cv 51 6 2), (8, zo_il 3 1), (9, zo_ifeq 27), (12, zo_al 0 1), (13, zo_gc 7 29),
  (16, zo_il 1 1), (17, zo_al 0 1), (18, zo_gc 7 30), (21, zo_gc 6 14), (24, zo_cv 72 9 3), (27, zo_al 0 1), (28, zo_gc 7 29), (31, zo_il 1 1),
  (32, zo_cv 65 9 2), (35, zo_ifne 43), (38, zo_il 2 1), (39, zo_k (.int 3) 1), (40, zo_clt 56), (43, zo_al 0 1), (44, zo_al 0 1), (45, zo_gc 7 30),
  (48, zo_gc 6 14), (51, zo_k (.int 0) 1), (52, zo_cv 57 7 3), (55, zo_ir), (56, zo_al 0 1), (57, zo_gc 7 30), (60, zo_gc 6 44), (63, zo_il 2 1),
  (64, zo_aq 44 39), (65, zo_as 4 2), (67, zo_al 4 2), (69, zo_al 0 1), (70, zo_gc 7 29), (73, zo_gc 9 15), (76, zo_il 1 1), (77, zo_ia),
  (78, zo_al 0 1), (79, zo_gc 7 29), (82, zo_gc 9 16), (85, zo_il 1 1), (86, zo_ia), (87, zo_al 0 1), (88, zo_gc 7 29), (91, zo_gc 9 17),
  (94, zo_il 1 1), (95, zo_ia), (96, zo_cv 40 3 4), (99, zo_al 0 1), (100, zo_gc 7 30), (103, zo_il 2 1), (104, zo_cv 52 6 2), (107, zo_il 3 1),
  (108, zo_ifeq 121), (111, zo_al 0 1), (112, zo_gc 7 29), (115, zo_il 1 1), (116, zo_al 4 2), (118, zo_cv 70 9 3), (121, zo_k (.int 0) 1), (122, zo_is 5 2),
  (124, zo_k (.int 0) 1), (125, zo_is 6 2), (127, zo_il 6 2), (129, zo_al 0 1), (130, zo_gc 7 29), (133, zo_gc 9 17), (136, zo_il 1 1), (137, zo_ia),
  (138, zo_cge 180), (141, zo_al 0 1), (142, zo_gc 7 30), (145, zo_il 2 1), (146, zo_il 6 2), (148, zo_cv 53 6 3), (151, zo_il 5 2), (153, zo_al 0 1),
  (154, zo_al 0 1), (155, zo_gc 7 29), (158, zo_il 1 1), (159, zo_il 6 2), (161, zo_cv 66 9 3), (164, zo_il 2 1), (165, zo_k (.int 1) 1), (166, zo_iadd),
  (167, zo_il 3 1), (168, zo_cv 55 7 4), (171, zo_iadd), (172, zo_is 5 2), (174, zo_inc 6 1), (177, zo_goto 127), (180, zo_il 5 2), (182, zo_ir)]
abbrev m_Pr_sendFrom : Nat := 55
def zi_Pr_pruneFrom : ze_I := (⟨"CaseTree$Pruner", "pruneFrom", "(II)I"⟩, prog_8_method_4_code, 7, (some .int), zb)
def t_Pr_pruneFrom : ze_T := [(0, zo_al 0 1), (1, zo_gc 7 29), (4, zo_il 1 1), (5, zo_cv 65 9 2), (8, zo_ifne 16), (11, zo_il 2 1), (12, zo_k (.int 3) 1), (13, zo_clt 31),
  (16, zo_al 0 1), (17, zo_al 0 1), (18, zo_gc 7 29), (21, zo_gc 9 19), (24, zo_il 1 1), (25, zo_k (.int 3) 1), (26, zo_imul), (27, zo_cv 57 7 3),
  (30, zo_ir), (31, zo_al 0 1), (32, zo_gc 7 29), (35, zo_il 1 1), (36, zo_al 0 1), (37, zo_gc 7 30), (40, zo_gc 6 44), (43, zo_il 2 1),
  (44, zo_aq 44 39), (45, zo_cv 71 9 3), (48, zo_k (.int 0) 1), (49, zo_is 3 1), (50, zo_k (.int 0) 1), (51, zo_is 4 2), (53, zo_il 4 2), (55, zo_al 0 1),
  (56, zo_gc 7 29), (59, zo_gc 9 17), (62, zo_il 1 1), (63, zo_ia), (64, zo_cge 103), (67, zo_al 0 1), (68, zo_gc 7 30), (71, zo_il 2 1),
  (72, zo_il 4 2), (74, zo_cv 53 6 3), (77, zo_il 3 1), (78, zo_al 0 1), (79, zo_al 0 1), (80, zo_gc 7 29), (83, zo_il 1 1), (84, zo_il 4 2),
  (86, zo_cv 66 9 3), (89, zo_il 2 1), (90, zo_k (.int 1) 1), (91, zo_iadd), (92, zo_cv 56 7 3), (95, zo_iadd), (96, zo_is 3 1), (97, zo_inc 4 1),
  (100, zo_goto 53), (103, zo_al 0 1), (104, zo_al 0 1), (105, zo_gc 7 29), (108, zo_gc 9 19), (111, zo_il 1 1), (112, zo_k (.int 3) 1), (113, zo_imul),
  (114, zo_cv 57 7 3), (117, zo_is 4 2), (119, zo_al 0 1), (120, zo_gc 7 29), (123, zo_il 1 1), (124, zo_cv 74 9 2), (127, zo_is 5 2), (129, zo_al 0 1),
  (130, zo_il 5 2), (132, zo_il 2 1), (133, zo_k (.int 0) 1), (134, zo_cv 55 7 4), (137, zo_is 6 2), (139, zo_il 4 2), (141, zo_il 6 2), (143, zo_cgt 163),
  (146, zo_il 4 2), (148, zo_il 3 1), (149, zo_cgt 163), (152, zo_al 0 1), (153, zo_gc 7 29), (156, zo_il 1 1), (157, zo_cv 69 9 2), (160, zo_il 4 2),
  (162, zo_ir), (163, zo_il 6 2), (165, zo_il 3 1), (166, zo_cgt 187), (169, zo_al 0 1), (170, zo_gc 7 29), (173, zo_il 5 2), (175, zo_il 1 1),
  (176, zo_cv 73 9 3), (179, zo_al 0 1), (180, zo_il 1 1), (181, zo_il 2 1), (182, zo_k (.int 1) 1), (183, zo_cv 55 7 4), (186, zo_ir), (187, zo_il 3 1),
  (188, zo_ir)]
abbrev m_Pr_pruneFrom : Nat := 56
def zi_Pr_leafErrors : ze_I := (⟨"CaseTree$Pruner", "leafErrors", "([II)I"⟩, prog_8_method_5_code, 4, (some .int), zb)
def t_Pr_leafErrors : ze_T := [(0, zo_al 1 1), (1, zo_il 2 1), (2, zo_k (.int 3) 1), (3, zo_cs 26 3), (6, zo_is 3 1), (7, zo_il 3 1), (8, zo_ifne 13), (11, zo_k (.int 0) 1),
  (12, zo_ir), (13, zo_il 3 1), (14, zo_al 1 1), (15, zo_il 2 1), (16, zo_al 1 1), (17, zo_il 2 1), (18, zo_k (.int 3) 1), (19, zo_cs 27 3),
  (22, zo_iadd), (23, zo_ia), (24, zo_isub), (25, zo_al 0 1), (26, zo_gi 7 2), (29, zo_iadd), (30, zo_ir)]
abbrev m_Pr_leafErrors : Nat := 57
def zi_Te_examine : ze_I := (⟨"CaseTree$Tester", "examine", "(I[II)V"⟩, prog_9_method_2_code, 10, none, zb)
def t_Te_examine : ze_T := [(0, zo_al 0 1), (1, zo_gc 8 45), (4, zo_il 1 1), (5, zo_aq 45 35), (6, zo_as 4 2), (8, zo_al 4 2), (10, zo_k (.int 0) 1), (11, zo_pz 2 0),
  (14, zo_al 0 1), (15, zo_gc 8 28), (18, zo_il 1 1), (19, zo_cv 33 1 2), (22, zo_ifne 48), (25, zo_al 0 1), (26, zo_il 1 1), (27, zo_k (.int (-1)) 1),
  (28, zo_al 2 1), (29, zo_cv 59 8 4), (32, zo_al 0 1), (33, zo_il 3 1), (34, zo_cv 60 8 2), (37, zo_ifeq 47), (40, zo_al 0 1), (41, zo_al 4 2),
  (43, zo_k (.int (-1)) 1), (44, zo_cv 61 8 3), (47, zo_vr), (48, zo_k (.int 0) 1), (49, zo_is 5 2), (51, zo_al 0 1), (52, zo_gc 8 28), (55, zo_il 1 1),
  (56, zo_al 2 1), (57, zo_k (.int (-1)) 1), (58, zo_cv 36 1 4), (61, zo_is 6 2), (63, zo_al 0 1), (64, zo_gc 8 28), (67, zo_il 1 1), (68, zo_al 2 1),
  (69, zo_il 6 2), (71, zo_cv 36 1 4), (74, zo_is 7 2), (76, zo_k (.int 0) 1), (77, zo_is 8 2), (79, zo_il 8 2), (81, zo_k (.int 24) 2), (83, zo_cge 159),
  (86, zo_il 7 2), (88, zo_k (.int (-1)) 1), (89, zo_ceq 159), (92, zo_al 0 1), (93, zo_gc 8 28), (96, zo_il 1 1), (97, zo_il 6 2), (99, zo_il 7 2),
  (101, zo_iadd), (102, zo_k (.int 2) 1), (103, zo_idiv), (104, zo_cv 37 1 3), (107, zo_is 9 2), (109, zo_al 0 1), (110, zo_il 1 1), (111, zo_il 9 2),
  (113, zo_al 2 1), (114, zo_cv 59 8 4), (117, zo_al 0 1), (118, zo_il 3 1), (119, zo_cv 60 8 2), (122, zo_ifeq 136), (125, zo_inc 5 1), (128, zo_al 0 1),
  (129, zo_al 4 2), (131, zo_il 9 2), (133, zo_cv 61 8 3), (136, zo_il 7 2), (138, zo_is 6 2), (140, zo_al 0 1), (141, zo_gc 8 28), (144, zo_il 1 1),
  (145, zo_al 2 1), (146, zo_il 6 2), (148, zo_cv 36 1 4), (151, zo_is 7 2), (153, zo_inc 8 1), (156, zo_goto 79), (159, zo_il 5 2), (161, zo_ifle 184),
  (164, zo_al 4 2), (166, zo_dup), (167, zo_gl 2 2), (170, zo_k (.long 720) 3), (173, zo_il 5 2), (175, zo_cs 24 1), (178, zo_i2l), (179, zo_lmul),
  (180, zo_lsub), (181, zo_pl 2 2), (184, zo_vr)]
abbrev m_Te_examine : Nat := 58
def zi_Te_tally : ze_I := (⟨"CaseTree$Tester", "tally", "(II[I)V"⟩, prog_9_method_3_code, 8, none, zb)
def t_Te_tally : ze_T := [(0, zo_al 0 1), (1, zo_gc 8 3), (4, zo_k (.int 0) 1), (5, zo_cs 0 2), (8, zo_al 0 1), (9, zo_gc 8 4), (12, zo_k (.int 0) 1), (13, zo_cs 0 2),
  (16, zo_al 0 1), (17, zo_gc 8 5), (20, zo_k (.int 0) 1), (21, zo_cs 0 2), (24, zo_k (.int 0) 1), (25, zo_is 4 2), (27, zo_il 4 2), (29, zo_al 0 1),
  (30, zo_gc 8 28), (33, zo_gi 1 4), (36, zo_cge 146), (39, zo_al 0 1), (40, zo_gc 8 28), (43, zo_il 4 2), (45, zo_il 1 1), (46, zo_cv 32 1 3),
  (49, zo_is 5 2), (51, zo_al 0 1), (52, zo_gc 8 28), (55, zo_gc 1 1), (58, zo_il 4 2), (60, zo_ia), (61, zo_is 6 2), (63, zo_il 5 2),
  (65, zo_k (.int (-1)) 1), (66, zo_cne 85), (69, zo_al 0 1), (70, zo_gc 8 5), (73, zo_k (.int 4) 1), (74, zo_dup2), (75, zo_ia), (76, zo_al 3 1),
  (77, zo_il 4 2), (79, zo_ia), (80, zo_iadd), (81, zo_ias), (82, zo_goto 140), (85, zo_il 5 2), (87, zo_il 2 1), (88, zo_cs 28 2),
  (91, zo_is 7 2), (93, zo_al 0 1), (94, zo_gc 8 5), (97, zo_il 7 2), (99, zo_dup2), (100, zo_ia), (101, zo_al 3 1), (102, zo_il 4 2),
  (104, zo_ia), (105, zo_iadd), (106, zo_ias), (107, zo_al 0 1), (108, zo_gc 8 3), (111, zo_il 6 2), (113, zo_dup2), (114, zo_ia),
  (115, zo_al 3 1), (116, zo_il 4 2), (118, zo_ia), (119, zo_iadd), (120, zo_ias), (121, zo_al 0 1), (122, zo_gc 8 4), (125, zo_il 7 2),
  (127, zo_k (.int 3) 1), (128, zo_imul), (129, zo_il 6 2), (131, zo_iadd), (132, zo_dup2), (133, zo_ia), (134, zo_al 3 1), (135, zo_il 4 2),
  (137, zo_ia), (138, zo_iadd), (139, zo_ias), (140, zo_inc 4 1), (143, zo_goto 27), (146, zo_vr)]
abbrev m_Te_tally : Nat := 59
def zi_Te_isValid : ze_I := (⟨"CaseTree$Tester", "isValid", "(I)Z"⟩, prog_9_method_4_code, 4, (some .boolean), zb)
def t_Te_isValid : ze_T := [(0, zo_k (.int 0) 1), (1, zo_is 2 1), (2, zo_k (.int 0) 1), (3, zo_is 3 1), (4, zo_il 3 1), (5, zo_k (.int 4) 1), (6, zo_cge 32), (9, zo_al 0 1),
  (10, zo_gc 8 5), (13, zo_il 3 1), (14, zo_ia), (15, zo_k (.int 720) 3), (18, zo_il 1 1), (19, zo_imul), (20, zo_clt 26), (23, zo_inc 2 1),
  (26, zo_inc 3 1), (29, zo_goto 4), (32, zo_il 2 1), (33, zo_k (.int 2) 1), (34, zo_clt 41), (37, zo_k (.int 1) 1), (38, zo_goto 42), (41, zo_k (.int 0) 1),
  (42, zo_zr)]
abbrev m_Te_isValid : Nat := 60
def zi_Te_offer : ze_I := (⟨"CaseTree$Tester", "offer", "(LCaseTree$Finding;I)V"⟩, prog_9_method_5_code, 6, none, zb)
def t_Te_offer : ze_T := [(0, zo_al 0 1), (1, zo_gc 8 3), (4, zo_k (.int 0) 1), (5, zo_k (.int 3) 1), (6, zo_cs 25 3), (9, zo_ls 3 1), (10, zo_k (.int 0) 1), (11, zo_is 5 2),
  (13, zo_il 5 2), (15, zo_k (.int 4) 1), (16, zo_cge 40), (19, zo_ll 3 1), (20, zo_al 0 1), (21, zo_gc 8 4), (24, zo_il 5 2), (26, zo_k (.int 3) 1),
  (27, zo_imul), (28, zo_k (.int 3) 1), (29, zo_cs 25 3), (32, zo_lsub), (33, zo_ls 3 1), (34, zo_inc 5 1), (37, zo_goto 13), (40, zo_al 1 1),
  (41, zo_gi 2 0), (44, zo_ifeq 57), (47, zo_ll 3 1), (48, zo_al 1 1), (49, zo_gl 2 2), (52, zo_lcmp), (53, zo_ifgt 57), (56, zo_vr),
  (57, zo_al 1 1), (58, zo_k (.int 1) 1), (59, zo_pz 2 0), (62, zo_al 1 1), (63, zo_il 2 1), (64, zo_pi 2 1), (67, zo_al 1 1), (68, zo_ll 3 1),
  (69, zo_pl 2 2), (72, zo_al 1 1), (73, zo_al 0 1), (74, zo_gc 8 5), (77, zo_k (.int 0) 1), (78, zo_k (.int 5) 1), (79, zo_cs 25 3), (82, zo_pl 2 3),
  (85, zo_vr)]
abbrev m_Te_offer : Nat := 61
def zi_Te_chosen : ze_I := (⟨"CaseTree$Tester", "chosen", "()I"⟩, prog_9_method_6_code, 8, (some .int), zb)
def t_Te_chosen : ze_T := [(0, zo_k (.long 0) 1), (1, zo_ls 1 1), (2, zo_k (.int 0) 1), (3, zo_is 3 1), (4, zo_k (.int 0) 1), (5, zo_is 4 2), (7, zo_il 4 2), (9, zo_al 0 1),
  (10, zo_gc 8 28), (13, zo_gi 1 3), (16, zo_cge 54), (19, zo_al 0 1), (20, zo_gc 8 45), (23, zo_il 4 2), (25, zo_aq 45 35), (26, zo_cv 38 2 1),
  (29, zo_ifeq 48), (32, zo_ll 1 1), (33, zo_al 0 1), (34, zo_gc 8 45), (37, zo_il 4 2), (39, zo_aq 45 35), (40, zo_gl 2 2), (43, zo_ladd),
  (44, zo_ls 1 1), (45, zo_inc 3 1), (48, zo_inc 4 1), (51, zo_goto 7), (54, zo_k (.int (-1)) 1), (55, zo_is 4 2), (57, zo_k (.int 0) 1), (58, zo_is 5 2),
  (60, zo_il 5 2), (62, zo_al 0 1), (63, zo_gc 8 28), (66, zo_gi 1 3), (69, zo_cge 145), (72, zo_al 0 1), (73, zo_gc 8 45), (76, zo_il 5 2),
  (78, zo_aq 45 35), (79, zo_as 6 2), (81, zo_al 6 2), (83, zo_cv 38 2 1), (86, zo_ifeq 106), (89, zo_al 6 2), (91, zo_gl 2 2), (94, zo_il 3 1),
  (95, zo_i2l), (96, zo_lmul), (97, zo_ll 1 1), (98, zo_lcmp), (99, zo_iflt 106), (102, zo_k (.int 1) 1), (103, zo_goto 107), (106, zo_k (.int 0) 1),
  (107, zo_is 7 2), (109, zo_il 7 2), (111, zo_ifeq 139), (114, zo_il 4 2), (116, zo_k (.int (-1)) 1), (117, zo_ceq 135), (120, zo_al 6 2), (122, zo_al 0 1),
  (123, zo_gc 8 45), (126, zo_il 4 2), (128, zo_aq 45 35), (129, zo_cv 39 2 2), (132, zo_ifeq 139), (135, zo_il 5 2), (137, zo_is 4 2), (139, zo_inc 5 1),
  (142, zo_goto 60), (145, zo_il 4 2), (147, zo_ir)]
abbrev m_Te_chosen : Nat := 62
def zi_Tr_has : ze_I := (⟨"CaseTree$Tree", "has", "(I)Z"⟩, prog_10_method_2_code, 2, (some .boolean), zb)
def t_Tr_has : ze_T := [(0, zo_il 1 1), (1, zo_iflt 16), (4, zo_il 1 1), (5, zo_al 0 1), (6, zo_gi 9 10), (9, zo_cge 16), (12, zo_k (.int 1) 1), (13, zo_goto 17),
  (16, zo_k (.int 0) 1), (17, zo_zr)]
abbrev m_Tr_has : Nat := 63
def zi_Tr_hasBranch : ze_I := (⟨"CaseTree$Tree", "hasBranch", "(II)Z"⟩, prog_10_method_3_code, 3, (some .boolean), zb)
def t_Tr_hasBranch : ze_T := [(0, zo_al 0 1), (1, zo_il 1 1), (2, zo_cv 63 9 2), (5, zo_ifeq 31), (8, zo_il 2 1), (9, zo_iflt 31), (12, zo_il 2 1), (13, zo_al 0 1),
  (14, zo_gc 9 17), (17, zo_al 0 1), (18, zo_gc 9 22), (21, zo_il 1 1), (22, zo_ia), (23, zo_ia), (24, zo_cge 31), (27, zo_k (.int 1) 1),
  (28, zo_goto 32), (31, zo_k (.int 0) 1), (32, zo_zr)]
abbrev m_Tr_hasBranch : Nat := 64
def zi_Tr_isLeaf : ze_I := (⟨"CaseTree$Tree", "isLeaf", "(I)Z"⟩, prog_10_method_4_code, 2, (some .boolean), zb)
def t_Tr_isLeaf : ze_T := [(0, zo_al 0 1), (1, zo_gc 9 17), (4, zo_il 1 1), (5, zo_ia), (6, zo_ifne 13), (9, zo_k (.int 1) 1), (10, zo_goto 14), (13, zo_k (.int 0) 1),
  (14, zo_zr)]
abbrev m_Tr_isLeaf : Nat := 65
def zi_Tr_below : ze_I := (⟨"CaseTree$Tree", "below", "(II)I"⟩, prog_10_method_5_code, 3, (some .int), zb)
def t_Tr_below : ze_T := [(0, zo_al 0 1), (1, zo_gc 9 21), (4, zo_il 1 1), (5, zo_k (.int 4) 1), (6, zo_imul), (7, zo_il 2 1), (8, zo_iadd), (9, zo_ia),
  (10, zo_ir)]
abbrev m_Tr_below : Nat := 66
def zi_Tr_totalWeight : ze_I := (⟨"CaseTree$Tree", "totalWeight", "(I)I"⟩, prog_10_method_6_code, 2, (some .int), zb)
def t_Tr_totalWeight : ze_T := [(0, zo_al 0 1), (1, zo_gc 9 19), (4, zo_il 1 1), (5, zo_k (.int 3) 1), (6, zo_imul), (7, zo_k (.int 3) 1), (8, zo_cs 26 3), (11, zo_ir)]
abbrev m_Tr_totalWeight : Nat := 67
def zi_Tr_makeNode : ze_I := (⟨"CaseTree$Tree", "makeNode", "(I)I"⟩, prog_10_method_7_code, 3, (some .int), zb)
def t_Tr_makeNode : ze_T := [(0, zo_al 0 1), (1, zo_gi 9 9), (4, zo_is 2 1), (5, zo_al 0 1), (6, zo_dup), (7, zo_gi 9 9), (10, zo_k (.int 1) 1), (11, zo_iadd),
  (12, zo_pi 9 9), (15, zo_al 0 1), (16, zo_gc 9 18), (19, zo_il 2 1), (20, zo_il 1 1), (21, zo_ias), (22, zo_al 0 1), (23, zo_il 2 1),
  (24, zo_cv 69 9 2), (27, zo_il 2 1), (28, zo_ir)]
abbrev m_Tr_makeNode : Nat := 68
def zi_Tr_becomeLeaf : ze_I := (⟨"CaseTree$Tree", "becomeLeaf", "(I)V"⟩, prog_10_method_8_code, 2, none, zb)
def t_Tr_becomeLeaf : ze_T := [(0, zo_al 0 1), (1, zo_gc 9 15), (4, zo_il 1 1), (5, zo_k (.int (-1)) 1), (6, zo_ias), (7, zo_al 0 1), (8, zo_gc 9 16), (11, zo_il 1 1),
  (12, zo_k (.int (-1)) 1), (13, zo_ias), (14, zo_al 0 1), (15, zo_gc 9 17), (18, zo_il 1 1), (19, zo_k (.int 0) 1), (20, zo_ias), (21, zo_vr)]
abbrev m_Tr_becomeLeaf : Nat := 69
def zi_Tr_keepTest : ze_I := (⟨"CaseTree$Tree", "keepTest", "(ILCaseTree$Fork;)V"⟩, prog_10_method_9_code, 3, none, zb)
def t_Tr_keepTest : ze_T := [(0, zo_al 0 1), (1, zo_gc 9 15), (4, zo_il 1 1), (5, zo_al 2 1), (6, zo_gi 3 1), (9, zo_ias), (10, zo_al 0 1), (11, zo_gc 9 16),
  (14, zo_il 1 1), (15, zo_al 2 1), (16, zo_gi 3 2), (19, zo_ias), (20, zo_al 0 1), (21, zo_gc 9 17), (24, zo_il 1 1), (25, zo_al 2 1),
  (26, zo_gi 3 3), (29, zo_ias), (30, zo_al 2 1), (31, zo_gf 3), (34, zo_k (.int 0) 1), (35, zo_al 0 1), (36, zo_gc 9 20), (39, zo_il 1 1),
  (40, zo_k (.int 4) 1), (41, zo_imul), (42, zo_k (.int 4) 1), (43, zo_cpy), (46, zo_vr)]
abbrev m_Tr_keepTest : Nat := 70
def zi_Tr_readTest : ze_I := (⟨"CaseTree$Tree", "readTest", "(ILCaseTree$Fork;)V"⟩, prog_10_method_10_code, 3, none, zb)
def t_Tr_readTest : ze_T := [(0, zo_al 2 1), (1, zo_al 0 1), (2, zo_gc 9 15), (5, zo_il 1 1), (6, zo_ia), (7, zo_al 0 1), (8, zo_gc 9 16), (11, zo_il 1 1),
  (12, zo_ia), (13, zo_al 0 1), (14, zo_gc 9 17), (17, zo_il 1 1), (18, zo_ia), (19, zo_cv 40 3 4), (22, zo_al 0 1), (23, zo_gc 9 20),
  (26, zo_il 1 1), (27, zo_k (.int 4) 1), (28, zo_imul), (29, zo_al 2 1), (30, zo_gf 3), (33, zo_k (.int 0) 1), (34, zo_k (.int 4) 1), (35, zo_cpy),
  (38, zo_al 2 1), (39, zo_cv 41 3 1), (42, zo_vr)]
abbrev m_Tr_readTest : Nat := 71
def zi_Tr_keepWeights : ze_I := (⟨"CaseTree$Tree", "keepWeights", "(I[I)V"⟩, prog_10_method_11_code, 3, none, zb)
def t_Tr_keepWeights : ze_T := [(0, zo_al 2 1), (1, zo_k (.int 0) 1), (2, zo_al 0 1), (3, zo_gc 9 19), (6, zo_il 1 1), (7, zo_k (.int 3) 1), (8, zo_imul), (9, zo_k (.int 3) 1),
  (10, zo_cpy), (13, zo_al 0 1), (14, zo_il 1 1), (15, zo_cv 67 9 2), (18, zo_ifle 33), (21, zo_al 0 1), (22, zo_gc 9 18), (25, zo_il 1 1),
  (26, zo_al 2 1), (27, zo_k (.int 0) 1), (28, zo_k (.int 3) 1), (29, zo_cs 27 3), (32, zo_ias), (33, zo_vr)]
abbrev m_Tr_keepWeights : Nat := 72
def zi_Tr_moveNode : ze_I := (⟨"CaseTree$Tree", "moveNode", "(II)V"⟩, prog_10_method_12_code, 3, none, zb)
def t_Tr_moveNode : ze_T := [(0, zo_al 0 1), (1, zo_gc 9 15), (4, zo_il 2 1), (5, zo_al 0 1), (6, zo_gc 9 15), (9, zo_il 1 1), (10, zo_ia), (11, zo_ias),
  (12, zo_al 0 1), (13, zo_gc 9 16), (16, zo_il 2 1), (17, zo_al 0 1), (18, zo_gc 9 16), (21, zo_il 1 1), (22, zo_ia), (23, zo_ias),
  (24, zo_al 0 1), (25, zo_gc 9 17), (28, zo_il 2 1), (29, zo_al 0 1), (30, zo_gc 9 17), (33, zo_il 1 1), (34, zo_ia), (35, zo_ias),
  (36, zo_al 0 1), (37, zo_gc 9 18), (40, zo_il 2 1), (41, zo_al 0 1), (42, zo_gc 9 18), (45, zo_il 1 1), (46, zo_ia), (47, zo_ias),
  (48, zo_al 0 1), (49, zo_gc 9 19), (52, zo_il 1 1), (53, zo_k (.int 3) 1), (54, zo_imul), (55, zo_al 0 1), (56, zo_gc 9 19), (59, zo_il 2 1),
  (60, zo_k (.int 3) 1), (61, zo_imul), (62, zo_k (.int 3) 1), (63, zo_cpy), (66, zo_al 0 1), (67, zo_gc 9 20), (70, zo_il 1 1), (71, zo_k (.int 4) 1),
  (72, zo_imul), (73, zo_al 0 1), (74, zo_gc 9 20), (77, zo_il 2 1), (78, zo_k (.int 4) 1), (79, zo_imul), (80, zo_k (.int 4) 1), (81, zo_cpy),
  (84, zo_al 0 1), (85, zo_gc 9 21), (88, zo_il 1 1), (89, zo_k (.int 4) 1), (90, zo_imul), (91, zo_al 0 1), (92, zo_gc 9 21), (95, zo_il 2 1),
  (96, zo_k (.int 4) 1), (97, zo_imul), (98, zo_k (.int 4) 1), (99, zo_cpy), (102, zo_vr)]
abbrev m_Tr_moveNode : Nat := 73
def zi_Tr_heaviestBelow : ze_I := (⟨"CaseTree$Tree", "heaviestBelow", "(I)I"⟩, prog_10_method_13_code, 5, (some .int), zb)
def t_Tr_heaviestBelow : ze_T := [(0, zo_al 0 1), (1, zo_il 1 1), (2, zo_k (.int 0) 1), (3, zo_cv 66 9 3), (6, zo_is 2 1), (7, zo_k (.int 1) 1), (8, zo_is 3 1), (9, zo_il 3 1),
  (10, zo_al 0 1), (11, zo_gc 9 17), (14, zo_il 1 1), (15, zo_ia), (16, zo_cge 50), (19, zo_al 0 1), (20, zo_il 1 1), (21, zo_il 3 1),
  (22, zo_cv 66 9 3), (25, zo_is 4 2), (27, zo_al 0 1), (28, zo_il 4 2), (30, zo_cv 67 9 2), (33, zo_al 0 1), (34, zo_il 2 1), (35, zo_cv 67 9 2),
  (38, zo_cle 44), (41, zo_il 4 2), (43, zo_is 2 1), (44, zo_inc 3 1), (47, zo_goto 9), (50, zo_il 2 1), (51, zo_ir)]
abbrev m_Tr_heaviestBelow : Nat := 74
def zi_Tr_numberNodes : ze_I := (⟨"CaseTree$Tree", "numberNodes", "()V"⟩, prog_10_method_14_code, 1, none, zb)
def t_Tr_numberNodes : ze_T := [(0, zo_al 0 1), (1, zo_k (.int 0) 1), (2, zo_pi 9 10), (5, zo_al 0 1), (6, zo_k (.int 0) 1), (7, zo_k (.int 0) 1), (8, zo_cv 76 9 3), (11, zo_vr)]
abbrev m_Tr_numberNodes : Nat := 75
def zi_Tr_numberFrom : ze_I := (⟨"CaseTree$Tree", "numberFrom", "(II)V"⟩, prog_10_method_15_code, 4, none, zb)
def t_Tr_numberFrom : ze_T := [(0, zo_al 0 1), (1, zo_gc 9 22), (4, zo_al 0 1), (5, zo_gi 9 10), (8, zo_il 1 1), (9, zo_ias), (10, zo_al 0 1), (11, zo_gc 9 23),
  (14, zo_il 1 1), (15, zo_al 0 1), (16, zo_gi 9 10), (19, zo_ias), (20, zo_al 0 1), (21, zo_dup), (22, zo_gi 9 10), (25, zo_k (.int 1) 1),
  (26, zo_iadd), (27, zo_pi 9 10), (30, zo_il 2 1), (31, zo_k (.int 3) 1), (32, zo_clt 36), (35, zo_vr), (36, zo_k (.int 0) 1), (37, zo_is 3 1),
  (38, zo_il 3 1), (39, zo_al 0 1), (40, zo_gc 9 17), (43, zo_il 1 1), (44, zo_ia), (45, zo_cge 67), (48, zo_al 0 1), (49, zo_al 0 1),
  (50, zo_il 1 1), (51, zo_il 3 1), (52, zo_cv 66 9 3), (55, zo_il 2 1), (56, zo_k (.int 1) 1), (57, zo_iadd), (58, zo_cv 76 9 3), (61, zo_inc 3 1),
  (64, zo_goto 38), (67, zo_vr)]
abbrev m_Tr_numberFrom : Nat := 76
def zi_M_logOf : ze_I := (⟨"CaseTreeModel", "logOf", "(I)I"⟩, prog_12_method_2_code, 5, (some .int), zb)
def t_M_logOf : ze_T := [(0, zo_k (.int 0) 1), (1, zo_is 1 1), (2, zo_il 0 1), (3, zo_il 1 1), (4, zo_k (.int 1) 1), (5, zo_iadd), (6, zo_ishr), (7, zo_ifle 16),
  (10, zo_inc 1 1), (13, zo_goto 2), (16, zo_il 1 1), (17, zo_k (.int 14) 2), (19, zo_cgt 31), (22, zo_il 0 1), (23, zo_k (.int 14) 2), (25, zo_il 1 1),
  (26, zo_isub), (27, zo_ishl), (28, zo_goto 37), (31, zo_il 0 1), (32, zo_il 1 1), (33, zo_k (.int 14) 2), (35, zo_isub), (36, zo_ishr),
  (37, zo_is 2 1), (38, zo_il 1 1), (39, zo_is 3 1), (40, zo_k (.int 0) 1), (41, zo_is 4 2), (43, zo_il 4 2), (45, zo_k (.int 8) 2), (47, zo_cge 80),
  (50, zo_il 2 1), (51, zo_il 2 1), (52, zo_imul), (53, zo_k (.int 14) 2), (55, zo_ishr), (56, zo_is 2 1), (57, zo_k (.int 2) 1), (58, zo_il 3 1),
  (59, zo_imul), (60, zo_is 3 1), (61, zo_il 2 1), (62, zo_k (.int 32768) 2), (64, zo_clt 74), (67, zo_il 2 1), (68, zo_k (.int 1) 1), (69, zo_ishr),
  (70, zo_is 2 1), (71, zo_inc 3 1), (74, zo_inc 4 1), (77, zo_goto 43), (80, zo_il 3 1), (81, zo_ir)]
abbrev m_M_logOf : Nat := 77
def zi_M_term : ze_I := (⟨"CaseTreeModel", "term", "(II)J"⟩, prog_12_method_3_code, 2, (some .long), zb)
def t_M_term : ze_T := [(0, zo_il 0 1), (1, zo_ifle 20), (4, zo_il 0 1), (5, zo_i2l), (6, zo_il 1 1), (7, zo_cs 77 1), (10, zo_il 0 1), (11, zo_cs 77 1),
  (14, zo_isub), (15, zo_i2l), (16, zo_lmul), (17, zo_goto 21), (20, zo_k (.long 0) 1), (21, zo_lr)]
abbrev m_M_term : Nat := 78
def zi_M_information : ze_I := (⟨"CaseTreeModel", "information", "(IIIII)J"⟩, prog_12_method_4_code, 6, (some .long), zb)
def t_M_information : ze_T := [(0, zo_il 0 1), (1, zo_il 1 1), (2, zo_iadd), (3, zo_il 2 1), (4, zo_iadd), (5, zo_il 3 1), (6, zo_iadd), (7, zo_il 4 2),
  (9, zo_iadd), (10, zo_is 5 2), (12, zo_il 0 1), (13, zo_il 5 2), (15, zo_cs 78 2), (18, zo_il 1 1), (19, zo_il 5 2), (21, zo_cs 78 2),
  (24, zo_ladd), (25, zo_il 2 1), (26, zo_il 5 2), (28, zo_cs 78 2), (31, zo_ladd), (32, zo_il 3 1), (33, zo_il 5 2), (35, zo_cs 78 2),
  (38, zo_ladd), (39, zo_il 4 2), (41, zo_il 5 2), (43, zo_cs 78 2), (46, zo_ladd), (47, zo_lr)]
abbrev m_M_information : Nat := 79
def zi_M_log : ze_I := (⟨"CaseTreeModel", "log", "(I)I"⟩, prog_12_method_5_code, 2, (some .int), zb)
def t_M_log : ze_T := [(0, zo_il 1 1), (1, zo_k (.int 1) 1), (2, zo_clt 12), (5, zo_il 1 1), (6, zo_k (.int 32767) 3), (9, zo_cle 16), (12, zo_k (.int (-1)) 1), (13, zo_goto 20),
  (16, zo_il 1 1), (17, zo_cs 77 1), (20, zo_ir)]
abbrev m_M_log : Nat := 80
def zi_M_attribute : ze_I := (⟨"CaseTreeModel", "attribute", "(I)I"⟩, prog_12_method_6_code, 2, (some .int), zb)
def t_M_attribute : ze_T := [(0, zo_il 1 1), (1, zo_ifeq 14), (4, zo_il 1 1), (5, zo_k (.int 2) 1), (6, zo_clt 21), (9, zo_il 1 1), (10, zo_k (.int 4) 1), (11, zo_cgt 21),
  (14, zo_al 0 1), (15, zo_gi 10 2), (18, zo_ifle 23), (21, zo_k (.int (-1)) 1), (22, zo_ir), (23, zo_al 0 1), (24, zo_gi 10 0), (27, zo_k (.int 4) 1),
  (28, zo_cne 34), (31, zo_k (.int (-2)) 2), (33, zo_ir), (34, zo_al 0 1), (35, zo_gc 10 46), (38, zo_al 0 1), (39, zo_gi 10 0), (42, zo_il 1 1),
  (43, zo_ias), (44, zo_al 0 1), (45, zo_dup), (46, zo_gi 10 0), (49, zo_k (.int 1) 1), (50, zo_iadd), (51, zo_pi 10 0), (54, zo_al 0 1),
  (55, zo_gi 10 0), (58, zo_k (.int 1) 1), (59, zo_isub), (60, zo_ir)]
abbrev m_M_attribute : Nat := 81
def zi_M_fits : ze_I := (⟨"CaseTreeModel", "fits", "(II)Z"⟩, prog_12_method_7_code, 3, (some .boolean), zb)
def t_M_fits : ze_T := [(0, zo_il 1 1), (1, zo_al 0 1), (2, zo_gi 10 0), (5, zo_cge 38), (8, zo_il 2 1), (9, zo_k (.int (-1)) 1), (10, zo_clt 42), (13, zo_il 2 1),
  (14, zo_al 0 1), (15, zo_gc 10 46), (18, zo_il 1 1), (19, zo_ia), (20, zo_ifne 29), (23, zo_k (.int 1000) 3), (26, zo_goto 35), (29, zo_al 0 1),
  (30, zo_gc 10 46), (33, zo_il 1 1), (34, zo_ia), (35, zo_cge 42), (38, zo_k (.int 1) 1), (39, zo_goto 43), (42, zo_k (.int 0) 1), (43, zo_zr)]
abbrev m_M_fits : Nat := 82
def zi_M_allFit : ze_I := (⟨"CaseTreeModel", "allFit", "(IIII)Z"⟩, prog_12_method_8_code, 5, (some .boolean), zb)
def t_M_allFit : ze_T := [(0, zo_al 0 1), (1, zo_k (.int 0) 1), (2, zo_il 1 1), (3, zo_cv 82 10 3), (6, zo_ifeq 41), (9, zo_al 0 1), (10, zo_k (.int 1) 1), (11, zo_il 2 1),
  (12, zo_cv 82 10 3), (15, zo_ifeq 41), (18, zo_al 0 1), (19, zo_k (.int 2) 1), (20, zo_il 3 1), (21, zo_cv 82 10 3), (24, zo_ifeq 41), (27, zo_al 0 1),
  (28, zo_k (.int 3) 1), (29, zo_il 4 2), (31, zo_cv 82 10 3), (34, zo_ifeq 41), (37, zo_k (.int 1) 1), (38, zo_goto 42), (41, zo_k (.int 0) 1), (42, zo_zr)]
abbrev m_M_allFit : Nat := 83
def zi_M_add : ze_I := (⟨"CaseTreeModel", "add", "(IIIII)I"⟩, prog_12_method_9_code, 6, (some .int), zb)
def t_M_add : ze_T := [(0, zo_il 1 1), (1, zo_iflt 22), (4, zo_il 1 1), (5, zo_k (.int 2) 1), (6, zo_cgt 22), (9, zo_al 0 1), (10, zo_il 2 1), (11, zo_il 3 1),
  (12, zo_il 4 2), (14, zo_il 5 2), (16, zo_cv 83 10 5), (19, zo_ifne 24), (22, zo_k (.int (-1)) 1), (23, zo_ir), (24, zo_al 0 1), (25, zo_gi 10 2),
  (28, zo_k (.int 24) 2), (30, zo_cne 36), (33, zo_k (.int (-2)) 2), (35, zo_ir), (36, zo_al 0 1), (37, zo_gc 10 47), (40, zo_al 0 1), (41, zo_gi 10 2),
  (44, zo_il 1 1), (45, zo_ias), (46, zo_al 0 1), (47, zo_gc 10 48), (50, zo_k (.int 4) 1), (51, zo_al 0 1), (52, zo_gi 10 2), (55, zo_imul),
  (56, zo_il 2 1), (57, zo_ias), (58, zo_al 0 1), (59, zo_gc 10 48), (62, zo_k (.int 4) 1), (63, zo_al 0 1), (64, zo_gi 10 2), (67, zo_imul),
  (68, zo_k (.int 1) 1), (69, zo_iadd), (70, zo_il 3 1), (71, zo_ias), (72, zo_al 0 1), (73, zo_gc 10 48), (76, zo_k (.int 4) 1), (77, zo_al 0 1),
  (78, zo_gi 10 2), (81, zo_imul), (82, zo_k (.int 2) 1), (83, zo_iadd), (84, zo_il 4 2), (86, zo_ias), (87, zo_al 0 1), (88, zo_gc 10 48),
  (91, zo_k (.int 4) 1), (92, zo_al 0 1), (93, zo_gi 10 2), (96, zo_imul), (97, zo_k (.int 3) 1), (98, zo_iadd), (99, zo_il 5 2), (101, zo_ias),
  (102, zo_al 0 1), (103, zo_dup), (104, zo_gi 10 2), (107, zo_k (.int 1) 1), (108, zo_iadd), (109, zo_pi 10 2), (112, zo_al 0 1), (113, zo_gi 10 2),
  (116, zo_k (.int 1) 1), (117, zo_isub), (118, zo_ir)]
abbrev m_M_add : Nat := 84
def zi_M_classWeight : ze_I := (⟨"CaseTreeModel", "classWeight", "(III)I"⟩, prog_12_method_10_code, 6, (some .int), zb)
def t_M_classWeight : ze_T := [(0, zo_k (.int 0) 1), (1, zo_is 4 2), (3, zo_k (.int 0) 1), (4, zo_is 5 2), (6, zo_il 5 2), (8, zo_il 3 1), (9, zo_cge 51), (12, zo_al 0 1),
  (13, zo_gc 10 47), (16, zo_il 5 2), (18, zo_ia), (19, zo_il 2 1), (20, zo_cne 41), (23, zo_il 4 2), (25, zo_al 0 1), (26, zo_gc 10 55),
  (29, zo_k (.int 24) 2), (31, zo_il 1 1), (32, zo_imul), (33, zo_il 5 2), (35, zo_iadd), (36, zo_ia), (37, zo_iadd), (38, zo_goto 43),
  (41, zo_il 4 2), (43, zo_is 4 2), (45, zo_inc 5 1), (48, zo_goto 6), (51, zo_il 4 2), (53, zo_ir)]
abbrev m_M_classWeight : Nat := 85
def zi_M_weightOf : ze_I := (⟨"CaseTreeModel", "weightOf", "(II)I"⟩, prog_12_method_11_code, 3, (some .int), zb)
def t_M_weightOf : ze_T := [(0, zo_al 0 1), (1, zo_il 1 1), (2, zo_k (.int 0) 1), (3, zo_il 2 1), (4, zo_cv 85 10 4), (7, zo_al 0 1), (8, zo_il 1 1), (9, zo_k (.int 1) 1),
  (10, zo_il 2 1), (11, zo_cv 85 10 4), (14, zo_iadd), (15, zo_al 0 1), (16, zo_il 1 1), (17, zo_k (.int 2) 1), (18, zo_il 2 1), (19, zo_cv 85 10 4),
  (22, zo_iadd), (23, zo_ir)]
abbrev m_M_weightOf : Nat := 86
def zi_M_heaviest : ze_I := (⟨"CaseTreeModel", "heaviest", "(II)I"⟩, prog_12_method_12_code, 5, (some .int), zb)
def t_M_heaviest : ze_T := [(0, zo_k (.int 0) 1), (1, zo_is 3 1), (2, zo_k (.int 1) 1), (3, zo_is 4 2), (5, zo_il 4 2), (7, zo_k (.int 3) 1), (8, zo_cge 42), (11, zo_al 0 1),
  (12, zo_il 1 1), (13, zo_il 4 2), (15, zo_il 2 1), (16, zo_cv 85 10 4), (19, zo_al 0 1), (20, zo_il 1 1), (21, zo_il 3 1), (22, zo_il 2 1),
  (23, zo_cv 85 10 4), (26, zo_cle 34), (29, zo_il 4 2), (31, zo_goto 35), (34, zo_il 3 1), (35, zo_is 3 1), (36, zo_inc 4 1), (39, zo_goto 5),
  (42, zo_il 3 1), (43, zo_ir)]
abbrev m_M_heaviest : Nat := 87
def zi_M_branches : ze_I := (⟨"CaseTreeModel", "branches", "(I)I"⟩, prog_12_method_13_code, 2, (some .int), zb)
def t_M_branches : ze_T := [(0, zo_al 0 1), (1, zo_gc 10 46), (4, zo_il 1 1), (5, zo_ia), (6, zo_ifne 13), (9, zo_k (.int 2) 1), (10, zo_goto 19), (13, zo_al 0 1),
  (14, zo_gc 10 46), (17, zo_il 1 1), (18, zo_ia), (19, zo_ir)]
abbrev m_M_branches : Nat := 88
def zi_M_branch : ze_I := (⟨"CaseTreeModel", "branch", "(III)I"⟩, prog_12_method_14_code, 4, (some .int), zb)
def t_M_branch : ze_T := [(0, zo_al 0 1), (1, zo_gc 10 46), (4, zo_il 1 1), (5, zo_ia), (6, zo_ifeq 13), (9, zo_il 3 1), (10, zo_goto 23), (13, zo_il 3 1),
  (14, zo_il 2 1), (15, zo_cgt 22), (18, zo_k (.int 0) 1), (19, zo_goto 23), (22, zo_k (.int 1) 1), (23, zo_ir)]
abbrev m_M_branch : Nat := 89
def zi_M_measure : ze_I := (⟨"CaseTreeModel", "measure", "(IIIII)V"⟩, prog_12_method_15_code, 10, none, zb)
def t_M_measure : ze_T := [(0, zo_k (.int 0) 1), (1, zo_is 6 2), (3, zo_il 6 2), (5, zo_k (.int 12) 2), (7, zo_cge 24), (10, zo_al 0 1), (11, zo_gc 10 57), (14, zo_il 6 2),
  (16, zo_k (.int 0) 1), (17, zo_ias), (18, zo_inc 6 1), (21, zo_goto 3), (24, zo_k (.int 0) 1), (25, zo_is 6 2), (27, zo_il 6 2), (29, zo_k (.int 4) 1),
  (30, zo_cge 47), (33, zo_al 0 1), (34, zo_gc 10 56), (37, zo_il 6 2), (39, zo_k (.int 0) 1), (40, zo_ias), (41, zo_inc 6 1), (44, zo_goto 27),
  (47, zo_al 0 1), (48, zo_k (.int 0) 1), (49, zo_pi 10 17), (52, zo_al 0 1), (53, zo_al 0 1), (54, zo_il 1 1), (55, zo_il 4 2), (57, zo_cv 86 10 3),
  (60, zo_pi 10 18), (63, zo_k (.int 0) 1), (64, zo_is 6 2), (66, zo_il 6 2), (68, zo_il 4 2), (70, zo_cge 166), (73, zo_al 0 1), (74, zo_gc 10 48),
  (77, zo_k (.int 4) 1), (78, zo_il 6 2), (80, zo_imul), (81, zo_il 2 1), (82, zo_iadd), (83, zo_ia), (84, zo_is 7 2), (86, zo_al 0 1),
  (87, zo_gc 10 55), (90, zo_k (.int 24) 2), (92, zo_il 1 1), (93, zo_imul), (94, zo_il 6 2), (96, zo_iadd), (97, zo_ia), (98, zo_is 8 2),
  (100, zo_il 7 2), (102, zo_iflt 160), (105, zo_al 0 1), (106, zo_il 2 1), (107, zo_il 3 1), (108, zo_il 7 2), (110, zo_cv 89 10 4), (113, zo_is 9 2),
  (115, zo_al 0 1), (116, zo_gc 10 56), (119, zo_il 9 2), (121, zo_dup2), (122, zo_ia), (123, zo_il 8 2), (125, zo_iadd), (126, zo_ias),
  (127, zo_al 0 1), (128, zo_gc 10 57), (131, zo_k (.int 3) 1), (132, zo_il 9 2), (134, zo_imul), (135, zo_al 0 1), (136, zo_gc 10 47), (139, zo_il 6 2),
  (141, zo_ia), (142, zo_iadd), (143, zo_dup2), (144, zo_ia), (145, zo_il 8 2), (147, zo_iadd), (148, zo_ias), (149, zo_al 0 1),
  (150, zo_dup), (151, zo_gi 10 17), (154, zo_il 8 2), (156, zo_iadd), (157, zo_pi 10 17), (160, zo_inc 6 1), (163, zo_goto 66), (166, zo_k (.int 0) 1),
  (167, zo_is 6 2), (169, zo_al 0 1), (170, zo_al 0 1), (171, zo_gc 10 56), (174, zo_k (.int 0) 1), (175, zo_ia), (176, zo_al 0 1), (177, zo_gc 10 56),
  (180, zo_k (.int 1) 1), (181, zo_ia), (182, zo_al 0 1), (183, zo_gc 10 56), (186, zo_k (.int 2) 1), (187, zo_ia), (188, zo_al 0 1), (189, zo_gc 10 56),
  (192, zo_k (.int 3) 1), (193, zo_ia), (194, zo_al 0 1), (195, zo_gi 10 18), (198, zo_al 0 1), (199, zo_gi 10 17), (202, zo_isub), (203, zo_cs 79 5),
  (206, zo_pl 10 20), (209, zo_al 0 1), (210, zo_al 0 1), (211, zo_gc 10 57), (214, zo_k (.int 0) 1), (215, zo_ia), (216, zo_al 0 1), (217, zo_gc 10 57),
  (220, zo_k (.int 3) 1), (221, zo_ia), (222, zo_iadd), (223, zo_al 0 1), (224, zo_gc 10 57), (227, zo_k (.int 6) 2), (229, zo_ia), (230, zo_iadd),
  (231, zo_al 0 1), (232, zo_gc 10 57), (235, zo_k (.int 9) 2), (237, zo_ia), (238, zo_iadd), (239, zo_al 0 1), (240, zo_gc 10 57), (243, zo_k (.int 1) 1),
  (244, zo_ia), (245, zo_al 0 1), (246, zo_gc 10 57), (249, zo_k (.int 4) 1), (250, zo_ia), (251, zo_iadd), (252, zo_al 0 1), (253, zo_gc 10 57),
  (256, zo_k (.int 7) 2), (258, zo_ia), (259, zo_iadd), (260, zo_al 0 1), (261, zo_gc 10 57), (264, zo_k (.int 10) 2), (266, zo_ia), (267, zo_iadd),
  (268, zo_al 0 1), (269, zo_gc 10 57), (272, zo_k (.int 2) 1), (273, zo_ia), (274, zo_al 0 1), (275, zo_gc 10 57), (278, zo_k (.int 5) 1), (279, zo_ia),
  (280, zo_iadd), (281, zo_al 0 1), (282, zo_gc 10 57), (285, zo_k (.int 8) 2), (287, zo_ia), (288, zo_iadd), (289, zo_al 0 1), (290, zo_gc 10 57),
  (293, zo_k (.int 11) 2), (295, zo_ia), (296, zo_iadd), (297, zo_k (.int 0) 1), (298, zo_k (.int 0) 1), (299, zo_cs 79 5), (302, zo_pl 10 19), (305, zo_k (.int 0) 1),
  (306, zo_is 7 2), (308, zo_il 7 2), (310, zo_k (.int 4) 1), (311, zo_cge 392), (314, zo_al 0 1), (315, zo_dup), (316, zo_gl 10 19), (319, zo_al 0 1),
  (320, zo_gc 10 57), (323, zo_k (.int 3) 1), (324, zo_il 7 2), (326, zo_imul), (327, zo_ia), (328, zo_al 0 1), (329, zo_gc 10 57), (332, zo_k (.int 3) 1),
  (333, zo_il 7 2), (335, zo_imul), (336, zo_k (.int 1) 1), (337, zo_iadd), (338, zo_ia), (339, zo_al 0 1), (340, zo_gc 10 57), (343, zo_k (.int 3) 1),
  (344, zo_il 7 2), (346, zo_imul), (347, zo_k (.int 2) 1), (348, zo_iadd), (349, zo_ia), (350, zo_k (.int 0) 1), (351, zo_k (.int 0) 1), (352, zo_cs 79 5),
  (355, zo_lsub), (356, zo_pl 10 19), (359, zo_al 0 1), (360, zo_gc 10 56), (363, zo_il 7 2), (365, zo_ia), (366, zo_k (.int 720) 3), (369, zo_il 5 2),
  (371, zo_imul), (372, zo_clt 382), (375, zo_il 6 2), (377, zo_k (.int 1) 1), (378, zo_iadd), (379, zo_goto 384), (382, zo_il 6 2), (384, zo_is 6 2),
  (386, zo_inc 7 1), (389, zo_goto 308), (392, zo_al 0 1), (393, zo_il 6 2), (395, zo_k (.int 2) 1), (396, zo_clt 403), (399, zo_k (.int 1) 1), (400, zo_goto 404),
  (403, zo_k (.int 0) 1), (404, zo_pz 10 21), (407, zo_vr)]
abbrev m_M_measure : Nat := 90
def zi_M_nextValue : ze_I := (⟨"CaseTreeModel", "nextValue", "(IIII)I"⟩, prog_12_method_16_code, 8, (some .int), zb)
def t_M_nextValue : ze_T := [(0, zo_k (.int (-1)) 1), (1, zo_is 5 2), (3, zo_k (.int 0) 1), (4, zo_is 6 2), (6, zo_il 6 2), (8, zo_il 4 2), (10, zo_cge 69), (13, zo_al 0 1),
  (14, zo_gc 10 48), (17, zo_k (.int 4) 1), (18, zo_il 6 2), (20, zo_imul), (21, zo_il 2 1), (22, zo_iadd), (23, zo_ia), (24, zo_is 7 2),
  (26, zo_al 0 1), (27, zo_gc 10 55), (30, zo_k (.int 24) 2), (32, zo_il 1 1), (33, zo_imul), (34, zo_il 6 2), (36, zo_iadd), (37, zo_ia),
  (38, zo_ifle 63), (41, zo_il 7 2), (43, zo_il 3 1), (44, zo_cle 63), (47, zo_il 5 2), (49, zo_iflt 59), (52, zo_il 7 2), (54, zo_il 5 2),
  (56, zo_cge 63), (59, zo_il 7 2), (61, zo_is 5 2), (63, zo_inc 6 1), (66, zo_goto 6), (69, zo_il 5 2), (71, zo_ir)]
abbrev m_M_nextValue : Nat := 91
def zi_M_valueUpTo : ze_I := (⟨"CaseTreeModel", "valueUpTo", "(III)I"⟩, prog_12_method_17_code, 7, (some .int), zb)
def t_M_valueUpTo : ze_T := [(0, zo_k (.int (-1)) 1), (1, zo_is 4 2), (3, zo_k (.int 0) 1), (4, zo_is 5 2), (6, zo_il 5 2), (8, zo_il 3 1), (9, zo_cge 53), (12, zo_al 0 1),
  (13, zo_gc 10 48), (16, zo_k (.int 4) 1), (17, zo_il 5 2), (19, zo_imul), (20, zo_il 1 1), (21, zo_iadd), (22, zo_ia), (23, zo_is 6 2),
  (25, zo_il 6 2), (27, zo_il 2 1), (28, zo_cgt 43), (31, zo_il 6 2), (33, zo_il 4 2), (35, zo_cle 43), (38, zo_il 6 2), (40, zo_goto 45),
  (43, zo_il 4 2), (45, zo_is 4 2), (47, zo_inc 5 1), (50, zo_goto 6), (53, zo_il 4 2), (55, zo_ir)]
abbrev m_M_valueUpTo : Nat := 92
def zi_M_measureCuts : ze_I := (⟨"CaseTreeModel", "measureCuts", "(IIII)Z"⟩, prog_12_method_18_code, 12, (some .boolean), zb)
def t_M_measureCuts : ze_T := [(0, zo_k (.int 0) 1), (1, zo_is 5 2), (3, zo_k (.long 0) 1), (4, zo_ls 6 2), (6, zo_al 0 1), (7, zo_il 1 1), (8, zo_il 2 1), (9, zo_k (.int (-1)) 1),
  (10, zo_il 3 1), (11, zo_cv 91 10 5), (14, zo_is 8 2), (16, zo_k (.int 0) 1), (17, zo_is 9 2), (19, zo_il 9 2), (21, zo_k (.int 24) 2), (23, zo_cge 135),
  (26, zo_il 8 2), (28, zo_iflt 135), (31, zo_al 0 1), (32, zo_il 1 1), (33, zo_il 2 1), (34, zo_il 8 2), (36, zo_il 3 1), (37, zo_cv 91 10 5),
  (40, zo_is 10 2), (42, zo_il 10 2), (44, zo_iflt 125), (47, zo_al 0 1), (48, zo_il 2 1), (49, zo_il 8 2), (51, zo_il 10 2), (53, zo_iadd),
  (54, zo_k (.int 2) 1), (55, zo_idiv), (56, zo_il 3 1), (57, zo_cv 92 10 4), (60, zo_is 11 2), (62, zo_al 0 1), (63, zo_il 1 1), (64, zo_il 2 1),
  (65, zo_il 11 2), (67, zo_il 3 1), (68, zo_il 4 2), (70, zo_cv 90 10 6), (73, zo_al 0 1), (74, zo_gi 10 21), (77, zo_ifeq 107), (80, zo_il 5 2),
  (82, zo_ifeq 95), (85, zo_al 0 1), (86, zo_gl 10 19), (89, zo_ll 6 2), (91, zo_lcmp), (92, zo_ifle 107), (95, zo_al 0 1), (96, zo_gl 10 19),
  (99, zo_ls 6 2), (101, zo_al 0 1), (102, zo_il 11 2), (104, zo_pi 10 22), (107, zo_al 0 1), (108, zo_gi 10 21), (111, zo_ifeq 121), (114, zo_il 5 2),
  (116, zo_k (.int 1) 1), (117, zo_iadd), (118, zo_goto 123), (121, zo_il 5 2), (123, zo_is 5 2), (125, zo_il 10 2), (127, zo_is 8 2), (129, zo_inc 9 1),
  (132, zo_goto 19), (135, zo_il 5 2), (137, zo_ifne 142), (140, zo_k (.int 0) 1), (141, zo_zr), (142, zo_al 0 1), (143, zo_il 1 1), (144, zo_il 2 1),
  (145, zo_al 0 1), (146, zo_gi 10 22), (149, zo_il 3 1), (150, zo_il 4 2), (152, zo_cv 90 10 6), (155, zo_al 0 1), (156, zo_ll 6 2), (158, zo_k (.long 720) 3),
  (161, zo_il 5 2), (163, zo_cs 77 1), (166, zo_i2l), (167, zo_lmul), (168, zo_lsub), (169, zo_pl 10 19), (172, zo_k (.int 1) 1), (173, zo_zr)]
abbrev m_M_measureCuts : Nat := 93
def zi_M_measureTest : ze_I := (⟨"CaseTreeModel", "measureTest", "(IIII)Z"⟩, prog_12_method_19_code, 5, (some .boolean), zb)
def t_M_measureTest : ze_T := [(0, zo_al 0 1), (1, zo_k (.int (-1)) 1), (2, zo_pi 10 22), (5, zo_al 0 1), (6, zo_gc 10 46), (9, zo_il 2 1), (10, zo_ia), (11, zo_ifne 24),
  (14, zo_al 0 1), (15, zo_il 1 1), (16, zo_il 2 1), (17, zo_il 3 1), (18, zo_il 4 2), (20, zo_cv 93 10 5), (23, zo_zr), (24, zo_al 0 1),
  (25, zo_il 1 1), (26, zo_il 2 1), (27, zo_k (.int 0) 1), (28, zo_il 3 1), (29, zo_il 4 2), (31, zo_cv 90 10 6), (34, zo_al 0 1), (35, zo_gi 10 21),
  (38, zo_zr)]
abbrev m_M_measureTest : Nat := 94
def zi_M_usedAbove : ze_I := (⟨"CaseTreeModel", "usedAbove", "(II)Z"⟩, prog_12_method_20_code, 5, (some .boolean), zb)
def t_M_usedAbove : ze_T := [(0, zo_il 1 1), (1, zo_is 3 1), (2, zo_k (.int 0) 1), (3, zo_is 4 2), (5, zo_il 4 2), (7, zo_k (.int 4) 1), (8, zo_cge 49), (11, zo_il 3 1),
  (12, zo_ifle 49), (15, zo_al 0 1), (16, zo_gc 10 52), (19, zo_il 3 1), (20, zo_ia), (21, zo_is 3 1), (22, zo_al 0 1), (23, zo_gc 10 49),
  (26, zo_il 3 1), (27, zo_ia), (28, zo_il 2 1), (29, zo_cne 43), (32, zo_al 0 1), (33, zo_gc 10 46), (36, zo_il 2 1), (37, zo_ia),
  (38, zo_ifeq 43), (41, zo_k (.int 1) 1), (42, zo_zr), (43, zo_inc 4 1), (46, zo_goto 5), (49, zo_k (.int 0) 1), (50, zo_zr)]
abbrev m_M_usedAbove : Nat := 95
def zi_M_useful : ze_I := (⟨"CaseTreeModel", "useful", "(III)Z"⟩, prog_12_method_21_code, 4, (some .boolean), zb)
def t_M_useful : ze_T := [(0, zo_al 0 1), (1, zo_il 1 1), (2, zo_il 2 1), (3, zo_cv 95 10 3), (6, zo_ifne 36), (9, zo_al 0 1), (10, zo_il 1 1), (11, zo_il 2 1),
  (12, zo_al 0 1), (13, zo_gi 10 6), (16, zo_il 3 1), (17, zo_cv 94 10 5), (20, zo_ifeq 36), (23, zo_al 0 1), (24, zo_gl 10 19), (27, zo_k (.long 0) 1),
  (28, zo_lcmp), (29, zo_ifle 36), (32, zo_k (.int 1) 1), (33, zo_goto 37), (36, zo_k (.int 0) 1), (37, zo_zr)]
abbrev m_M_useful : Nat := 96
def zi_M_choose : ze_I := (⟨"CaseTreeModel", "choose", "(II)I"⟩, prog_12_method_22_code, 12, (some .int), zb)
def t_M_choose : ze_T := [(0, zo_k (.long 0) 1), (1, zo_ls 3 1), (2, zo_k (.int 0) 1), (3, zo_is 5 2), (5, zo_k (.int 0) 1), (6, zo_is 6 2), (8, zo_il 6 2), (10, zo_al 0 1),
  (11, zo_gi 10 0), (14, zo_cge 44), (17, zo_al 0 1), (18, zo_il 1 1), (19, zo_il 6 2), (21, zo_il 2 1), (22, zo_cv 96 10 4), (25, zo_ifeq 38),
  (28, zo_ll 3 1), (29, zo_al 0 1), (30, zo_gl 10 19), (33, zo_ladd), (34, zo_ls 3 1), (35, zo_inc 5 1), (38, zo_inc 6 1), (41, zo_goto 8),
  (44, zo_k (.int (-1)) 1), (45, zo_is 6 2), (47, zo_k (.long 0) 1), (48, zo_ls 7 2), (50, zo_k (.long 1) 1), (51, zo_ls 9 2), (53, zo_k (.int 0) 1), (54, zo_is 11 2),
  (56, zo_il 11 2), (58, zo_al 0 1), (59, zo_gi 10 0), (62, zo_cge 144), (65, zo_al 0 1), (66, zo_il 1 1), (67, zo_il 11 2), (69, zo_il 2 1),
  (70, zo_cv 96 10 4), (73, zo_ifeq 138), (76, zo_al 0 1), (77, zo_gl 10 19), (80, zo_il 5 2), (82, zo_i2l), (83, zo_lmul), (84, zo_ll 3 1),
  (85, zo_lcmp), (86, zo_iflt 138), (89, zo_il 6 2), (91, zo_iflt 112), (94, zo_al 0 1), (95, zo_gl 10 19), (98, zo_ll 9 2), (100, zo_lmul),
  (101, zo_ll 7 2), (103, zo_al 0 1), (104, zo_gl 10 20), (107, zo_lmul), (108, zo_lcmp), (109, zo_ifle 138), (112, zo_il 11 2), (114, zo_is 6 2),
  (116, zo_al 0 1), (117, zo_gl 10 19), (120, zo_ls 7 2), (122, zo_al 0 1), (123, zo_gl 10 20), (126, zo_ls 9 2), (128, zo_al 0 1), (129, zo_gc 10 50),
  (132, zo_il 1 1), (133, zo_al 0 1), (134, zo_gi 10 22), (137, zo_ias), (138, zo_inc 11 1), (141, zo_goto 56), (144, zo_il 6 2), (146, zo_ir)]
abbrev m_M_choose : Nat := 97
def zi_M_sendDown : ze_I := (⟨"CaseTreeModel", "sendDown", "(II)V"⟩, prog_12_method_23_code, 11, none, zb)
def t_M_sendDown : ze_T := [(0, zo_al 0 1), (1, zo_gc 10 49), (4, zo_il 1 1), (5, zo_ia), (6, zo_is 3 1), (7, zo_k (.int 0) 1), (8, zo_is 4 2), (10, zo_al 0 1),
  (11, zo_il 1 1), (12, zo_il 2 1), (13, zo_iadd), (14, zo_il 3 1), (15, zo_al 0 1), (16, zo_gc 10 50), (19, zo_il 1 1), (20, zo_ia),
  (21, zo_al 0 1), (22, zo_gi 10 6), (25, zo_k (.int 1) 1), (26, zo_cv 90 10 6), (29, zo_k (.int 1) 1), (30, zo_is 5 2), (32, zo_il 5 2), (34, zo_al 0 1),
  (35, zo_il 3 1), (36, zo_cv 88 10 2), (39, zo_cge 74), (42, zo_al 0 1), (43, zo_gc 10 56), (46, zo_il 5 2), (48, zo_ia), (49, zo_al 0 1),
  (50, zo_gc 10 56), (53, zo_il 4 2), (55, zo_ia), (56, zo_cle 64), (59, zo_il 5 2), (61, zo_goto 66), (64, zo_il 4 2), (66, zo_is 4 2),
  (68, zo_inc 5 1), (71, zo_goto 32), (74, zo_k (.int 0) 1), (75, zo_is 5 2), (77, zo_il 5 2), (79, zo_al 0 1), (80, zo_gi 10 6), (83, zo_cge 291),
  (86, zo_al 0 1), (87, zo_gc 10 55), (90, zo_k (.int 24) 2), (92, zo_il 1 1), (93, zo_il 2 1), (94, zo_iadd), (95, zo_imul), (96, zo_il 5 2),
  (98, zo_iadd), (99, zo_ia), (100, zo_is 6 2), (102, zo_al 0 1), (103, zo_gc 10 48), (106, zo_k (.int 4) 1), (107, zo_il 5 2), (109, zo_imul),
  (110, zo_il 3 1), (111, zo_iadd), (112, zo_ia), (113, zo_is 7 2), (115, zo_il 6 2), (117, zo_is 8 2), (119, zo_k (.int 0) 1), (120, zo_is 9 2),
  (122, zo_il 9 2), (124, zo_al 0 1), (125, zo_il 3 1), (126, zo_cv 88 10 2), (129, zo_cge 236), (132, zo_k (.int 24) 2), (134, zo_al 0 1), (135, zo_gc 10 51),
  (138, zo_k (.int 4) 1), (139, zo_il 1 1), (140, zo_imul), (141, zo_il 9 2), (143, zo_iadd), (144, zo_ia), (145, zo_il 2 1), (146, zo_iadd),
  (147, zo_imul), (148, zo_il 5 2), (150, zo_iadd), (151, zo_is 10 2), (153, zo_al 0 1), (154, zo_gc 10 55), (157, zo_il 10 2), (159, zo_il 7 2),
  (161, zo_iflt 191), (164, zo_al 0 1), (165, zo_il 3 1), (166, zo_al 0 1), (167, zo_gc 10 50), (170, zo_il 1 1), (171, zo_ia), (172, zo_il 7 2),
  (174, zo_cv 89 10 4), (177, zo_il 9 2), (179, zo_cne 187), (182, zo_il 6 2), (184, zo_goto 217), (187, zo_k (.int 0) 1), (188, zo_goto 217), (191, zo_al 0 1),
  (192, zo_gi 10 17), (195, zo_ifle 216), (198, zo_il 6 2), (200, zo_al 0 1), (201, zo_gc 10 56), (204, zo_il 9 2), (206, zo_ia), (207, zo_imul),
  (208, zo_al 0 1), (209, zo_gi 10 17), (212, zo_idiv), (213, zo_goto 217), (216, zo_k (.int 0) 1), (217, zo_ias), (218, zo_il 8 2), (220, zo_al 0 1),
  (221, zo_gc 10 55), (224, zo_il 10 2), (226, zo_ia), (227, zo_isub), (228, zo_is 8 2), (230, zo_inc 9 1), (233, zo_goto 122), (236, zo_al 0 1),
  (237, zo_gc 10 55), (240, zo_k (.int 24) 2), (242, zo_al 0 1), (243, zo_gc 10 51), (246, zo_k (.int 4) 1), (247, zo_il 1 1), (248, zo_imul), (249, zo_al 0 1),
  (250, zo_gi 10 17), (253, zo_ifle 261), (256, zo_il 4 2), (258, zo_goto 262), (261, zo_k (.int 0) 1), (262, zo_iadd), (263, zo_ia), (264, zo_il 2 1),
  (265, zo_iadd), (266, zo_imul), (267, zo_il 5 2), (269, zo_iadd), (270, zo_dup2), (271, zo_ia), (272, zo_il 7 2), (274, zo_ifge 282),
  (277, zo_il 8 2), (279, zo_goto 283), (282, zo_k (.int 0) 1), (283, zo_iadd), (284, zo_ias), (285, zo_inc 5 1), (288, zo_goto 77), (291, zo_vr)]
abbrev m_M_sendDown : Nat := 98
def zi_M_settle : ze_I := (⟨"CaseTreeModel", "settle", "(II)V"⟩, prog_12_method_24_code, 6, none, zb)
def t_M_settle : ze_T := [(0, zo_al 0 1), (1, zo_il 1 1), (2, zo_al 0 1), (3, zo_gi 10 6), (6, zo_cv 86 10 3), (9, zo_is 3 1), (10, zo_al 0 1), (11, zo_gc 10 54),
  (14, zo_il 1 1), (15, zo_il 3 1), (16, zo_ifgt 23), (19, zo_il 1 1), (20, zo_ifne 35), (23, zo_al 0 1), (24, zo_il 1 1), (25, zo_al 0 1),
  (26, zo_gi 10 6), (29, zo_cv 87 10 3), (32, zo_goto 46), (35, zo_al 0 1), (36, zo_gc 10 54), (39, zo_al 0 1), (40, zo_gc 10 52), (43, zo_il 1 1),
  (44, zo_ia), (45, zo_ia), (46, zo_ias), (47, zo_al 0 1), (48, zo_gc 10 49), (51, zo_il 1 1), (52, zo_k (.int (-1)) 1), (53, zo_ias),
  (54, zo_al 0 1), (55, zo_gc 10 53), (58, zo_il 1 1), (59, zo_ia), (60, zo_k (.int 3) 1), (61, zo_ceq 92), (64, zo_il 3 1), (65, zo_k (.int 1440) 3),
  (68, zo_il 2 1), (69, zo_imul), (70, zo_clt 92), (73, zo_al 0 1), (74, zo_il 1 1), (75, zo_al 0 1), (76, zo_gc 10 54), (79, zo_il 1 1),
  (80, zo_ia), (81, zo_al 0 1), (82, zo_gi 10 6), (85, zo_cv 85 10 4), (88, zo_il 3 1), (89, zo_cne 93), (92, zo_vr), (93, zo_al 0 1),
  (94, zo_il 1 1), (95, zo_il 2 1), (96, zo_cv 97 10 3), (99, zo_is 4 2), (101, zo_al 0 1), (102, zo_gc 10 49), (105, zo_il 1 1), (106, zo_il 4 2),
  (108, zo_ias), (109, zo_il 4 2), (111, zo_ifge 115), (114, zo_vr), (115, zo_k (.int 0) 1), (116, zo_is 5 2), (118, zo_il 5 2), (120, zo_al 0 1),
  (121, zo_il 4 2), (123, zo_cv 88 10 2), (126, zo_cge 197), (129, zo_al 0 1), (130, zo_gc 10 51), (133, zo_k (.int 4) 1), (134, zo_il 1 1), (135, zo_imul),
  (136, zo_il 5 2), (138, zo_iadd), (139, zo_al 0 1), (140, zo_gi 10 7), (143, zo_ias), (144, zo_al 0 1), (145, zo_gc 10 52), (148, zo_al 0 1),
  (149, zo_gi 10 7), (152, zo_il 1 1), (153, zo_ias), (154, zo_al 0 1), (155, zo_gc 10 53), (158, zo_al 0 1), (159, zo_gi 10 7), (162, zo_al 0 1),
  (163, zo_gc 10 53), (166, zo_il 1 1), (167, zo_ia), (168, zo_k (.int 1) 1), (169, zo_iadd), (170, zo_ias), (171, zo_al 0 1), (172, zo_gc 10 49),
  (175, zo_al 0 1), (176, zo_gi 10 7), (179, zo_k (.int (-1)) 1), (180, zo_ias), (181, zo_al 0 1), (182, zo_dup), (183, zo_gi 10 7), (186, zo_k (.int 1) 1),
  (187, zo_iadd), (188, zo_pi 10 7), (191, zo_inc 5 1), (194, zo_goto 118), (197, zo_al 0 1), (198, zo_il 1 1), (199, zo_k (.int 0) 1), (200, zo_cv 98 10 3),
  (203, zo_vr)]
abbrev m_M_settle : Nat := 99
def zi_M_grow : ze_I := (⟨"CaseTreeModel", "grow", "(I)I"⟩, prog_12_method_25_code, 3, (some .int), zb)
def t_M_grow : ze_T := [(0, zo_il 1 1), (1, zo_k (.int 1) 1), (2, zo_clt 10), (5, zo_il 1 1), (6, zo_k (.int 5) 1), (7, zo_cle 12), (10, zo_k (.int (-1)) 1), (11, zo_ir),
  (12, zo_al 0 1), (13, zo_gi 10 2), (16, zo_ifne 22), (19, zo_k (.int (-3)) 2), (21, zo_ir), (22, zo_al 0 1), (23, zo_k (.int 1) 1), (24, zo_pz 10 5),
  (27, zo_al 0 1), (28, zo_al 0 1), (29, zo_gi 10 2), (32, zo_pi 10 6), (35, zo_al 0 1), (36, zo_k (.int 1) 1), (37, zo_pi 10 7), (40, zo_al 0 1),
  (41, zo_gc 10 52), (44, zo_k (.int 0) 1), (45, zo_k (.int 0) 1), (46, zo_ias), (47, zo_al 0 1), (48, zo_gc 10 53), (51, zo_k (.int 0) 1), (52, zo_k (.int 0) 1),
  (53, zo_ias), (54, zo_k (.int 0) 1), (55, zo_is 2 1), (56, zo_il 2 1), (57, zo_k (.int 24) 2), (59, zo_cge 77), (62, zo_al 0 1), (63, zo_gc 10 55),
  (66, zo_il 2 1), (67, zo_k (.int 720) 3), (70, zo_ias), (71, zo_inc 2 1), (74, zo_goto 56), (77, zo_k (.int 0) 1), (78, zo_is 2 1), (79, zo_il 2 1),
  (80, zo_al 0 1), (81, zo_gi 10 7), (84, zo_cge 99), (87, zo_al 0 1), (88, zo_il 2 1), (89, zo_il 1 1), (90, zo_cv 99 10 3), (93, zo_inc 2 1),
  (96, zo_goto 79), (99, zo_al 0 1), (100, zo_cv 120 10 1), (103, zo_ir)]
abbrev m_M_grow : Nat := 100
def zi_M_list : ze_I := (⟨"CaseTreeModel", "list", "(I)V"⟩, prog_12_method_26_code, 5, none, zb)
def t_M_list : ze_T := [(0, zo_k (.int 1) 1), (1, zo_is 2 1), (2, zo_al 0 1), (3, zo_k (.int 0) 1), (4, zo_pi 10 23), (7, zo_al 0 1), (8, zo_gc 10 59), (11, zo_k (.int 0) 1),
  (12, zo_il 1 1), (13, zo_ias), (14, zo_il 2 1), (15, zo_ifle 109), (18, zo_inc 2 (-1)), (21, zo_al 0 1), (22, zo_gc 10 59), (25, zo_il 2 1),
  (26, zo_ia), (27, zo_is 3 1), (28, zo_al 0 1), (29, zo_gc 10 58), (32, zo_al 0 1), (33, zo_gi 10 23), (36, zo_il 3 1), (37, zo_ias),
  (38, zo_al 0 1), (39, zo_dup), (40, zo_gi 10 23), (43, zo_k (.int 1) 1), (44, zo_iadd), (45, zo_pi 10 23), (48, zo_al 0 1), (49, zo_gc 10 49),
  (52, zo_il 3 1), (53, zo_ia), (54, zo_ifge 61), (57, zo_k (.int (-1)) 1), (58, zo_goto 73), (61, zo_al 0 1), (62, zo_al 0 1), (63, zo_gc 10 49),
  (66, zo_il 3 1), (67, zo_ia), (68, zo_cv 88 10 2), (71, zo_k (.int 1) 1), (72, zo_isub), (73, zo_is 4 2), (75, zo_il 4 2), (77, zo_iflt 106),
  (80, zo_al 0 1), (81, zo_gc 10 59), (84, zo_il 2 1), (85, zo_al 0 1), (86, zo_gc 10 51), (89, zo_k (.int 4) 1), (90, zo_il 3 1), (91, zo_imul),
  (92, zo_il 4 2), (94, zo_iadd), (95, zo_ia), (96, zo_ias), (97, zo_inc 2 1), (100, zo_inc 4 (-1)), (103, zo_goto 75), (106, zo_goto 14),
  (109, zo_vr)]
abbrev m_M_list : Nat := 101
def zi_M_leafErrors : ze_I := (⟨"CaseTreeModel", "leafErrors", "(II)I"⟩, prog_12_method_27_code, 4, (some .int), zb)
def t_M_leafErrors : ze_T := [(0, zo_al 0 1), (1, zo_il 1 1), (2, zo_al 0 1), (3, zo_gi 10 6), (6, zo_cv 86 10 3), (9, zo_is 3 1), (10, zo_il 3 1), (11, zo_ifne 18),
  (14, zo_k (.int 0) 1), (15, zo_goto 40), (18, zo_il 3 1), (19, zo_al 0 1), (20, zo_il 1 1), (21, zo_al 0 1), (22, zo_il 1 1), (23, zo_al 0 1),
  (24, zo_gi 10 6), (27, zo_cv 87 10 3), (30, zo_al 0 1), (31, zo_gi 10 6), (34, zo_cv 85 10 4), (37, zo_isub), (38, zo_il 2 1), (39, zo_iadd),
  (40, zo_ir)]
abbrev m_M_leafErrors : Nat := 102
def zi_M_errors : ze_I := (⟨"CaseTreeModel", "errors", "(III)I"⟩, prog_12_method_28_code, 6, (some .int), zb)
def t_M_errors : ze_T := [(0, zo_k (.int 0) 1), (1, zo_is 4 2), (3, zo_al 0 1), (4, zo_il 1 1), (5, zo_cv 101 10 2), (8, zo_k (.int 0) 1), (9, zo_is 5 2), (11, zo_il 5 2),
  (13, zo_al 0 1), (14, zo_gi 10 23), (17, zo_cge 65), (20, zo_al 0 1), (21, zo_gc 10 49), (24, zo_al 0 1), (25, zo_gc 10 58), (28, zo_il 5 2),
  (30, zo_ia), (31, zo_ia), (32, zo_ifge 55), (35, zo_il 4 2), (37, zo_al 0 1), (38, zo_al 0 1), (39, zo_gc 10 58), (42, zo_il 5 2),
  (44, zo_ia), (45, zo_il 2 1), (46, zo_iadd), (47, zo_il 3 1), (48, zo_cv 102 10 3), (51, zo_iadd), (52, zo_goto 57), (55, zo_il 4 2),
  (57, zo_is 4 2), (59, zo_inc 5 1), (62, zo_goto 11), (65, zo_il 4 2), (67, zo_ir)]
abbrev m_M_errors : Nat := 103
def zi_M_copyWeights : ze_I := (⟨"CaseTreeModel", "copyWeights", "(II)V"⟩, prog_12_method_29_code, 4, none, zb)
def t_M_copyWeights : ze_T := [(0, zo_k (.int 0) 1), (1, zo_is 3 1), (2, zo_il 3 1), (3, zo_k (.int 24) 2), (5, zo_cge 36), (8, zo_al 0 1), (9, zo_gc 10 55), (12, zo_k (.int 24) 2),
  (14, zo_il 2 1), (15, zo_imul), (16, zo_il 3 1), (17, zo_iadd), (18, zo_al 0 1), (19, zo_gc 10 55), (22, zo_k (.int 24) 2), (24, zo_il 1 1),
  (25, zo_imul), (26, zo_il 3 1), (27, zo_iadd), (28, zo_ia), (29, zo_ias), (30, zo_inc 3 1), (33, zo_goto 2), (36, zo_vr)]
abbrev m_M_copyWeights : Nat := 104
def zi_M_wouldBe : ze_I := (⟨"CaseTreeModel", "wouldBe", "(III)I"⟩, prog_12_method_30_code, 5, (some .int), zb)
def t_M_wouldBe : ze_T := [(0, zo_al 0 1), (1, zo_il 1 1), (2, zo_il 2 1), (3, zo_k (.int 96) 2), (5, zo_iadd), (6, zo_cv 104 10 3), (9, zo_al 0 1), (10, zo_il 2 1),
  (11, zo_cv 101 10 2), (14, zo_k (.int 0) 1), (15, zo_is 4 2), (17, zo_il 4 2), (19, zo_al 0 1), (20, zo_gi 10 23), (23, zo_cge 60), (26, zo_al 0 1),
  (27, zo_gc 10 49), (30, zo_al 0 1), (31, zo_gc 10 58), (34, zo_il 4 2), (36, zo_ia), (37, zo_ia), (38, zo_iflt 54), (41, zo_al 0 1),
  (42, zo_al 0 1), (43, zo_gc 10 58), (46, zo_il 4 2), (48, zo_ia), (49, zo_k (.int 96) 2), (51, zo_cv 98 10 3), (54, zo_inc 4 1), (57, zo_goto 17),
  (60, zo_al 0 1), (61, zo_il 2 1), (62, zo_k (.int 96) 2), (64, zo_il 3 1), (65, zo_cv 103 10 4), (68, zo_ir)]
abbrev m_M_wouldBe : Nat := 105
def zi_M_replace : ze_I := (⟨"CaseTreeModel", "replace", "(II)V"⟩, prog_12_method_31_code, 4, none, zb)
def t_M_replace : ze_T := [(0, zo_al 0 1), (1, zo_il 2 1), (2, zo_cv 101 10 2), (5, zo_k (.int 0) 1), (6, zo_is 3 1), (7, zo_il 3 1), (8, zo_al 0 1), (9, zo_gi 10 23),
  (12, zo_cge 82), (15, zo_al 0 1), (16, zo_al 0 1), (17, zo_gc 10 58), (20, zo_il 3 1), (21, zo_ia), (22, zo_k (.int 96) 2), (24, zo_iadd),
  (25, zo_al 0 1), (26, zo_gc 10 58), (29, zo_il 3 1), (30, zo_ia), (31, zo_cv 104 10 3), (34, zo_al 0 1), (35, zo_al 0 1), (36, zo_gc 10 58),
  (39, zo_il 3 1), (40, zo_ia), (41, zo_al 0 1), (42, zo_gi 10 6), (45, zo_cv 86 10 3), (48, zo_ifle 76), (51, zo_al 0 1), (52, zo_gc 10 54),
  (55, zo_al 0 1), (56, zo_gc 10 58), (59, zo_il 3 1), (60, zo_ia), (61, zo_al 0 1), (62, zo_al 0 1), (63, zo_gc 10 58), (66, zo_il 3 1),
  (67, zo_ia), (68, zo_al 0 1), (69, zo_gi 10 6), (72, zo_cv 87 10 3), (75, zo_ias), (76, zo_inc 3 1), (79, zo_goto 7), (82, zo_al 0 1),
  (83, zo_gc 10 49), (86, zo_il 1 1), (87, zo_al 0 1), (88, zo_gc 10 49), (91, zo_il 2 1), (92, zo_ia), (93, zo_ias), (94, zo_al 0 1),
  (95, zo_gc 10 50), (98, zo_il 1 1), (99, zo_al 0 1), (100, zo_gc 10 50), (103, zo_il 2 1), (104, zo_ia), (105, zo_ias), (106, zo_al 0 1),
  (107, zo_gc 10 54), (110, zo_il 1 1), (111, zo_al 0 1), (112, zo_gc 10 54), (115, zo_il 2 1), (116, zo_ia), (117, zo_ias), (118, zo_k (.int 0) 1),
  (119, zo_is 3 1), (120, zo_il 3 1), (121, zo_k (.int 4) 1), (122, zo_cge 151), (125, zo_al 0 1), (126, zo_gc 10 51), (129, zo_k (.int 4) 1), (130, zo_il 1 1),
  (131, zo_imul), (132, zo_il 3 1), (133, zo_iadd), (134, zo_al 0 1), (135, zo_gc 10 51), (138, zo_k (.int 4) 1), (139, zo_il 2 1), (140, zo_imul),
  (141, zo_il 3 1), (142, zo_iadd), (143, zo_ia), (144, zo_ias), (145, zo_inc 3 1), (148, zo_goto 120), (151, zo_vr)]
abbrev m_M_replace : Nat := 106
def zi_M_lookAt : ze_I := (⟨"CaseTreeModel", "lookAt", "(II)V"⟩, prog_12_method_32_code, 8, none, zb)
def t_M_lookAt : ze_T := [(0, zo_k (.int 0) 1), (1, zo_is 3 1), (2, zo_k (.int 1) 1), (3, zo_is 4 2), (5, zo_il 4 2), (7, zo_al 0 1), (8, zo_al 0 1), (9, zo_gc 10 49),
  (12, zo_il 1 1), (13, zo_ia), (14, zo_cv 88 10 2), (17, zo_cge 77), (20, zo_al 0 1), (21, zo_al 0 1), (22, zo_gc 10 51), (25, zo_k (.int 4) 1),
  (26, zo_il 1 1), (27, zo_imul), (28, zo_il 4 2), (30, zo_iadd), (31, zo_ia), (32, zo_al 0 1), (33, zo_gi 10 6), (36, zo_cv 86 10 3),
  (39, zo_is 5 2), (41, zo_il 5 2), (43, zo_al 0 1), (44, zo_al 0 1), (45, zo_gc 10 51), (48, zo_k (.int 4) 1), (49, zo_il 1 1), (50, zo_imul),
  (51, zo_il 3 1), (52, zo_iadd), (53, zo_ia), (54, zo_al 0 1), (55, zo_gi 10 6), (58, zo_cv 86 10 3), (61, zo_cle 69), (64, zo_il 4 2),
  (66, zo_goto 70), (69, zo_il 3 1), (70, zo_is 3 1), (71, zo_inc 4 1), (74, zo_goto 5), (77, zo_al 0 1), (78, zo_gc 10 51), (81, zo_k (.int 4) 1),
  (82, zo_il 1 1), (83, zo_imul), (84, zo_il 3 1), (85, zo_iadd), (86, zo_ia), (87, zo_is 4 2), (89, zo_al 0 1), (90, zo_il 1 1),
  (91, zo_k (.int 0) 1), (92, zo_il 2 1), (93, zo_cv 103 10 4), (96, zo_is 5 2), (98, zo_al 0 1), (99, zo_il 1 1), (100, zo_il 2 1), (101, zo_cv 102 10 3),
  (104, zo_is 6 2), (106, zo_al 0 1), (107, zo_il 1 1), (108, zo_il 4 2), (110, zo_il 2 1), (111, zo_cv 105 10 4), (114, zo_is 7 2), (116, zo_il 6 2),
  (118, zo_il 7 2), (120, zo_cgt 140), (123, zo_il 6 2), (125, zo_il 5 2), (127, zo_cgt 140), (130, zo_al 0 1), (131, zo_gc 10 49), (134, zo_il 1 1),
  (135, zo_k (.int (-1)) 1), (136, zo_ias), (137, zo_goto 154), (140, zo_il 7 2), (142, zo_il 5 2), (144, zo_cgt 154), (147, zo_al 0 1), (148, zo_il 1 1),
  (149, zo_il 4 2), (151, zo_cv 106 10 3), (154, zo_vr)]
abbrev m_M_lookAt : Nat := 107
def zi_M_prune : ze_I := (⟨"CaseTreeModel", "prune", "(I)I"⟩, prog_12_method_33_code, 3, (some .int), zb)
def t_M_prune : ze_T := [(0, zo_il 1 1), (1, zo_iflt 11), (4, zo_il 1 1), (5, zo_k (.int 2000) 3), (8, zo_cle 13), (11, zo_k (.int (-1)) 1), (12, zo_ir), (13, zo_al 0 1),
  (14, zo_gi 10 5), (17, zo_ifne 23), (20, zo_k (.int (-3)) 2), (22, zo_ir), (23, zo_al 0 1), (24, zo_gi 10 7), (27, zo_k (.int 1) 1), (28, zo_isub),
  (29, zo_is 2 1), (30, zo_il 2 1), (31, zo_iflt 63), (34, zo_al 0 1), (35, zo_gc 10 49), (38, zo_il 2 1), (39, zo_ia), (40, zo_iflt 57),
  (43, zo_al 0 1), (44, zo_il 2 1), (45, zo_cv 109 10 2), (48, zo_ifeq 57), (51, zo_al 0 1), (52, zo_il 2 1), (53, zo_il 1 1), (54, zo_cv 107 10 3),
  (57, zo_inc 2 (-1)), (60, zo_goto 30), (63, zo_al 0 1), (64, zo_cv 120 10 1), (67, zo_ir)]
abbrev m_M_prune : Nat := 108
def zi_M_inTree : ze_I := (⟨"CaseTreeModel", "inTree", "(I)Z"⟩, prog_12_method_34_code, 3, (some .boolean), zb)
def t_M_inTree : ze_T := [(0, zo_al 0 1), (1, zo_k (.int 0) 1), (2, zo_cv 101 10 2), (5, zo_k (.int 0) 1), (6, zo_is 2 1), (7, zo_il 2 1), (8, zo_al 0 1), (9, zo_gi 10 23),
  (12, zo_cge 33), (15, zo_al 0 1), (16, zo_gc 10 58), (19, zo_il 2 1), (20, zo_ia), (21, zo_il 1 1), (22, zo_cne 27), (25, zo_k (.int 1) 1),
  (26, zo_zr), (27, zo_inc 2 1), (30, zo_goto 7), (33, zo_k (.int 0) 1), (34, zo_zr)]
abbrev m_M_inTree : Nat := 109
def zi_M_arrive : ze_I := (⟨"CaseTreeModel", "arrive", "(I)V"⟩, prog_12_method_35_code, 10, none, zb)
def t_M_arrive : ze_T := [(0, zo_al 0 1), (1, zo_gc 10 49), (4, zo_il 1 1), (5, zo_ia), (6, zo_is 2 1), (7, zo_al 0 1), (8, zo_gc 10 60), (11, zo_il 1 1),
  (12, zo_ia), (13, zo_is 3 1), (14, zo_al 0 1), (15, zo_il 1 1), (16, zo_al 0 1), (17, zo_gi 10 6), (20, zo_cv 86 10 3), (23, zo_is 4 2),
  (25, zo_il 2 1), (26, zo_ifge 110), (29, zo_il 3 1), (30, zo_is 5 2), (32, zo_k (.int 0) 1), (33, zo_is 6 2), (35, zo_il 6 2), (37, zo_k (.int 3) 1),
  (38, zo_cge 93), (41, zo_il 4 2), (43, zo_ifne 50), (46, zo_k (.int 0) 1), (47, zo_goto 66), (50, zo_il 3 1), (51, zo_al 0 1), (52, zo_il 1 1),
  (53, zo_il 6 2), (55, zo_al 0 1), (56, zo_gi 10 6), (59, zo_cv 85 10 4), (62, zo_imul), (63, zo_il 4 2), (65, zo_idiv), (66, zo_is 7 2),
  (68, zo_al 0 1), (69, zo_gc 10 62), (72, zo_il 6 2), (74, zo_dup2), (75, zo_ia), (76, zo_il 7 2), (78, zo_iadd), (79, zo_ias),
  (80, zo_il 5 2), (82, zo_il 7 2), (84, zo_isub), (85, zo_is 5 2), (87, zo_inc 6 1), (90, zo_goto 35), (93, zo_al 0 1), (94, zo_gc 10 62),
  (97, zo_al 0 1), (98, zo_gc 10 54), (101, zo_il 1 1), (102, zo_ia), (103, zo_dup2), (104, zo_ia), (105, zo_il 5 2), (107, zo_iadd),
  (108, zo_ias), (109, zo_vr), (110, zo_al 0 1), (111, zo_gc 10 61), (114, zo_il 2 1), (115, zo_ia), (116, zo_is 5 2), (118, zo_k (.int 0) 1),
  (119, zo_is 6 2), (121, zo_il 3 1), (122, zo_is 7 2), (124, zo_al 0 1), (125, zo_il 1 1), (126, zo_il 2 1), (127, zo_al 0 1), (128, zo_gc 10 50),
  (131, zo_il 1 1), (132, zo_ia), (133, zo_al 0 1), (134, zo_gi 10 6), (137, zo_k (.int 1) 1), (138, zo_cv 90 10 6), (141, zo_k (.int 0) 1), (142, zo_is 8 2),
  (144, zo_il 8 2), (146, zo_al 0 1), (147, zo_il 2 1), (148, zo_cv 88 10 2), (151, zo_cge 269), (154, zo_al 0 1), (155, zo_gc 10 56), (158, zo_il 8 2),
  (160, zo_ia), (161, zo_al 0 1), (162, zo_gc 10 56), (165, zo_il 6 2), (167, zo_ia), (168, zo_cle 176), (171, zo_il 8 2), (173, zo_goto 178),
  (176, zo_il 6 2), (178, zo_is 6 2), (180, zo_il 5 2), (182, zo_iflt 211), (185, zo_al 0 1), (186, zo_il 2 1), (187, zo_al 0 1), (188, zo_gc 10 50),
  (191, zo_il 1 1), (192, zo_ia), (193, zo_il 5 2), (195, zo_cv 89 10 4), (198, zo_il 8 2), (200, zo_cne 207), (203, zo_il 3 1), (204, zo_goto 236),
  (207, zo_k (.int 0) 1), (208, zo_goto 236), (211, zo_al 0 1), (212, zo_gi 10 17), (215, zo_ifle 235), (218, zo_il 3 1), (219, zo_al 0 1), (220, zo_gc 10 56),
  (223, zo_il 8 2), (225, zo_ia), (226, zo_imul), (227, zo_al 0 1), (228, zo_gi 10 17), (231, zo_idiv), (232, zo_goto 236), (235, zo_k (.int 0) 1),
  (236, zo_is 9 2), (238, zo_al 0 1), (239, zo_gc 10 60), (242, zo_al 0 1), (243, zo_gc 10 51), (246, zo_k (.int 4) 1), (247, zo_il 1 1), (248, zo_imul),
  (249, zo_il 8 2), (251, zo_iadd), (252, zo_ia), (253, zo_il 9 2), (255, zo_ias), (256, zo_il 7 2), (258, zo_il 9 2), (260, zo_isub),
  (261, zo_is 7 2), (263, zo_inc 8 1), (266, zo_goto 144), (269, zo_al 0 1), (270, zo_gc 10 60), (273, zo_al 0 1), (274, zo_gc 10 51), (277, zo_k (.int 4) 1),
  (278, zo_il 1 1), (279, zo_imul), (280, zo_al 0 1), (281, zo_gi 10 17), (284, zo_ifle 292), (287, zo_il 6 2), (289, zo_goto 293), (292, zo_k (.int 0) 1),
  (293, zo_iadd), (294, zo_ia), (295, zo_dup2), (296, zo_ia), (297, zo_il 5 2), (299, zo_ifge 307), (302, zo_il 7 2), (304, zo_goto 308),
  (307, zo_k (.int 0) 1), (308, zo_iadd), (309, zo_ias), (310, zo_vr)]
abbrev m_M_arrive : Nat := 110
def zi_M_classifyAsked : ze_I := (⟨"CaseTreeModel", "classifyAsked", "()I"⟩, prog_12_method_36_code, 3, (some .int), zb)
def t_M_classifyAsked : ze_T := [(0, zo_k (.int 0) 1), (1, zo_is 1 1), (2, zo_il 1 1), (3, zo_k (.int 3) 1), (4, zo_cge 20), (7, zo_al 0 1), (8, zo_gc 10 62), (11, zo_il 1 1),
  (12, zo_k (.int 0) 1), (13, zo_ias), (14, zo_inc 1 1), (17, zo_goto 2), (20, zo_al 0 1), (21, zo_k (.int 0) 1), (22, zo_cv 101 10 2), (25, zo_al 0 1),
  (26, zo_gc 10 60), (29, zo_k (.int 0) 1), (30, zo_k (.int 720) 3), (33, zo_ias), (34, zo_k (.int 0) 1), (35, zo_is 1 1), (36, zo_il 1 1), (37, zo_al 0 1),
  (38, zo_gi 10 23), (41, zo_cge 60), (44, zo_al 0 1), (45, zo_al 0 1), (46, zo_gc 10 58), (49, zo_il 1 1), (50, zo_ia), (51, zo_cv 110 10 2),
  (54, zo_inc 1 1), (57, zo_goto 36), (60, zo_k (.int 0) 1), (61, zo_is 1 1), (62, zo_k (.int 1) 1), (63, zo_is 2 1), (64, zo_il 2 1), (65, zo_k (.int 3) 1),
  (66, zo_cge 96), (69, zo_al 0 1), (70, zo_gc 10 62), (73, zo_il 2 1), (74, zo_ia), (75, zo_al 0 1), (76, zo_gc 10 62), (79, zo_il 1 1),
  (80, zo_ia), (81, zo_cle 88), (84, zo_il 2 1), (85, zo_goto 89), (88, zo_il 1 1), (89, zo_is 1 1), (90, zo_inc 2 1), (93, zo_goto 64),
  (96, zo_il 1 1), (97, zo_ir)]
abbrev m_M_classifyAsked : Nat := 111
def zi_M_classify : ze_I := (⟨"CaseTreeModel", "classify", "(IIII)I"⟩, prog_12_method_37_code, 7, (some .int), zb)
def t_M_classify : ze_T := [(0, zo_al 0 1), (1, zo_il 1 1), (2, zo_il 2 1), (3, zo_il 3 1), (4, zo_il 4 2), (6, zo_cv 83 10 5), (9, zo_ifne 14), (12, zo_k (.int (-1)) 1),
  (13, zo_ir), (14, zo_al 0 1), (15, zo_gi 10 5), (18, zo_ifne 24), (21, zo_k (.int (-3)) 2), (23, zo_ir), (24, zo_al 0 1), (25, zo_gc 10 61),
  (28, zo_k (.int 0) 1), (29, zo_il 1 1), (30, zo_ias), (31, zo_al 0 1), (32, zo_gc 10 61), (35, zo_k (.int 1) 1), (36, zo_il 2 1), (37, zo_ias),
  (38, zo_al 0 1), (39, zo_gc 10 61), (42, zo_k (.int 2) 1), (43, zo_il 3 1), (44, zo_ias), (45, zo_al 0 1), (46, zo_gc 10 61), (49, zo_k (.int 3) 1),
  (50, zo_il 4 2), (52, zo_ias), (53, zo_al 0 1), (54, zo_cv 111 10 1), (57, zo_is 5 2), (59, zo_k (.int 0) 1), (60, zo_is 6 2), (62, zo_il 6 2),
  (64, zo_k (.int 3) 1), (65, zo_cge 88), (68, zo_al 0 1), (69, zo_gc 10 63), (72, zo_il 6 2), (74, zo_al 0 1), (75, zo_gc 10 62), (78, zo_il 6 2),
  (80, zo_ia), (81, zo_ias), (82, zo_inc 6 1), (85, zo_goto 62), (88, zo_il 5 2), (90, zo_ir)]
abbrev m_M_classify : Nat := 112
def zi_M_share : ze_I := (⟨"CaseTreeModel", "share", "(I)I"⟩, prog_12_method_38_code, 2, (some .int), zb)
def t_M_share : ze_T := [(0, zo_il 1 1), (1, zo_iflt 9), (4, zo_il 1 1), (5, zo_k (.int 2) 1), (6, zo_cle 13), (9, zo_k (.int 0) 1), (10, zo_goto 19), (13, zo_al 0 1),
  (14, zo_gc 10 63), (17, zo_il 1 1), (18, zo_ia), (19, zo_ir)]
abbrev m_M_share : Nat := 113
def zi_M_wrong : ze_I := (⟨"CaseTreeModel", "wrong", "()I"⟩, prog_12_method_39_code, 4, (some .int), zb)
def t_M_wrong : ze_T := [(0, zo_al 0 1), (1, zo_gi 10 5), (4, zo_ifne 10), (7, zo_k (.int (-3)) 2), (9, zo_ir), (10, zo_k (.int 0) 1), (11, zo_is 1 1), (12, zo_k (.int 0) 1),
  (13, zo_is 2 1), (14, zo_il 2 1), (15, zo_al 0 1), (16, zo_gi 10 2), (19, zo_cge 80), (22, zo_k (.int 0) 1), (23, zo_is 3 1), (24, zo_il 3 1),
  (25, zo_k (.int 4) 1), (26, zo_cge 51), (29, zo_al 0 1), (30, zo_gc 10 61), (33, zo_il 3 1), (34, zo_al 0 1), (35, zo_gc 10 48), (38, zo_k (.int 4) 1),
  (39, zo_il 2 1), (40, zo_imul), (41, zo_il 3 1), (42, zo_iadd), (43, zo_ia), (44, zo_ias), (45, zo_inc 3 1), (48, zo_goto 24),
  (51, zo_al 0 1), (52, zo_cv 111 10 1), (55, zo_is 3 1), (56, zo_il 3 1), (57, zo_al 0 1), (58, zo_gc 10 47), (61, zo_il 2 1), (62, zo_ia),
  (63, zo_ceq 72), (66, zo_il 1 1), (67, zo_k (.int 1) 1), (68, zo_iadd), (69, zo_goto 73), (72, zo_il 1 1), (73, zo_is 1 1), (74, zo_inc 2 1),
  (77, zo_goto 14), (80, zo_il 1 1), (81, zo_ir)]
abbrev m_M_wrong : Nat := 114
def zi_M_rootTest : ze_I := (⟨"CaseTreeModel", "rootTest", "(II)Z"⟩, prog_12_method_40_code, 4, (some .boolean), zb)
def t_M_rootTest : ze_T := [(0, zo_il 1 1), (1, zo_iflt 22), (4, zo_il 1 1), (5, zo_al 0 1), (6, zo_gi 10 0), (9, zo_cge 22), (12, zo_il 2 1), (13, zo_k (.int 1) 1),
  (14, zo_clt 22), (17, zo_il 2 1), (18, zo_k (.int 5) 1), (19, zo_cle 24), (22, zo_k (.int 0) 1), (23, zo_zr), (24, zo_k (.int 0) 1), (25, zo_is 3 1),
  (26, zo_il 3 1), (27, zo_k (.int 24) 2), (29, zo_cge 51), (32, zo_al 0 1), (33, zo_gc 10 55), (36, zo_k (.int 4608) 3), (39, zo_il 3 1), (40, zo_iadd),
  (41, zo_k (.int 720) 3), (44, zo_ias), (45, zo_inc 3 1), (48, zo_goto 26), (51, zo_al 0 1), (52, zo_k (.int 192) 3), (55, zo_il 1 1), (56, zo_al 0 1),
  (57, zo_gi 10 2), (60, zo_il 2 1), (61, zo_cv 94 10 5), (64, zo_zr)]
abbrev m_M_rootTest : Nat := 115
def zi_M_gain : ze_I := (⟨"CaseTreeModel", "gain", "(II)J"⟩, prog_12_method_41_code, 3, (some .long), zb)
def t_M_gain : ze_T := [(0, zo_al 0 1), (1, zo_il 1 1), (2, zo_il 2 1), (3, zo_cv 115 10 3), (6, zo_ifne 13), (9, zo_k (.long (-1)) 3), (12, zo_lr), (13, zo_al 0 1),
  (14, zo_gl 10 19), (17, zo_k (.long 0) 1), (18, zo_lcmp), (19, zo_ifge 28), (22, zo_k (.long (-2)) 3), (25, zo_goto 32), (28, zo_al 0 1), (29, zo_gl 10 19),
  (32, zo_lr)]
abbrev m_M_gain : Nat := 116
def zi_M_split : ze_I := (⟨"CaseTreeModel", "split", "(II)J"⟩, prog_12_method_42_code, 3, (some .long), zb)
def t_M_split : ze_T := [(0, zo_al 0 1), (1, zo_il 1 1), (2, zo_il 2 1), (3, zo_cv 115 10 3), (6, zo_ifeq 16), (9, zo_al 0 1), (10, zo_gl 10 20), (13, zo_goto 19),
  (16, zo_k (.long (-1)) 3), (19, zo_lr)]
abbrev m_M_split : Nat := 117
def zi_M_cut : ze_I := (⟨"CaseTreeModel", "cut", "(II)I"⟩, prog_12_method_43_code, 3, (some .int), zb)
def t_M_cut : ze_T := [(0, zo_al 0 1), (1, zo_il 1 1), (2, zo_il 2 1), (3, zo_cv 115 10 3), (6, zo_ifeq 16), (9, zo_al 0 1), (10, zo_gi 10 22), (13, zo_goto 17),
  (16, zo_k (.int (-1)) 1), (17, zo_ir)]
abbrev m_M_cut : Nat := 118
def zi_M_cases : ze_I := (⟨"CaseTreeModel", "cases", "()I"⟩, prog_12_method_44_code, 1, (some .int), zb)
def t_M_cases : ze_T := [(0, zo_al 0 1), (1, zo_gi 10 2), (4, zo_ir)]
abbrev m_M_cases : Nat := 119
def zi_M_nodes : ze_I := (⟨"CaseTreeModel", "nodes", "()I"⟩, prog_12_method_45_code, 1, (some .int), zb)
def t_M_nodes : ze_T := [(0, zo_al 0 1), (1, zo_gi 10 5), (4, zo_ifne 9), (7, zo_k (.int 0) 1), (8, zo_ir), (9, zo_al 0 1), (10, zo_k (.int 0) 1), (11, zo_cv 101 10 2),
  (14, zo_al 0 1), (15, zo_gi 10 23), (18, zo_ir)]
abbrev m_M_nodes : Nat := 120
def zi_M_at : ze_I := (⟨"CaseTreeModel", "at", "(I)I"⟩, prog_12_method_46_code, 2, (some .int), zb)
def t_M_at : ze_T := [(0, zo_il 1 1), (1, zo_iflt 12), (4, zo_il 1 1), (5, zo_al 0 1), (6, zo_cv 120 10 1), (9, zo_clt 16), (12, zo_k (.int (-1)) 1), (13, zo_goto 22),
  (16, zo_al 0 1), (17, zo_gc 10 58), (20, zo_il 1 1), (21, zo_ia), (22, zo_ir)]
abbrev m_M_at : Nat := 121
def zi_M_tested : ze_I := (⟨"CaseTreeModel", "tested", "(I)I"⟩, prog_12_method_47_code, 3, (some .int), zb)
def t_M_tested : ze_T := [(0, zo_al 0 1), (1, zo_il 1 1), (2, zo_cv 121 10 2), (5, zo_is 2 1), (6, zo_il 2 1), (7, zo_ifge 14), (10, zo_k (.int (-1)) 1), (11, zo_goto 20),
  (14, zo_al 0 1), (15, zo_gc 10 49), (18, zo_il 2 1), (19, zo_ia), (20, zo_ir)]
abbrev m_M_tested : Nat := 122
def zi_M_threshold : ze_I := (⟨"CaseTreeModel", "threshold", "(I)I"⟩, prog_12_method_48_code, 3, (some .int), zb)
def t_M_threshold : ze_T := [(0, zo_al 0 1), (1, zo_il 1 1), (2, zo_cv 121 10 2), (5, zo_is 2 1), (6, zo_il 2 1), (7, zo_iflt 33), (10, zo_al 0 1), (11, zo_gc 10 49),
  (14, zo_il 2 1), (15, zo_ia), (16, zo_iflt 33), (19, zo_al 0 1), (20, zo_gc 10 46), (23, zo_al 0 1), (24, zo_gc 10 49), (27, zo_il 2 1),
  (28, zo_ia), (29, zo_ia), (30, zo_ifeq 37), (33, zo_k (.int (-1)) 1), (34, zo_goto 43), (37, zo_al 0 1), (38, zo_gc 10 50), (41, zo_il 2 1),
  (42, zo_ia), (43, zo_ir)]
abbrev m_M_threshold : Nat := 123
def zi_M_child : ze_I := (⟨"CaseTreeModel", "child", "(II)I"⟩, prog_12_method_49_code, 6, (some .int), zb)
def t_M_child : ze_T := [(0, zo_al 0 1), (1, zo_il 1 1), (2, zo_cv 121 10 2), (5, zo_is 3 1), (6, zo_il 3 1), (7, zo_iflt 37), (10, zo_al 0 1), (11, zo_gc 10 49),
  (14, zo_il 3 1), (15, zo_ia), (16, zo_iflt 37), (19, zo_il 2 1), (20, zo_iflt 37), (23, zo_il 2 1), (24, zo_al 0 1), (25, zo_al 0 1),
  (26, zo_gc 10 49), (29, zo_il 3 1), (30, zo_ia), (31, zo_cv 88 10 2), (34, zo_clt 39), (37, zo_k (.int (-1)) 1), (38, zo_ir), (39, zo_al 0 1),
  (40, zo_gc 10 51), (43, zo_k (.int 4) 1), (44, zo_il 3 1), (45, zo_imul), (46, zo_il 2 1), (47, zo_iadd), (48, zo_ia), (49, zo_is 4 2),
  (51, zo_k (.int 0) 1), (52, zo_is 5 2), (54, zo_il 5 2), (56, zo_al 0 1), (57, zo_gi 10 23), (60, zo_cge 84), (63, zo_al 0 1), (64, zo_gc 10 58),
  (67, zo_il 5 2), (69, zo_ia), (70, zo_il 4 2), (72, zo_cne 78), (75, zo_il 5 2), (77, zo_ir), (78, zo_inc 5 1), (81, zo_goto 54),
  (84, zo_k (.int (-1)) 1), (85, zo_ir)]
abbrev m_M_child : Nat := 124
def zi_M_classOf : ze_I := (⟨"CaseTreeModel", "classOf", "(I)I"⟩, prog_12_method_50_code, 3, (some .int), zb)
def t_M_classOf : ze_T := [(0, zo_al 0 1), (1, zo_il 1 1), (2, zo_cv 121 10 2), (5, zo_is 2 1), (6, zo_il 2 1), (7, zo_ifge 14), (10, zo_k (.int (-1)) 1), (11, zo_goto 20),
  (14, zo_al 0 1), (15, zo_gc 10 54), (18, zo_il 2 1), (19, zo_ia), (20, zo_ir)]
abbrev m_M_classOf : Nat := 125
def zi_M_weight : ze_I := (⟨"CaseTreeModel", "weight", "(II)I"⟩, prog_12_method_51_code, 4, (some .int), zb)
def t_M_weight : ze_T := [(0, zo_al 0 1), (1, zo_il 1 1), (2, zo_cv 121 10 2), (5, zo_is 3 1), (6, zo_il 3 1), (7, zo_iflt 19), (10, zo_il 2 1), (11, zo_iflt 19),
  (14, zo_il 2 1), (15, zo_k (.int 2) 1), (16, zo_cle 23), (19, zo_k (.int (-1)) 1), (20, zo_goto 33), (23, zo_al 0 1), (24, zo_il 3 1), (25, zo_il 2 1),
  (26, zo_al 0 1), (27, zo_gi 10 6), (30, zo_cv 85 10 4), (33, zo_ir)]
abbrev m_M_weight : Nat := 126
def zi_M_part : ze_I := (⟨"CaseTreeModel", "part", "(II)I"⟩, prog_12_method_52_code, 4, (some .int), zb)
def t_M_part : ze_T := [(0, zo_al 0 1), (1, zo_il 1 1), (2, zo_cv 121 10 2), (5, zo_is 3 1), (6, zo_il 3 1), (7, zo_iflt 37), (10, zo_al 0 1), (11, zo_gc 10 49),
  (14, zo_il 3 1), (15, zo_ia), (16, zo_iflt 37), (19, zo_il 2 1), (20, zo_iflt 37), (23, zo_il 2 1), (24, zo_al 0 1), (25, zo_al 0 1),
  (26, zo_gc 10 49), (29, zo_il 3 1), (30, zo_ia), (31, zo_cv 88 10 2), (34, zo_clt 39), (37, zo_k (.int (-1)) 1), (38, zo_ir), (39, zo_al 0 1),
  (40, zo_il 3 1), (41, zo_al 0 1), (42, zo_gc 10 49), (45, zo_il 3 1), (46, zo_ia), (47, zo_al 0 1), (48, zo_gc 10 50), (51, zo_il 3 1),
  (52, zo_ia), (53, zo_al 0 1), (54, zo_gi 10 6), (57, zo_k (.int 1) 1), (58, zo_cv 90 10 6), (61, zo_al 0 1), (62, zo_gc 10 56), (65, zo_il 2 1),
  (66, zo_ia), (67, zo_ir)]
abbrev m_M_part : Nat := 127
def zIl : List ze_I := [zi_A_fill, zi_C_attribute, zi_C_add, zi_C_grow, zi_C_prune, zi_C_classify, zi_C_share, zi_C_wrong, zi_C_gain, zi_C_split, zi_C_cut, zi_C_cases, zi_C_nodes, zi_C_tested, zi_C_threshold, zi_C_child, zi_C_classOf, zi_C_weight, zi_C_part, zi_C_log, zi_C_ask, zi_C_hasRootTest, zi_C_isClass, zi_C_isMinimum, zi_C_logarithm, zi_C_information, zi_C_sum, zi_C_firstGreatest, zi_C_branchFor, zi_Cs_putAttribute, zi_Cs_putCase, zi_Cs_copyValues, zi_Cs_valueOf, zi_Cs_isContinuous, zi_Cs_branchesOf, zi_Cs_fits, zi_Cs_nextValue, zi_Cs_valueUpTo, zi_Fi_hasGain, zi_Fi_hasGreaterRatio, zi_Fo_setTest, zi_Fo_settleParts, zi_Fo_passed, zi_Gr_plant, zi_Gr_growFrom, zi_Gr_hasTooLittle, zi_Gr_fork, zi_Ju_classFor, zi_Ju_giveFrom, zi_Ju_shareOut, zi_Pa_start, zi_Pa_tallyClasses, zi_Pa_tallyParts, zi_Pa_goDown, zi_Pr_pruneAll, zi_Pr_sendFrom, zi_Pr_pruneFrom, zi_Pr_leafErrors, zi_Te_examine, zi_Te_tally, zi_Te_isValid, zi_Te_offer, zi_Te_chosen, zi_Tr_has, zi_Tr_hasBranch, zi_Tr_isLeaf, zi_Tr_below, zi_Tr_totalWeight, zi_Tr_makeNode, zi_Tr_becomeLeaf, zi_Tr_keepTest, zi_Tr_readTest, zi_Tr_keepWeights, zi_Tr_moveNode, zi_Tr_heaviestBelow, zi_Tr_numberNodes, zi_Tr_numberFrom, zi_M_logOf, zi_M_term, zi_M_information, zi_M_log, zi_M_attribute, zi_M_fits, zi_M_allFit, zi_M_add, zi_M_classWeight, zi_M_weightOf, zi_M_heaviest, zi_M_branches, zi_M_branch, zi_M_measure, zi_M_nextValue, zi_M_valueUpTo, zi_M_measureCuts, zi_M_measureTest, zi_M_usedAbove, zi_M_useful, zi_M_choose, zi_M_sendDown, zi_M_settle, zi_M_grow, zi_M_list, zi_M_leafErrors, zi_M_errors, zi_M_copyWeights, zi_M_wouldBe, zi_M_replace, zi_M_lookAt, zi_M_prune, zi_M_inTree, zi_M_arrive, zi_M_classifyAsked, zi_M_classify, zi_M_share, zi_M_wrong, zi_M_rootTest, zi_M_gain, zi_M_split, zi_M_cut, zi_M_cases, zi_M_nodes, zi_M_at, zi_M_tested, zi_M_threshold, zi_M_child, zi_M_classOf, zi_M_weight, zi_M_part]
def zI (mi : Nat) : ze_I := zIl.getD mi zi_A_fill
def zTl : List ze_T := [t_A_fill, t_C_attribute, t_C_add, t_C_grow, t_C_prune, t_C_classify, t_C_share, t_C_wrong, t_C_gain, t_C_split, t_C_cut, t_C_cases, t_C_nodes, t_C_tested, t_C_threshold, t_C_child, t_C_classOf, t_C_weight, t_C_part, t_C_log, t_C_ask, t_C_hasRootTest, t_C_isClass, t_C_isMinimum, t_C_logarithm, t_C_information, t_C_sum, t_C_firstGreatest, t_C_branchFor, t_Cs_putAttribute, t_Cs_putCase, t_Cs_copyValues, t_Cs_valueOf, t_Cs_isContinuous, t_Cs_branchesOf, t_Cs_fits, t_Cs_nextValue, t_Cs_valueUpTo, t_Fi_hasGain, t_Fi_hasGreaterRatio, t_Fo_setTest, t_Fo_settleParts, t_Fo_passed, t_Gr_plant, t_Gr_growFrom, t_Gr_hasTooLittle, t_Gr_fork, t_Ju_classFor, t_Ju_giveFrom, t_Ju_shareOut, t_Pa_start, t_Pa_tallyClasses, t_Pa_tallyParts, t_Pa_goDown, t_Pr_pruneAll, t_Pr_sendFrom, t_Pr_pruneFrom, t_Pr_leafErrors, t_Te_examine, t_Te_tally, t_Te_isValid, t_Te_offer, t_Te_chosen, t_Tr_has, t_Tr_hasBranch, t_Tr_isLeaf, t_Tr_below, t_Tr_totalWeight, t_Tr_makeNode, t_Tr_becomeLeaf, t_Tr_keepTest, t_Tr_readTest, t_Tr_keepWeights, t_Tr_moveNode, t_Tr_heaviestBelow, t_Tr_numberNodes, t_Tr_numberFrom, t_M_logOf, t_M_term, t_M_information, t_M_log, t_M_attribute, t_M_fits, t_M_allFit, t_M_add, t_M_classWeight, t_M_weightOf, t_M_heaviest, t_M_branches, t_M_branch, t_M_measure, t_M_nextValue, t_M_valueUpTo, t_M_measureCuts, t_M_measureTest, t_M_usedAbove, t_M_useful, t_M_choose, t_M_sendDown, t_M_settle, t_M_grow, t_M_list, t_M_leafErrors, t_M_errors, t_M_copyWeights, t_M_wouldBe, t_M_replace, t_M_lookAt, t_M_prune, t_M_inTree, t_M_arrive, t_M_classifyAsked, t_M_classify, t_M_share, t_M_wrong, t_M_rootTest, t_M_gain, t_M_split, t_M_cut, t_M_cases, t_M_nodes, t_M_at, t_M_tested, t_M_threshold, t_M_child, t_M_classOf, t_M_weight, t_M_part]
def ztb (mi : Nat) : ze_T := zTl.getD mi []
theorem zI_0 : zI 0 = zi_A_fill := rfl
theorem zI_1 : zI 1 = zi_C_attribute := rfl
theorem zI_2 : zI 2 = zi_C_add := rfl
theorem zI_3 : zI 3 = zi_C_grow := rfl
theorem zI_4 : zI 4 = zi_C_prune := rfl
theorem zI_5 : zI 5 = zi_C_classify := rfl
theorem zI_6 : zI 6 = zi_C_share := rfl
theorem zI_7 : zI 7 = zi_C_wrong := rfl
theorem zI_8 : zI 8 = zi_C_gain := rfl
theorem zI_9 : zI 9 = zi_C_split := rfl
theorem zI_10 : zI 10 = zi_C_cut := rfl
theorem zI_11 : zI 11 = zi_C_cases := rfl
theorem zI_12 : zI 12 = zi_C_nodes := rfl
theorem zI_13 : zI 13 = zi_C_tested := rfl
theorem zI_14 : zI 14 = zi_C_threshold := rfl
theorem zI_15 : zI 15 = zi_C_child := rfl
theorem zI_16 : zI 16 = zi_C_classOf := rfl
theorem zI_17 : zI 17 = zi_C_weight := rfl
theorem zI_18 : zI 18 = zi_C_part := rfl
theorem zI_19 : zI 19 = zi_C_log := rfl
theorem zI_20 : zI 20 = zi_C_ask := rfl
theorem zI_21 : zI 21 = zi_C_hasRootTest := rfl
theorem zI_22 : zI 22 = zi_C_isClass := rfl
theorem zI_23 : zI 23 = zi_C_isMinimum := rfl
theorem zI_24 : zI 24 = zi_C_logarithm := rfl
theorem zI_25 : zI 25 = zi_C_information := rfl
theorem zI_26 : zI 26 = zi_C_sum := rfl
theorem zI_27 : zI 27 = zi_C_firstGreatest := rfl
theorem zI_28 : zI 28 = zi_C_branchFor := rfl
theorem zI_29 : zI 29 = zi_Cs_putAttribute := rfl
theorem zI_30 : zI 30 = zi_Cs_putCase := rfl
theorem zI_31 : zI 31 = zi_Cs_copyValues := rfl
theorem zI_32 : zI 32 = zi_Cs_valueOf := rfl
theorem zI_33 : zI 33 = zi_Cs_isContinuous := rfl
theorem zI_34 : zI 34 = zi_Cs_branchesOf := rfl
theorem zI_35 : zI 35 = zi_Cs_fits := rfl
theorem zI_36 : zI 36 = zi_Cs_nextValue := rfl
theorem zI_37 : zI 37 = zi_Cs_valueUpTo := rfl
theorem zI_38 : zI 38 = zi_Fi_hasGain := rfl
theorem zI_39 : zI 39 = zi_Fi_hasGreaterRatio := rfl
theorem zI_40 : zI 40 = zi_Fo_setTest := rfl
theorem zI_41 : zI 41 = zi_Fo_settleParts := rfl
theorem zI_42 : zI 42 = zi_Fo_passed := rfl
theorem zI_43 : zI 43 = zi_Gr_plant := rfl
theorem zI_44 : zI 44 = zi_Gr_growFrom := rfl
theorem zI_45 : zI 45 = zi_Gr_hasTooLittle := rfl
theorem zI_46 : zI 46 = zi_Gr_fork := rfl
theorem zI_47 : zI 47 = zi_Ju_classFor := rfl
theorem zI_48 : zI 48 = zi_Ju_giveFrom := rfl
theorem zI_49 : zI 49 = zi_Ju_shareOut := rfl
theorem zI_50 : zI 50 = zi_Pa_start := rfl
theorem zI_51 : zI 51 = zi_Pa_tallyClasses := rfl
theorem zI_52 : zI 52 = zi_Pa_tallyParts := rfl
theorem zI_53 : zI 53 = zi_Pa_goDown := rfl
theorem zI_54 : zI 54 = zi_Pr_pruneAll := rfl
theorem zI_55 : zI 55 = zi_Pr_sendFrom := rfl
theorem zI_56 : zI 56 = zi_Pr_pruneFrom := rfl
theorem zI_57 : zI 57 = zi_Pr_leafErrors := rfl
theorem zI_58 : zI 58 = zi_Te_examine := rfl
theorem zI_59 : zI 59 = zi_Te_tally := rfl
theorem zI_60 : zI 60 = zi_Te_isValid := rfl
theorem zI_61 : zI 61 = zi_Te_offer := rfl
theorem zI_62 : zI 62 = zi_Te_chosen := rfl
theorem zI_63 : zI 63 = zi_Tr_has := rfl
theorem zI_64 : zI 64 = zi_Tr_hasBranch := rfl
theorem zI_65 : zI 65 = zi_Tr_isLeaf := rfl
theorem zI_66 : zI 66 = zi_Tr_below := rfl
theorem zI_67 : zI 67 = zi_Tr_totalWeight := rfl
theorem zI_68 : zI 68 = zi_Tr_makeNode := rfl
theorem zI_69 : zI 69 = zi_Tr_becomeLeaf := rfl
theorem zI_70 : zI 70 = zi_Tr_keepTest := rfl
theorem zI_71 : zI 71 = zi_Tr_readTest := rfl
theorem zI_72 : zI 72 = zi_Tr_keepWeights := rfl
theorem zI_73 : zI 73 = zi_Tr_moveNode := rfl
theorem zI_74 : zI 74 = zi_Tr_heaviestBelow := rfl
theorem zI_75 : zI 75 = zi_Tr_numberNodes := rfl
theorem zI_76 : zI 76 = zi_Tr_numberFrom := rfl
theorem zI_77 : zI 77 = zi_M_logOf := rfl
theorem zI_78 : zI 78 = zi_M_term := rfl
theorem zI_79 : zI 79 = zi_M_information := rfl
theorem zI_80 : zI 80 = zi_M_log := rfl
theorem zI_81 : zI 81 = zi_M_attribute := rfl
theorem zI_82 : zI 82 = zi_M_fits := rfl
theorem zI_83 : zI 83 = zi_M_allFit := rfl
theorem zI_84 : zI 84 = zi_M_add := rfl
theorem zI_85 : zI 85 = zi_M_classWeight := rfl
theorem zI_86 : zI 86 = zi_M_weightOf := rfl
theorem zI_87 : zI 87 = zi_M_heaviest := rfl
theorem zI_88 : zI 88 = zi_M_branches := rfl
theorem zI_89 : zI 89 = zi_M_branch := rfl
theorem zI_90 : zI 90 = zi_M_measure := rfl
theorem zI_91 : zI 91 = zi_M_nextValue := rfl
theorem zI_92 : zI 92 = zi_M_valueUpTo := rfl
theorem zI_93 : zI 93 = zi_M_measureCuts := rfl
theorem zI_94 : zI 94 = zi_M_measureTest := rfl
theorem zI_95 : zI 95 = zi_M_usedAbove := rfl
theorem zI_96 : zI 96 = zi_M_useful := rfl
theorem zI_97 : zI 97 = zi_M_choose := rfl
theorem zI_98 : zI 98 = zi_M_sendDown := rfl
theorem zI_99 : zI 99 = zi_M_settle := rfl
theorem zI_100 : zI 100 = zi_M_grow := rfl
theorem zI_101 : zI 101 = zi_M_list := rfl
theorem zI_102 : zI 102 = zi_M_leafErrors := rfl
theorem zI_103 : zI 103 = zi_M_errors := rfl
theorem zI_104 : zI 104 = zi_M_copyWeights := rfl
theorem zI_105 : zI 105 = zi_M_wouldBe := rfl
theorem zI_106 : zI 106 = zi_M_replace := rfl
theorem zI_107 : zI 107 = zi_M_lookAt := rfl
theorem zI_108 : zI 108 = zi_M_prune := rfl
theorem zI_109 : zI 109 = zi_M_inTree := rfl
theorem zI_110 : zI 110 = zi_M_arrive := rfl
theorem zI_111 : zI 111 = zi_M_classifyAsked := rfl
theorem zI_112 : zI 112 = zi_M_classify := rfl
theorem zI_113 : zI 113 = zi_M_share := rfl
theorem zI_114 : zI 114 = zi_M_wrong := rfl
theorem zI_115 : zI 115 = zi_M_rootTest := rfl
theorem zI_116 : zI 116 = zi_M_gain := rfl
theorem zI_117 : zI 117 = zi_M_split := rfl
theorem zI_118 : zI 118 = zi_M_cut := rfl
theorem zI_119 : zI 119 = zi_M_cases := rfl
theorem zI_120 : zI 120 = zi_M_nodes := rfl
theorem zI_121 : zI 121 = zi_M_at := rfl
theorem zI_122 : zI 122 = zi_M_tested := rfl
theorem zI_123 : zI 123 = zi_M_threshold := rfl
theorem zI_124 : zI 124 = zi_M_child := rfl
theorem zI_125 : zI 125 = zi_M_classOf := rfl
theorem zI_126 : zI 126 = zi_M_weight := rfl
theorem zI_127 : zI 127 = zi_M_part := rfl
