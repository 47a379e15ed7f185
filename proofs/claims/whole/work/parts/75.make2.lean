set_option maxHeartbeats 800000 in
theorem i_mod {M0 : MM} {n : Nat} (hn : M0.length = n) (hlt : n < 500) : Con DX7_init 1 21 3100 [.ref n] (M0 ++ [cO 7 [.null, .null, .int 0, .null, .null, .int 0, .null, .null, .null, .int 0, .int 0, .int 0, .int 0, .int 0, .int 0, .null, .null, .null, .int 0, .null, .null, .int 0, .null, .int 0, .null, .null, .null, .null, .null, .int 0, .null, .null, .null]]) (fun v M' => v = none ∧ M' = M0 ++ [cO 7 [.ref (n + 1), .ref (n + 2), .int 0, .ref (n + 3), .ref (n + 4), .int 0, .ref (n + 5), .ref (n + 6), .ref (n + 7), .int 0, .int 0, .int 0, .int 0, .int 0, .int 0, .ref (n + 8), .ref (n + 9), .ref (n + 10), .int 0, .ref (n + 11), .ref (n + 12), .int 0, .ref (n + 13), .int 0, .ref (n + 14), .ref (n + 15), .ref (n + 16), .ref (n + 17), .ref (n + 18), .int 0, .ref (n + 19), .ref (n + 20), .ref (n + 21)], zI 8, zI 8, zI 6, zI 6, zI 24, zI 42, zI 160, zI 24, zI 8, zI 8, zI 6, zI 6, zI 336, zI 8, zI 6, cZ (List.replicate 2 0), zI 84, zI 42, zI 6, zI 6, zI 2304]) := by
  subst hn
  have hL : ([some (.ref M0.length)] : List (Option Value)).all (okO (M0.length + 1)) = true := ok_1 (by omega)
  have hS : ([.ref M0.length] : List Value).all (okV (M0.length + 1)) = true := ok_s (by omega)
  refine Con.ofV [some (.ref M0.length)] rfl (Nat.le_of_ble_eq_true rfl) rfl ?_
  refine V_aload_n dX7_init_0 rfl ?_
  refine V_objInit lX7_1 oI oC (by decide) dX7_init_1 (by decide) ?_
  refine V_aload_n dX7_init_4 rfl ?_
  refine V_bipush (v := nI 8) dX7_init_5 rfl ?_
  refine V_newiA 1 8 rfl hL hS (by decide) (by omega) (by decide) 1 8 rfl rfl (by decide) (by decide) dX7_init_7 ?_
  refine V_putFA 2 33 qX7_7 rfl rfl rfl (by decide) (by omega) dX7_init_9 ?_
  show V DX7_init (1, 21, 3100, 1, 8) 12 [some (.ref M0.length)] [] (M0 ++ cO 7 [.ref (M0.length + 1), .null, .int 0, .null, .null, .int 0, .null, .null, .null, .int 0, .int 0, .int 0, .int 0, .int 0, .int 0, .null, .null, .null, .int 0, .null, .null, .int 0, .null, .int 0, .null, .null, .null, .null, .null, .int 0, .null, .null, .null] :: [zI 8]) _
  refine V_aload_n dX7_init_12 rfl ?_
  refine V_bipush (v := nI 8) dX7_init_13 rfl ?_
  refine V_newiA 2 8 rfl hL hS (by decide) (by omega) (by decide) 2 16 rfl rfl (by decide) (by decide) dX7_init_15 ?_
  refine V_putFA 3 33 qX7_13 rfl rfl rfl (by decide) (by omega) dX7_init_17 ?_
  show V DX7_init (1, 21, 3100, 2, 16) 20 [some (.ref M0.length)] [] (M0 ++ cO 7 [.ref (M0.length + 1), .ref (M0.length + 2), .int 0, .null, .null, .int 0, .null, .null, .null, .int 0, .int 0, .int 0, .int 0, .int 0, .int 0, .null, .null, .null, .int 0, .null, .null, .int 0, .null, .int 0, .null, .null, .null, .null, .null, .int 0, .null, .null, .null] :: [zI 8, zI 8]) _
  refine V_aload_n dX7_init_20 rfl ?_
  refine V_bipush (v := nI 6) dX7_init_21 rfl ?_
  refine V_newiA 3 6 rfl hL hS (by decide) (by omega) (by decide) 3 22 rfl rfl (by decide) (by decide) dX7_init_23 ?_
  refine V_putFA 4 33 qX7_16 rfl rfl rfl (by decide) (by omega) dX7_init_25 ?_
  show V DX7_init (1, 21, 3100, 3, 22) 28 [some (.ref M0.length)] [] (M0 ++ cO 7 [.ref (M0.length + 1), .ref (M0.length + 2), .int 0, .ref (M0.length + 3), .null, .int 0, .null, .null, .null, .int 0, .int 0, .int 0, .int 0, .int 0, .int 0, .null, .null, .null, .int 0, .null, .null, .int 0, .null, .int 0, .null, .null, .null, .null, .null, .int 0, .null, .null, .null] :: [zI 8, zI 8, zI 6]) _
  refine V_aload_n dX7_init_28 rfl ?_
  refine V_bipush (v := nI 6) dX7_init_29 rfl ?_
  refine V_newiA 4 6 rfl hL hS (by decide) (by omega) (by decide) 4 28 rfl rfl (by decide) (by decide) dX7_init_31 ?_
  refine V_putFA 5 33 qX7_19 rfl rfl rfl (by decide) (by omega) dX7_init_33 ?_
  show V DX7_init (1, 21, 3100, 4, 28) 36 [some (.ref M0.length)] [] (M0 ++ cO 7 [.ref (M0.length + 1), .ref (M0.length + 2), .int 0, .ref (M0.length + 3), .ref (M0.length + 4), .int 0, .null, .null, .null, .int 0, .int 0, .int 0, .int 0, .int 0, .int 0, .null, .null, .null, .int 0, .null, .null, .int 0, .null, .int 0, .null, .null, .null, .null, .null, .int 0, .null, .null, .null] :: [zI 8, zI 8, zI 6, zI 6]) _
  refine V_aload_n dX7_init_36 rfl ?_
  refine V_bipush (v := nI 24) dX7_init_37 rfl ?_
  refine V_newiA 5 24 rfl hL hS (by decide) (by omega) (by decide) 5 52 rfl rfl (by decide) (by decide) dX7_init_39 ?_
  refine V_putFA 6 33 qX7_22 rfl rfl rfl (by decide) (by omega) dX7_init_41 ?_
  show V DX7_init (1, 21, 3100, 5, 52) 44 [some (.ref M0.length)] [] (M0 ++ cO 7 [.ref (M0.length + 1), .ref (M0.length + 2), .int 0, .ref (M0.length + 3), .ref (M0.length + 4), .int 0, .ref (M0.length + 5), .null, .null, .int 0, .int 0, .int 0, .int 0, .int 0, .int 0, .null, .null, .null, .int 0, .null, .null, .int 0, .null, .int 0, .null, .null, .null, .null, .null, .int 0, .null, .null, .null] :: [zI 8, zI 8, zI 6, zI 6, zI 24]) _
  refine V_aload_n dX7_init_44 rfl ?_
  refine V_bipush (v := nI 42) dX7_init_45 rfl ?_
  refine V_newiA 6 42 rfl hL hS (by decide) (by omega) (by decide) 6 94 rfl rfl (by decide) (by decide) dX7_init_47 ?_
  refine V_putFA 7 33 qX7_25 rfl rfl rfl (by decide) (by omega) dX7_init_49 ?_
  show V DX7_init (1, 21, 3100, 6, 94) 52 [some (.ref M0.length)] [] (M0 ++ cO 7 [.ref (M0.length + 1), .ref (M0.length + 2), .int 0, .ref (M0.length + 3), .ref (M0.length + 4), .int 0, .ref (M0.length + 5), .ref (M0.length + 6), .null, .int 0, .int 0, .int 0, .int 0, .int 0, .int 0, .null, .null, .null, .int 0, .null, .null, .int 0, .null, .int 0, .null, .null, .null, .null, .null, .int 0, .null, .null, .null] :: [zI 8, zI 8, zI 6, zI 6, zI 24, zI 42]) _
  refine V_aload_n dX7_init_52 rfl ?_
  refine V_sipush (v := nI 160) dX7_init_53 rfl ?_
  refine V_newiA 7 160 rfl hL hS (by decide) (by omega) (by decide) 7 254 rfl rfl (by decide) (by decide) dX7_init_56 ?_
  refine V_putFA 8 33 qX7_28 rfl rfl rfl (by decide) (by omega) dX7_init_58 ?_
  show V DX7_init (1, 21, 3100, 7, 254) 61 [some (.ref M0.length)] [] (M0 ++ cO 7 [.ref (M0.length + 1), .ref (M0.length + 2), .int 0, .ref (M0.length + 3), .ref (M0.length + 4), .int 0, .ref (M0.length + 5), .ref (M0.length + 6), .ref (M0.length + 7), .int 0, .int 0, .int 0, .int 0, .int 0, .int 0, .null, .null, .null, .int 0, .null, .null, .int 0, .null, .int 0, .null, .null, .null, .null, .null, .int 0, .null, .null, .null] :: [zI 8, zI 8, zI 6, zI 6, zI 24, zI 42, zI 160]) _
  refine V_aload_n dX7_init_61 rfl ?_
  refine V_bipush (v := nI 24) dX7_init_62 rfl ?_
  refine V_newiA 8 24 rfl hL hS (by decide) (by omega) (by decide) 8 278 rfl rfl (by decide) (by decide) dX7_init_64 ?_
  refine V_putFA 9 33 qX7_31 rfl rfl rfl (by decide) (by omega) dX7_init_66 ?_
  show V DX7_init (1, 21, 3100, 8, 278) 69 [some (.ref M0.length)] [] (M0 ++ cO 7 [.ref (M0.length + 1), .ref (M0.length + 2), .int 0, .ref (M0.length + 3), .ref (M0.length + 4), .int 0, .ref (M0.length + 5), .ref (M0.length + 6), .ref (M0.length + 7), .int 0, .int 0, .int 0, .int 0, .int 0, .int 0, .ref (M0.length + 8), .null, .null, .int 0, .null, .null, .int 0, .null, .int 0, .null, .null, .null, .null, .null, .int 0, .null, .null, .null] :: [zI 8, zI 8, zI 6, zI 6, zI 24, zI 42, zI 160, zI 24]) _
  refine V_aload_n dX7_init_69 rfl ?_
  refine V_bipush (v := nI 8) dX7_init_70 rfl ?_
  refine V_newiA 9 8 rfl hL hS (by decide) (by omega) (by decide) 9 286 rfl rfl (by decide) (by decide) dX7_init_72 ?_
  refine V_putFA 10 33 qX7_34 rfl rfl rfl (by decide) (by omega) dX7_init_74 ?_
  show V DX7_init (1, 21, 3100, 9, 286) 77 [some (.ref M0.length)] [] (M0 ++ cO 7 [.ref (M0.length + 1), .ref (M0.length + 2), .int 0, .ref (M0.length + 3), .ref (M0.length + 4), .int 0, .ref (M0.length + 5), .ref (M0.length + 6), .ref (M0.length + 7), .int 0, .int 0, .int 0, .int 0, .int 0, .int 0, .ref (M0.length + 8), .ref (M0.length + 9), .null, .int 0, .null, .null, .int 0, .null, .int 0, .null, .null, .null, .null, .null, .int 0, .null, .null, .null] :: [zI 8, zI 8, zI 6, zI 6, zI 24, zI 42, zI 160, zI 24, zI 8]) _
  refine V_aload_n dX7_init_77 rfl ?_
  refine V_bipush (v := nI 8) dX7_init_78 rfl ?_
  refine V_newiA 10 8 rfl hL hS (by decide) (by omega) (by decide) 10 294 rfl rfl (by decide) (by decide) dX7_init_80 ?_
  refine V_putFA 11 33 qX7_37 rfl rfl rfl (by decide) (by omega) dX7_init_82 ?_
  show V DX7_init (1, 21, 3100, 10, 294) 85 [some (.ref M0.length)] [] (M0 ++ cO 7 [.ref (M0.length + 1), .ref (M0.length + 2), .int 0, .ref (M0.length + 3), .ref (M0.length + 4), .int 0, .ref (M0.length + 5), .ref (M0.length + 6), .ref (M0.length + 7), .int 0, .int 0, .int 0, .int 0, .int 0, .int 0, .ref (M0.length + 8), .ref (M0.length + 9), .ref (M0.length + 10), .int 0, .null, .null, .int 0, .null, .int 0, .null, .null, .null, .null, .null, .int 0, .null, .null, .null] :: [zI 8, zI 8, zI 6, zI 6, zI 24, zI 42, zI 160, zI 24, zI 8, zI 8]) _
  refine V_aload_n dX7_init_85 rfl ?_
  refine V_bipush (v := nI 6) dX7_init_86 rfl ?_
  refine V_newiA 11 6 rfl hL hS (by decide) (by omega) (by decide) 11 300 rfl rfl (by decide) (by decide) dX7_init_88 ?_
  refine V_putFA 12 33 qX7_40 rfl rfl rfl (by decide) (by omega) dX7_init_90 ?_
  show V DX7_init (1, 21, 3100, 11, 300) 93 [some (.ref M0.length)] [] (M0 ++ cO 7 [.ref (M0.length + 1), .ref (M0.length + 2), .int 0, .ref (M0.length + 3), .ref (M0.length + 4), .int 0, .ref (M0.length + 5), .ref (M0.length + 6), .ref (M0.length + 7), .int 0, .int 0, .int 0, .int 0, .int 0, .int 0, .ref (M0.length + 8), .ref (M0.length + 9), .ref (M0.length + 10), .int 0, .ref (M0.length + 11), .null, .int 0, .null, .int 0, .null, .null, .null, .null, .null, .int 0, .null, .null, .null] :: [zI 8, zI 8, zI 6, zI 6, zI 24, zI 42, zI 160, zI 24, zI 8, zI 8, zI 6]) _
  refine V_aload_n dX7_init_93 rfl ?_
  refine V_bipush (v := nI 6) dX7_init_94 rfl ?_
  refine V_newiA 12 6 rfl hL hS (by decide) (by omega) (by decide) 12 306 rfl rfl (by decide) (by decide) dX7_init_96 ?_
  refine V_putFA 13 33 qX7_43 rfl rfl rfl (by decide) (by omega) dX7_init_98 ?_
  show V DX7_init (1, 21, 3100, 12, 306) 101 [some (.ref M0.length)] [] (M0 ++ cO 7 [.ref (M0.length + 1), .ref (M0.length + 2), .int 0, .ref (M0.length + 3), .ref (M0.length + 4), .int 0, .ref (M0.length + 5), .ref (M0.length + 6), .ref (M0.length + 7), .int 0, .int 0, .int 0, .int 0, .int 0, .int 0, .ref (M0.length + 8), .ref (M0.length + 9), .ref (M0.length + 10), .int 0, .ref (M0.length + 11), .ref (M0.length + 12), .int 0, .null, .int 0, .null, .null, .null, .null, .null, .int 0, .null, .null, .null] :: [zI 8, zI 8, zI 6, zI 6, zI 24, zI 42, zI 160, zI 24, zI 8, zI 8, zI 6, zI 6]) _
  refine V_aload_n dX7_init_101 rfl ?_
  refine V_sipush (v := nI 336) dX7_init_102 rfl ?_
  refine V_newiA 13 336 rfl hL hS (by decide) (by omega) (by decide) 13 642 rfl rfl (by decide) (by decide) dX7_init_105 ?_
  refine V_putFA 14 33 qX7_46 rfl rfl rfl (by decide) (by omega) dX7_init_107 ?_
  show V DX7_init (1, 21, 3100, 13, 642) 110 [some (.ref M0.length)] [] (M0 ++ cO 7 [.ref (M0.length + 1), .ref (M0.length + 2), .int 0, .ref (M0.length + 3), .ref (M0.length + 4), .int 0, .ref (M0.length + 5), .ref (M0.length + 6), .ref (M0.length + 7), .int 0, .int 0, .int 0, .int 0, .int 0, .int 0, .ref (M0.length + 8), .ref (M0.length + 9), .ref (M0.length + 10), .int 0, .ref (M0.length + 11), .ref (M0.length + 12), .int 0, .ref (M0.length + 13), .int 0, .null, .null, .null, .null, .null, .int 0, .null, .null, .null] :: [zI 8, zI 8, zI 6, zI 6, zI 24, zI 42, zI 160, zI 24, zI 8, zI 8, zI 6, zI 6, zI 336]) _
  refine V_aload_n dX7_init_110 rfl ?_
  refine V_bipush (v := nI 8) dX7_init_111 rfl ?_
  refine V_newiA 14 8 rfl hL hS (by decide) (by omega) (by decide) 14 650 rfl rfl (by decide) (by decide) dX7_init_113 ?_
  refine V_putFA 15 33 qX7_49 rfl rfl rfl (by decide) (by omega) dX7_init_115 ?_
  show V DX7_init (1, 21, 3100, 14, 650) 118 [some (.ref M0.length)] [] (M0 ++ cO 7 [.ref (M0.length + 1), .ref (M0.length + 2), .int 0, .ref (M0.length + 3), .ref (M0.length + 4), .int 0, .ref (M0.length + 5), .ref (M0.length + 6), .ref (M0.length + 7), .int 0, .int 0, .int 0, .int 0, .int 0, .int 0, .ref (M0.length + 8), .ref (M0.length + 9), .ref (M0.length + 10), .int 0, .ref (M0.length + 11), .ref (M0.length + 12), .int 0, .ref (M0.length + 13), .int 0, .ref (M0.length + 14), .null, .null, .null, .null, .int 0, .null, .null, .null] :: [zI 8, zI 8, zI 6, zI 6, zI 24, zI 42, zI 160, zI 24, zI 8, zI 8, zI 6, zI 6, zI 336, zI 8]) _
  refine V_aload_n dX7_init_118 rfl ?_
  refine V_bipush (v := nI 6) dX7_init_119 rfl ?_
  refine V_newiA 15 6 rfl hL hS (by decide) (by omega) (by decide) 15 656 rfl rfl (by decide) (by decide) dX7_init_121 ?_
  refine V_putFA 16 33 qX7_52 rfl rfl rfl (by decide) (by omega) dX7_init_123 ?_
  show V DX7_init (1, 21, 3100, 15, 656) 126 [some (.ref M0.length)] [] (M0 ++ cO 7 [.ref (M0.length + 1), .ref (M0.length + 2), .int 0, .ref (M0.length + 3), .ref (M0.length + 4), .int 0, .ref (M0.length + 5), .ref (M0.length + 6), .ref (M0.length + 7), .int 0, .int 0, .int 0, .int 0, .int 0, .int 0, .ref (M0.length + 8), .ref (M0.length + 9), .ref (M0.length + 10), .int 0, .ref (M0.length + 11), .ref (M0.length + 12), .int 0, .ref (M0.length + 13), .int 0, .ref (M0.length + 14), .ref (M0.length + 15), .null, .null, .null, .int 0, .null, .null, .null] :: [zI 8, zI 8, zI 6, zI 6, zI 24, zI 42, zI 160, zI 24, zI 8, zI 8, zI 6, zI 6, zI 336, zI 8, zI 6]) _
  refine V_aload_n dX7_init_126 rfl ?_
  refine V_iconst (v := nI 2) dX7_init_127 rfl ?_
  refine V_newzA 16 2 rfl hL hS (by decide) (by omega) (by decide) 16 658 rfl rfl (by decide) (by decide) dX7_init_128 ?_
  refine V_putFA 17 33 qX7_55 rfl rfl rfl (by decide) (by omega) dX7_init_130 ?_
  show V DX7_init (1, 21, 3100, 16, 658) 133 [some (.ref M0.length)] [] (M0 ++ cO 7 [.ref (M0.length + 1), .ref (M0.length + 2), .int 0, .ref (M0.length + 3), .ref (M0.length + 4), .int 0, .ref (M0.length + 5), .ref (M0.length + 6), .ref (M0.length + 7), .int 0, .int 0, .int 0, .int 0, .int 0, .int 0, .ref (M0.length + 8), .ref (M0.length + 9), .ref (M0.length + 10), .int 0, .ref (M0.length + 11), .ref (M0.length + 12), .int 0, .ref (M0.length + 13), .int 0, .ref (M0.length + 14), .ref (M0.length + 15), .ref (M0.length + 16), .null, .null, .int 0, .null, .null, .null] :: [zI 8, zI 8, zI 6, zI 6, zI 24, zI 42, zI 160, zI 24, zI 8, zI 8, zI 6, zI 6, zI 336, zI 8, zI 6, cZ (List.replicate 2 0)]) _
  refine V_aload_n dX7_init_133 rfl ?_
  refine V_bipush (v := nI 84) dX7_init_134 rfl ?_
  refine V_newiA 17 84 rfl hL hS (by decide) (by omega) (by decide) 17 742 rfl rfl (by decide) (by decide) dX7_init_136 ?_
  refine V_putFA 18 33 qX7_59 rfl rfl rfl (by decide) (by omega) dX7_init_138 ?_
  show V DX7_init (1, 21, 3100, 17, 742) 141 [some (.ref M0.length)] [] (M0 ++ cO 7 [.ref (M0.length + 1), .ref (M0.length + 2), .int 0, .ref (M0.length + 3), .ref (M0.length + 4), .int 0, .ref (M0.length + 5), .ref (M0.length + 6), .ref (M0.length + 7), .int 0, .int 0, .int 0, .int 0, .int 0, .int 0, .ref (M0.length + 8), .ref (M0.length + 9), .ref (M0.length + 10), .int 0, .ref (M0.length + 11), .ref (M0.length + 12), .int 0, .ref (M0.length + 13), .int 0, .ref (M0.length + 14), .ref (M0.length + 15), .ref (M0.length + 16), .ref (M0.length + 17), .null, .int 0, .null, .null, .null] :: [zI 8, zI 8, zI 6, zI 6, zI 24, zI 42, zI 160, zI 24, zI 8, zI 8, zI 6, zI 6, zI 336, zI 8, zI 6, cZ (List.replicate 2 0), zI 84]) _
  refine V_aload_n dX7_init_141 rfl ?_
  refine V_bipush (v := nI 42) dX7_init_142 rfl ?_
  refine V_newiA 18 42 rfl hL hS (by decide) (by omega) (by decide) 18 784 rfl rfl (by decide) (by decide) dX7_init_144 ?_
  refine V_putFA 19 33 qX7_62 rfl rfl rfl (by decide) (by omega) dX7_init_146 ?_
  show V DX7_init (1, 21, 3100, 18, 784) 149 [some (.ref M0.length)] [] (M0 ++ cO 7 [.ref (M0.length + 1), .ref (M0.length + 2), .int 0, .ref (M0.length + 3), .ref (M0.length + 4), .int 0, .ref (M0.length + 5), .ref (M0.length + 6), .ref (M0.length + 7), .int 0, .int 0, .int 0, .int 0, .int 0, .int 0, .ref (M0.length + 8), .ref (M0.length + 9), .ref (M0.length + 10), .int 0, .ref (M0.length + 11), .ref (M0.length + 12), .int 0, .ref (M0.length + 13), .int 0, .ref (M0.length + 14), .ref (M0.length + 15), .ref (M0.length + 16), .ref (M0.length + 17), .ref (M0.length + 18), .int 0, .null, .null, .null] :: [zI 8, zI 8, zI 6, zI 6, zI 24, zI 42, zI 160, zI 24, zI 8, zI 8, zI 6, zI 6, zI 336, zI 8, zI 6, cZ (List.replicate 2 0), zI 84, zI 42]) _
  refine V_aload_n dX7_init_149 rfl ?_
  refine V_bipush (v := nI 6) dX7_init_150 rfl ?_
  refine V_newiA 19 6 rfl hL hS (by decide) (by omega) (by decide) 19 790 rfl rfl (by decide) (by decide) dX7_init_152 ?_
  refine V_putFA 20 33 qX7_65 rfl rfl rfl (by decide) (by omega) dX7_init_154 ?_
  show V DX7_init (1, 21, 3100, 19, 790) 157 [some (.ref M0.length)] [] (M0 ++ cO 7 [.ref (M0.length + 1), .ref (M0.length + 2), .int 0, .ref (M0.length + 3), .ref (M0.length + 4), .int 0, .ref (M0.length + 5), .ref (M0.length + 6), .ref (M0.length + 7), .int 0, .int 0, .int 0, .int 0, .int 0, .int 0, .ref (M0.length + 8), .ref (M0.length + 9), .ref (M0.length + 10), .int 0, .ref (M0.length + 11), .ref (M0.length + 12), .int 0, .ref (M0.length + 13), .int 0, .ref (M0.length + 14), .ref (M0.length + 15), .ref (M0.length + 16), .ref (M0.length + 17), .ref (M0.length + 18), .int 0, .ref (M0.length + 19), .null, .null] :: [zI 8, zI 8, zI 6, zI 6, zI 24, zI 42, zI 160, zI 24, zI 8, zI 8, zI 6, zI 6, zI 336, zI 8, zI 6, cZ (List.replicate 2 0), zI 84, zI 42, zI 6]) _
  refine V_aload_n dX7_init_157 rfl ?_
  refine V_bipush (v := nI 6) dX7_init_158 rfl ?_
  refine V_newiA 20 6 rfl hL hS (by decide) (by omega) (by decide) 20 796 rfl rfl (by decide) (by decide) dX7_init_160 ?_
  refine V_putFA 21 33 qX7_68 rfl rfl rfl (by decide) (by omega) dX7_init_162 ?_
  show V DX7_init (1, 21, 3100, 20, 796) 165 [some (.ref M0.length)] [] (M0 ++ cO 7 [.ref (M0.length + 1), .ref (M0.length + 2), .int 0, .ref (M0.length + 3), .ref (M0.length + 4), .int 0, .ref (M0.length + 5), .ref (M0.length + 6), .ref (M0.length + 7), .int 0, .int 0, .int 0, .int 0, .int 0, .int 0, .ref (M0.length + 8), .ref (M0.length + 9), .ref (M0.length + 10), .int 0, .ref (M0.length + 11), .ref (M0.length + 12), .int 0, .ref (M0.length + 13), .int 0, .ref (M0.length + 14), .ref (M0.length + 15), .ref (M0.length + 16), .ref (M0.length + 17), .ref (M0.length + 18), .int 0, .ref (M0.length + 19), .ref (M0.length + 20), .null] :: [zI 8, zI 8, zI 6, zI 6, zI 24, zI 42, zI 160, zI 24, zI 8, zI 8, zI 6, zI 6, zI 336, zI 8, zI 6, cZ (List.replicate 2 0), zI 84, zI 42, zI 6, zI 6]) _
  refine V_aload_n dX7_init_165 rfl ?_
  refine V_sipush (v := nI 2304) dX7_init_166 rfl ?_
  refine V_newiA 21 2304 rfl hL hS (by decide) (by omega) (by decide) 21 3100 rfl rfl (by decide) (by decide) dX7_init_169 ?_
  refine V_putFA 22 33 qX7_71 rfl rfl rfl (by decide) (by omega) dX7_init_171 ?_
  show V DX7_init (1, 21, 3100, 21, 3100) 174 [some (.ref M0.length)] [] (M0 ++ cO 7 [.ref (M0.length + 1), .ref (M0.length + 2), .int 0, .ref (M0.length + 3), .ref (M0.length + 4), .int 0, .ref (M0.length + 5), .ref (M0.length + 6), .ref (M0.length + 7), .int 0, .int 0, .int 0, .int 0, .int 0, .int 0, .ref (M0.length + 8), .ref (M0.length + 9), .ref (M0.length + 10), .int 0, .ref (M0.length + 11), .ref (M0.length + 12), .int 0, .ref (M0.length + 13), .int 0, .ref (M0.length + 14), .ref (M0.length + 15), .ref (M0.length + 16), .ref (M0.length + 17), .ref (M0.length + 18), .int 0, .ref (M0.length + 19), .ref (M0.length + 20), .ref (M0.length + 21)] :: [zI 8, zI 8, zI 6, zI 6, zI 24, zI 42, zI 160, zI 24, zI 8, zI 8, zI 6, zI 6, zI 336, zI 8, zI 6, cZ (List.replicate 2 0), zI 84, zI 42, zI 6, zI 6, zI 2304]) _
  exact V_vret rfl ⟨by decide, by decide⟩ dX7_init_174 ⟨rfl, rfl⟩
