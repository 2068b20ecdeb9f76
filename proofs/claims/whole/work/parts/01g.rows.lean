theorem dX7_winsGame_104 : decode cX7_winsGame 104 = .ok (.iastore, 1) := by decide +kernel
theorem dX7_winsGame_105 : decode cX7_winsGame 105 = .ok (.aload_n 0, 1) := by decide +kernel
theorem dX7_winsGame_106 : decode cX7_winsGame 106 = .ok (.iconst 1, 1) := by decide +kernel
theorem dX7_winsGame_107 : decode cX7_winsGame 107 = .ok (.aload_n 0, 1) := by decide +kernel
theorem dX7_winsGame_108 : decode cX7_winsGame 108 = .ok (.getfield 103, 3) := by decide +kernel
theorem dX7_winsGame_111 : decode cX7_winsGame 111 = .ok (.isub, 1) := by decide +kernel
theorem dX7_winsGame_112 : decode cX7_winsGame 112 = .ok (.putfield 103, 3) := by decide +kernel
theorem dX7_winsGame_115 : decode cX7_winsGame 115 = .ok (.aload_n 0, 1) := by decide +kernel
theorem dX7_winsGame_116 : decode cX7_winsGame 116 = .ok (.getfield 26, 3) := by decide +kernel
theorem dX7_winsGame_119 : decode cX7_winsGame 119 = .ok (.bipush 6, 2) := by decide +kernel
theorem dX7_winsGame_121 : decode cX7_winsGame 121 = .ok (.aload_n 0, 1) := by decide +kernel
theorem dX7_winsGame_122 : decode cX7_winsGame 122 = .ok (.getfield 103, 3) := by decide +kernel
theorem dX7_winsGame_125 : decode cX7_winsGame 125 = .ok (.iastore, 1) := by decide +kernel
theorem dX7_winsGame_126 : decode cX7_winsGame 126 = .ok (.aload_n 0, 1) := by decide +kernel
theorem dX7_winsGame_127 : decode cX7_winsGame 127 = .ok (.getfield 26, 3) := by decide +kernel
theorem dX7_winsGame_130 : decode cX7_winsGame 130 = .ok (.bipush 12, 2) := by decide +kernel
theorem dX7_winsGame_132 : decode cX7_winsGame 132 = .ok (.aload_n 0, 1) := by decide +kernel
theorem dX7_winsGame_133 : decode cX7_winsGame 133 = .ok (.getfield 26, 3) := by decide +kernel
theorem dX7_winsGame_136 : decode cX7_winsGame 136 = .ok (.iconst 4, 1) := by decide +kernel
theorem dX7_winsGame_137 : decode cX7_winsGame 137 = .ok (.iload_n 1, 1) := by decide +kernel
theorem dX7_winsGame_138 : decode cX7_winsGame 138 = .ok (.iadd, 1) := by decide +kernel
theorem dX7_winsGame_139 : decode cX7_winsGame 139 = .ok (.iaload, 1) := by decide +kernel
theorem dX7_winsGame_140 : decode cX7_winsGame 140 = .ok (.aload_n 0, 1) := by decide +kernel
theorem dX7_winsGame_141 : decode cX7_winsGame 141 = .ok (.getfield 7, 3) := by decide +kernel
theorem dX7_winsGame_144 : decode cX7_winsGame 144 = .ok (.iconst 4, 1) := by decide +kernel
theorem dX7_winsGame_145 : decode cX7_winsGame 145 = .ok (.iaload, 1) := by decide +kernel
theorem dX7_winsGame_146 : decode cX7_winsGame 146 = .ok (.if_icmp .ne 7, 3) := by decide +kernel
theorem dX7_winsGame_149 : decode cX7_winsGame 149 = .ok (.iload_n 1, 1) := by decide +kernel
theorem dX7_winsGame_150 : decode cX7_winsGame 150 = .ok (.goto 5, 3) := by decide +kernel
theorem dX7_winsGame_153 : decode cX7_winsGame 153 = .ok (.bipush (-9), 2) := by decide +kernel
theorem dX7_winsGame_155 : decode cX7_winsGame 155 = .ok (.iastore, 1) := by decide +kernel
theorem dX7_winsGame_156 : decode cX7_winsGame 156 = .ok (.aload_n 0, 1) := by decide +kernel
theorem dX7_winsGame_157 : decode cX7_winsGame 157 = .ok (.invokevirtual 106, 3) := by decide +kernel
theorem dX7_winsGame_160 : decode cX7_winsGame 160 = .ok (.return_, 1) := by decide +kernel
set_option maxRecDepth 20000 in
theorem ggX7_replays_X7_beginsGame : GoodIn wsX7_replays wsX7_beginsGame := goodIn_r _ [10, 1, 5, 19, 20, 21, 22, 23, 24, 25, 26, 27, 28, 29] (by decide +kernel) (by decide +kernel)
set_option maxRecDepth 20000 in
theorem gX7_replays_X7_beginsGame : GoodIn wsX7_replays (wsV RX7 106 RX7 yX7_beginsGame wsX7_beginsGame) := goodIn_app (goodIn_of _ (by decide +kernel)) ggX7_replays_X7_beginsGame
set_option maxRecDepth 20000 in
theorem ggX7_replays_X7_wonOf : GoodIn wsX7_replays wsX7_wonOf := goodIn_r _ [14, 5, 19, 20, 21, 22, 23, 24, 25, 26, 27, 28, 29] (by decide +kernel) (by decide +kernel)
set_option maxRecDepth 20000 in
theorem gX7_replays_X7_wonOf : GoodIn wsX7_replays (wsV RX7 55 RX7 yX7_wonOf wsX7_wonOf) := goodIn_app (goodIn_of _ (by decide +kernel)) ggX7_replays_X7_wonOf
set_option maxRecDepth 20000 in
theorem ggX7_replays_X7_winsGame : GoodIn wsX7_replays wsX7_winsGame := goodIn_r _ [18, 5, 1, 2, 6, 7, 8, 9, 10, 19, 20, 21, 22, 23, 24, 25, 26, 27, 28, 29] (by decide +kernel) (by decide +kernel)
set_option maxRecDepth 20000 in
theorem gX7_replays_X7_winsGame : GoodIn wsX7_replays (wsV RX7 109 RX7 yX7_winsGame wsX7_winsGame) := goodIn_app (goodIn_of _ (by decide +kernel)) ggX7_replays_X7_winsGame
theorem dX7_replays_0 : decode cX7_replays 0 = .ok (.iconst 0, 1) := by decide +kernel
theorem dX7_replays_1 : decode cX7_replays 1 = .ok (.istore_n 1, 1) := by decide +kernel
theorem dX7_replays_2 : decode cX7_replays 2 = .ok (.iload_n 1, 1) := by decide +kernel
theorem dX7_replays_3 : decode cX7_replays 3 = .ok (.bipush 12, 2) := by decide +kernel
theorem dX7_replays_5 : decode cX7_replays 5 = .ok (.if_icmp .ge 16, 3) := by decide +kernel
theorem dX7_replays_8 : decode cX7_replays 8 = .ok (.aload_n 0, 1) := by decide +kernel
theorem dX7_replays_9 : decode cX7_replays 9 = .ok (.getfield 26, 3) := by decide +kernel
theorem dX7_replays_12 : decode cX7_replays 12 = .ok (.iload_n 1, 1) := by decide +kernel
theorem dX7_replays_13 : decode cX7_replays 13 = .ok (.iconst 0, 1) := by decide +kernel
theorem dX7_replays_14 : decode cX7_replays 14 = .ok (.iastore, 1) := by decide +kernel
theorem dX7_replays_15 : decode cX7_replays 15 = .ok (.iinc 1 1, 3) := by decide +kernel
theorem dX7_replays_18 : decode cX7_replays 18 = .ok (.goto (-16), 3) := by decide +kernel
theorem dX7_replays_21 : decode cX7_replays 21 = .ok (.aload_n 0, 1) := by decide +kernel
theorem dX7_replays_22 : decode cX7_replays 22 = .ok (.getfield 26, 3) := by decide +kernel
theorem dX7_replays_25 : decode cX7_replays 25 = .ok (.bipush 12, 2) := by decide +kernel
theorem dX7_replays_27 : decode cX7_replays 27 = .ok (.bipush (-9), 2) := by decide +kernel
theorem dX7_replays_29 : decode cX7_replays 29 = .ok (.iastore, 1) := by decide +kernel
theorem dX7_replays_30 : decode cX7_replays 30 = .ok (.aload_n 0, 1) := by decide +kernel
theorem dX7_replays_31 : decode cX7_replays 31 = .ok (.iconst 0, 1) := by decide +kernel
theorem dX7_replays_32 : decode cX7_replays 32 = .ok (.putfield 103, 3) := by decide +kernel
theorem dX7_replays_35 : decode cX7_replays 35 = .ok (.aload_n 0, 1) := by decide +kernel
theorem dX7_replays_36 : decode cX7_replays 36 = .ok (.invokevirtual 106, 3) := by decide +kernel
theorem dX7_replays_39 : decode cX7_replays 39 = .ok (.iconst 0, 1) := by decide +kernel
theorem dX7_replays_40 : decode cX7_replays 40 = .ok (.istore_n 1, 1) := by decide +kernel
theorem dX7_replays_41 : decode cX7_replays 41 = .ok (.iload_n 1, 1) := by decide +kernel
theorem dX7_replays_42 : decode cX7_replays 42 = .ok (.aload_n 0, 1) := by decide +kernel
theorem dX7_replays_43 : decode cX7_replays 43 = .ok (.getfield 44, 3) := by decide +kernel
theorem dX7_replays_46 : decode cX7_replays 46 = .ok (.if_icmp .ge 95, 3) := by decide +kernel
theorem dX7_replays_49 : decode cX7_replays 49 = .ok (.aload_n 0, 1) := by decide +kernel
theorem dX7_replays_50 : decode cX7_replays 50 = .ok (.getfield 13, 3) := by decide +kernel
theorem dX7_replays_53 : decode cX7_replays 53 = .ok (.iload_n 1, 1) := by decide +kernel
theorem dX7_replays_54 : decode cX7_replays 54 = .ok (.iaload, 1) := by decide +kernel
theorem dX7_replays_55 : decode cX7_replays 55 = .ok (.istore_n 2, 1) := by decide +kernel
theorem dX7_replays_56 : decode cX7_replays 56 = .ok (.aload_n 0, 1) := by decide +kernel
theorem dX7_replays_57 : decode cX7_replays 57 = .ok (.getfield 26, 3) := by decide +kernel
theorem dX7_replays_60 : decode cX7_replays 60 = .ok (.iload_n 2, 1) := by decide +kernel
theorem dX7_replays_61 : decode cX7_replays 61 = .ok (.dup2, 1) := by decide +kernel
theorem dX7_replays_62 : decode cX7_replays 62 = .ok (.iaload, 1) := by decide +kernel
theorem dX7_replays_63 : decode cX7_replays 63 = .ok (.iconst 1, 1) := by decide +kernel
theorem dX7_replays_64 : decode cX7_replays 64 = .ok (.iadd, 1) := by decide +kernel
theorem dX7_replays_65 : decode cX7_replays 65 = .ok (.iastore, 1) := by decide +kernel
theorem dX7_replays_66 : decode cX7_replays 66 = .ok (.aload_n 0, 1) := by decide +kernel
theorem dX7_replays_67 : decode cX7_replays 67 = .ok (.getfield 26, 3) := by decide +kernel
theorem dX7_replays_70 : decode cX7_replays 70 = .ok (.bipush 7, 2) := by decide +kernel
theorem dX7_replays_72 : decode cX7_replays 72 = .ok (.dup2, 1) := by decide +kernel
theorem dX7_replays_73 : decode cX7_replays 73 = .ok (.iaload, 1) := by decide +kernel
theorem dX7_replays_74 : decode cX7_replays 74 = .ok (.iconst 1, 1) := by decide +kernel
theorem dX7_replays_75 : decode cX7_replays 75 = .ok (.iadd, 1) := by decide +kernel
theorem dX7_replays_76 : decode cX7_replays 76 = .ok (.iastore, 1) := by decide +kernel
theorem dX7_replays_77 : decode cX7_replays 77 = .ok (.aload_n 0, 1) := by decide +kernel
theorem dX7_replays_78 : decode cX7_replays 78 = .ok (.getfield 26, 3) := by decide +kernel
theorem dX7_replays_81 : decode cX7_replays 81 = .ok (.bipush 8, 2) := by decide +kernel
theorem dX7_replays_83 : decode cX7_replays 83 = .ok (.iconst 2, 1) := by decide +kernel
theorem dX7_replays_84 : decode cX7_replays 84 = .ok (.aload_n 0, 1) := by decide +kernel
theorem dX7_replays_85 : decode cX7_replays 85 = .ok (.getfield 26, 3) := by decide +kernel
theorem dX7_replays_88 : decode cX7_replays 88 = .ok (.bipush 6, 2) := by decide +kernel
theorem dX7_replays_90 : decode cX7_replays 90 = .ok (.iaload, 1) := by decide +kernel
theorem dX7_replays_91 : decode cX7_replays 91 = .ok (.imul, 1) := by decide +kernel
theorem dX7_replays_92 : decode cX7_replays 92 = .ok (.iadd, 1) := by decide +kernel
theorem dX7_replays_93 : decode cX7_replays 93 = .ok (.iload_n 2, 1) := by decide +kernel
theorem dX7_replays_94 : decode cX7_replays 94 = .ok (.iadd, 1) := by decide +kernel
theorem dX7_replays_95 : decode cX7_replays 95 = .ok (.dup2, 1) := by decide +kernel
theorem dX7_replays_96 : decode cX7_replays 96 = .ok (.iaload, 1) := by decide +kernel
theorem dX7_replays_97 : decode cX7_replays 97 = .ok (.iconst 1, 1) := by decide +kernel
theorem dX7_replays_98 : decode cX7_replays 98 = .ok (.iadd, 1) := by decide +kernel
theorem dX7_replays_99 : decode cX7_replays 99 = .ok (.iastore, 1) := by decide +kernel
theorem dX7_replays_100 : decode cX7_replays 100 = .ok (.aload_n 0, 1) := by decide +kernel
theorem dX7_replays_101 : decode cX7_replays 101 = .ok (.aload_n 0, 1) := by decide +kernel
theorem dX7_replays_102 : decode cX7_replays 102 = .ok (.getfield 7, 3) := by decide +kernel
theorem dX7_replays_105 : decode cX7_replays 105 = .ok (.bipush 6, 2) := by decide +kernel
theorem dX7_replays_107 : decode cX7_replays 107 = .ok (.iaload, 1) := by decide +kernel
theorem dX7_replays_108 : decode cX7_replays 108 = .ok (.aload_n 0, 1) := by decide +kernel
theorem dX7_replays_109 : decode cX7_replays 109 = .ok (.getfield 26, 3) := by decide +kernel
theorem dX7_replays_112 : decode cX7_replays 112 = .ok (.iconst 0, 1) := by decide +kernel
theorem dX7_replays_113 : decode cX7_replays 113 = .ok (.iaload, 1) := by decide +kernel
theorem dX7_replays_114 : decode cX7_replays 114 = .ok (.aload_n 0, 1) := by decide +kernel
theorem dX7_replays_115 : decode cX7_replays 115 = .ok (.getfield 26, 3) := by decide +kernel
theorem dX7_replays_118 : decode cX7_replays 118 = .ok (.iconst 1, 1) := by decide +kernel
theorem dX7_replays_119 : decode cX7_replays 119 = .ok (.iaload, 1) := by decide +kernel
theorem dX7_replays_120 : decode cX7_replays 120 = .ok (.invokevirtual 55, 3) := by decide +kernel
theorem dX7_replays_123 : decode cX7_replays 123 = .ok (.istore_n 3, 1) := by decide +kernel
theorem dX7_replays_124 : decode cX7_replays 124 = .ok (.iload_n 3, 1) := by decide +kernel
theorem dX7_replays_125 : decode cX7_replays 125 = .ok (.ifCond .le 10, 3) := by decide +kernel
theorem dX7_replays_128 : decode cX7_replays 128 = .ok (.aload_n 0, 1) := by decide +kernel
theorem dX7_replays_129 : decode cX7_replays 129 = .ok (.iload_n 3, 1) := by decide +kernel
theorem dX7_replays_130 : decode cX7_replays 130 = .ok (.iconst 1, 1) := by decide +kernel
theorem dX7_replays_131 : decode cX7_replays 131 = .ok (.isub, 1) := by decide +kernel
theorem dX7_replays_132 : decode cX7_replays 132 = .ok (.invokevirtual 109, 3) := by decide +kernel
theorem dX7_replays_135 : decode cX7_replays 135 = .ok (.iinc 1 1, 3) := by decide +kernel
theorem dX7_replays_138 : decode cX7_replays 138 = .ok (.goto (-97), 3) := by decide +kernel
theorem dX7_replays_141 : decode cX7_replays 141 = .ok (.return_, 1) := by decide +kernel
set_option maxRecDepth 20000 in
theorem ggX7_point_X7_in : GoodIn wsX7_point wsX7_in := goodIn_r _ [8] (by decide +kernel) (by decide +kernel)
set_option maxRecDepth 20000 in
theorem gX7_point_X7_in : GoodIn wsX7_point (va_wsS RX7 36 yX7_in wsX7_in) := goodIn_app (goodIn_of _ (by decide +kernel)) ggX7_point_X7_in
set_option maxRecDepth 20000 in
theorem ggX7_point_X7_replays : GoodIn wsX7_point wsX7_replays := goodIn_r _ [12, 2, 13, 3, 4, 14, 15, 16, 17, 7, 18, 19, 20, 21, 22, 23, 24, 25, 26, 27, 28, 29, 30, 31, 32, 33, 34, 35, 36, 37] (by decide +kernel) (by decide +kernel)
set_option maxRecDepth 20000 in
theorem gX7_point_X7_replays : GoodIn wsX7_point (wsV RX7 29 RX7 yX7_replays wsX7_replays) := goodIn_app (goodIn_of _ (by decide +kernel)) ggX7_point_X7_replays
theorem dX7_point_0 : decode cX7_point 0 = .ok (.aload_n 0, 1) := by decide +kernel
theorem dX7_point_1 : decode cX7_point 1 = .ok (.iconst 0, 1) := by decide +kernel
theorem dX7_point_2 : decode cX7_point 2 = .ok (.putfield 32, 3) := by decide +kernel
theorem dX7_point_5 : decode cX7_point 5 = .ok (.iload_n 1, 1) := by decide +kernel
theorem dX7_point_6 : decode cX7_point 6 = .ok (.iconst 0, 1) := by decide +kernel
theorem dX7_point_7 : decode cX7_point 7 = .ok (.iconst 1, 1) := by decide +kernel
theorem dX7_point_8 : decode cX7_point 8 = .ok (.invokestatic 36, 3) := by decide +kernel
theorem dX7_point_11 : decode cX7_point 11 = .ok (.ifCond .ne 5, 3) := by decide +kernel
theorem dX7_point_14 : decode cX7_point 14 = .ok (.iconst (-1), 1) := by decide +kernel
theorem dX7_point_15 : decode cX7_point 15 = .ok (.ireturn, 1) := by decide +kernel
theorem dX7_point_16 : decode cX7_point 16 = .ok (.aload_n 0, 1) := by decide +kernel
theorem dX7_point_17 : decode cX7_point 17 = .ok (.getfield 26, 3) := by decide +kernel
theorem dX7_point_20 : decode cX7_point 20 = .ok (.bipush 12, 2) := by decide +kernel
theorem dX7_point_22 : decode cX7_point 22 = .ok (.iaload, 1) := by decide +kernel
theorem dX7_point_23 : decode cX7_point 23 = .ok (.bipush (-9), 2) := by decide +kernel
theorem dX7_point_25 : decode cX7_point 25 = .ok (.if_icmp .eq 6, 3) := by decide +kernel
theorem dX7_point_28 : decode cX7_point 28 = .ok (.bipush (-2), 2) := by decide +kernel
theorem dX7_point_30 : decode cX7_point 30 = .ok (.ireturn, 1) := by decide +kernel
theorem dX7_point_31 : decode cX7_point 31 = .ok (.aload_n 0, 1) := by decide +kernel
theorem dX7_point_32 : decode cX7_point 32 = .ok (.getfield 44, 3) := by decide +kernel
theorem dX7_point_35 : decode cX7_point 35 = .ok (.sipush 400, 3) := by decide +kernel
theorem dX7_point_38 : decode cX7_point 38 = .ok (.if_icmp .ne 6, 3) := by decide +kernel
theorem dX7_point_41 : decode cX7_point 41 = .ok (.bipush (-3), 2) := by decide +kernel
theorem dX7_point_43 : decode cX7_point 43 = .ok (.ireturn, 1) := by decide +kernel
theorem dX7_point_44 : decode cX7_point 44 = .ok (.aload_n 0, 1) := by decide +kernel
theorem dX7_point_45 : decode cX7_point 45 = .ok (.getfield 13, 3) := by decide +kernel
theorem dX7_point_48 : decode cX7_point 48 = .ok (.aload_n 0, 1) := by decide +kernel
theorem dX7_point_49 : decode cX7_point 49 = .ok (.getfield 44, 3) := by decide +kernel
theorem dX7_point_52 : decode cX7_point 52 = .ok (.iload_n 1, 1) := by decide +kernel
theorem dX7_point_53 : decode cX7_point 53 = .ok (.iastore, 1) := by decide +kernel
theorem dX7_point_54 : decode cX7_point 54 = .ok (.aload_n 0, 1) := by decide +kernel
theorem dX7_point_55 : decode cX7_point 55 = .ok (.dup, 1) := by decide +kernel
theorem dX7_point_56 : decode cX7_point 56 = .ok (.getfield 44, 3) := by decide +kernel
theorem dX7_point_59 : decode cX7_point 59 = .ok (.iconst 1, 1) := by decide +kernel
theorem dX7_point_60 : decode cX7_point 60 = .ok (.iadd, 1) := by decide +kernel
theorem dX7_point_61 : decode cX7_point 61 = .ok (.putfield 44, 3) := by decide +kernel
theorem dX7_point_64 : decode cX7_point 64 = .ok (.aload_n 0, 1) := by decide +kernel
theorem dX7_point_65 : decode cX7_point 65 = .ok (.invokevirtual 29, 3) := by decide +kernel
theorem dX7_point_68 : decode cX7_point 68 = .ok (.aload_n 0, 1) := by decide +kernel
theorem dX7_point_69 : decode cX7_point 69 = .ok (.getfield 44, 3) := by decide +kernel
theorem dX7_point_72 : decode cX7_point 72 = .ok (.ireturn, 1) := by decide +kernel
set_option maxRecDepth 20000 in
theorem ggX7_back_X7_in : GoodIn wsX7_back wsX7_in := goodIn_r _ [6] (by decide +kernel) (by decide +kernel)
set_option maxRecDepth 20000 in
theorem gX7_back_X7_in : GoodIn wsX7_back (va_wsS RX7 36 yX7_in wsX7_in) := goodIn_app (goodIn_of _ (by decide +kernel)) ggX7_back_X7_in
set_option maxRecDepth 20000 in
theorem ggX7_back_X7_replays : GoodIn wsX7_back wsX7_replays := goodIn_r _ [10, 11, 12, 2, 13, 14, 15, 16, 17, 5, 18, 19, 20, 21, 22, 23, 24, 25, 26, 27, 28, 29, 30, 31, 32, 33, 34, 35, 36, 37] (by decide +kernel) (by decide +kernel)
set_option maxRecDepth 20000 in
theorem gX7_back_X7_replays : GoodIn wsX7_back (wsV RX7 29 RX7 yX7_replays wsX7_replays) := goodIn_app (goodIn_of _ (by decide +kernel)) ggX7_back_X7_replays
theorem dX7_back_0 : decode cX7_back 0 = .ok (.aload_n 0, 1) := by decide +kernel
theorem dX7_back_1 : decode cX7_back 1 = .ok (.iconst 0, 1) := by decide +kernel
theorem dX7_back_2 : decode cX7_back 2 = .ok (.putfield 32, 3) := by decide +kernel
theorem dX7_back_5 : decode cX7_back 5 = .ok (.iload_n 1, 1) := by decide +kernel
theorem dX7_back_6 : decode cX7_back 6 = .ok (.iconst 1, 1) := by decide +kernel
theorem dX7_back_7 : decode cX7_back 7 = .ok (.sipush 400, 3) := by decide +kernel
theorem dX7_back_10 : decode cX7_back 10 = .ok (.invokestatic 36, 3) := by decide +kernel
theorem dX7_back_13 : decode cX7_back 13 = .ok (.ifCond .ne 5, 3) := by decide +kernel
theorem dX7_back_16 : decode cX7_back 16 = .ok (.iconst (-1), 1) := by decide +kernel
theorem dX7_back_17 : decode cX7_back 17 = .ok (.ireturn, 1) := by decide +kernel
theorem dX7_back_18 : decode cX7_back 18 = .ok (.iload_n 1, 1) := by decide +kernel
theorem dX7_back_19 : decode cX7_back 19 = .ok (.aload_n 0, 1) := by decide +kernel
theorem dX7_back_20 : decode cX7_back 20 = .ok (.getfield 44, 3) := by decide +kernel
theorem dX7_back_23 : decode cX7_back 23 = .ok (.if_icmp .ge 7, 3) := by decide +kernel
theorem dX7_back_26 : decode cX7_back 26 = .ok (.iload_n 1, 1) := by decide +kernel
theorem dX7_back_27 : decode cX7_back 27 = .ok (.goto 7, 3) := by decide +kernel
theorem dX7_back_30 : decode cX7_back 30 = .ok (.aload_n 0, 1) := by decide +kernel
theorem dX7_back_31 : decode cX7_back 31 = .ok (.getfield 44, 3) := by decide +kernel
theorem dX7_back_34 : decode cX7_back 34 = .ok (.istore_n 2, 1) := by decide +kernel
theorem dX7_back_35 : decode cX7_back 35 = .ok (.aload_n 0, 1) := by decide +kernel
theorem dX7_back_36 : decode cX7_back 36 = .ok (.dup, 1) := by decide +kernel
theorem dX7_back_37 : decode cX7_back 37 = .ok (.getfield 44, 3) := by decide +kernel
theorem dX7_back_40 : decode cX7_back 40 = .ok (.iload_n 2, 1) := by decide +kernel
theorem dX7_back_41 : decode cX7_back 41 = .ok (.isub, 1) := by decide +kernel
theorem dX7_back_42 : decode cX7_back 42 = .ok (.putfield 44, 3) := by decide +kernel
theorem dX7_back_45 : decode cX7_back 45 = .ok (.aload_n 0, 1) := by decide +kernel
theorem dX7_back_46 : decode cX7_back 46 = .ok (.invokevirtual 29, 3) := by decide +kernel
theorem dX7_back_49 : decode cX7_back 49 = .ok (.iload_n 2, 1) := by decide +kernel
theorem dX7_back_50 : decode cX7_back 50 = .ok (.ireturn, 1) := by decide +kernel
set_option maxRecDepth 20000 in
theorem ggX7_score_X7_in : GoodIn wsX7_score wsX7_in := goodIn_r _ [6] (by decide +kernel) (by decide +kernel)
set_option maxRecDepth 20000 in
theorem gX7_score_X7_in : GoodIn wsX7_score (va_wsS RX7 36 yX7_in wsX7_in) := goodIn_app (goodIn_of _ (by decide +kernel)) ggX7_score_X7_in
theorem dX7_score_0 : decode cX7_score 0 = .ok (.aload_n 0, 1) := by decide +kernel
theorem dX7_score_1 : decode cX7_score 1 = .ok (.iconst 0, 1) := by decide +kernel
theorem dX7_score_2 : decode cX7_score 2 = .ok (.putfield 32, 3) := by decide +kernel
theorem dX7_score_5 : decode cX7_score 5 = .ok (.iload_n 1, 1) := by decide +kernel
theorem dX7_score_6 : decode cX7_score 6 = .ok (.iconst 0, 1) := by decide +kernel
theorem dX7_score_7 : decode cX7_score 7 = .ok (.bipush 12, 2) := by decide +kernel
theorem dX7_score_9 : decode cX7_score 9 = .ok (.invokestatic 36, 3) := by decide +kernel
theorem dX7_score_12 : decode cX7_score 12 = .ok (.ifCond .eq 12, 3) := by decide +kernel
theorem dX7_score_15 : decode cX7_score 15 = .ok (.aload_n 0, 1) := by decide +kernel
theorem dX7_score_16 : decode cX7_score 16 = .ok (.getfield 26, 3) := by decide +kernel
theorem dX7_score_19 : decode cX7_score 19 = .ok (.iload_n 1, 1) := by decide +kernel
theorem dX7_score_20 : decode cX7_score 20 = .ok (.iaload, 1) := by decide +kernel
theorem dX7_score_21 : decode cX7_score 21 = .ok (.goto 4, 3) := by decide +kernel
theorem dX7_score_24 : decode cX7_score 24 = .ok (.iconst (-1), 1) := by decide +kernel
theorem dX7_score_25 : decode cX7_score 25 = .ok (.ireturn, 1) := by decide +kernel
set_option maxRecDepth 20000 in
theorem ggX7_likeliest_X7_in : GoodIn wsX7_likeliest wsX7_in := goodIn_r _ [5] (by decide +kernel) (by decide +kernel)
set_option maxRecDepth 20000 in
theorem gX7_likeliest_X7_in : GoodIn wsX7_likeliest (va_wsS RX7 36 yX7_in wsX7_in) := goodIn_app (goodIn_of _ (by decide +kernel)) ggX7_likeliest_X7_in
theorem dX7_likeliest_0 : decode cX7_likeliest 0 = .ok (.aload_n 0, 1) := by decide +kernel
theorem dX7_likeliest_1 : decode cX7_likeliest 1 = .ok (.iconst 0, 1) := by decide +kernel
theorem dX7_likeliest_2 : decode cX7_likeliest 2 = .ok (.putfield 32, 3) := by decide +kernel
theorem dX7_likeliest_5 : decode cX7_likeliest 5 = .ok (.iload_n 1, 1) := by decide +kernel
theorem dX7_likeliest_6 : decode cX7_likeliest 6 = .ok (.iconst 0, 1) := by decide +kernel
theorem dX7_likeliest_7 : decode cX7_likeliest 7 = .ok (.bipush 18, 2) := by decide +kernel
theorem dX7_likeliest_9 : decode cX7_likeliest 9 = .ok (.invokestatic 36, 3) := by decide +kernel
theorem dX7_likeliest_12 : decode cX7_likeliest 12 = .ok (.ifCond .eq 21, 3) := by decide +kernel
theorem dX7_likeliest_15 : decode cX7_likeliest 15 = .ok (.iload_n 2, 1) := by decide +kernel
theorem dX7_likeliest_16 : decode cX7_likeliest 16 = .ok (.iconst 0, 1) := by decide +kernel
theorem dX7_likeliest_17 : decode cX7_likeliest 17 = .ok (.bipush 18, 2) := by decide +kernel
theorem dX7_likeliest_19 : decode cX7_likeliest 19 = .ok (.invokestatic 36, 3) := by decide +kernel
theorem dX7_likeliest_22 : decode cX7_likeliest 22 = .ok (.ifCond .eq 11, 3) := by decide +kernel
theorem dX7_likeliest_25 : decode cX7_likeliest 25 = .ok (.iload_n 1, 1) := by decide +kernel
theorem dX7_likeliest_26 : decode cX7_likeliest 26 = .ok (.iload_n 2, 1) := by decide +kernel
theorem dX7_likeliest_27 : decode cX7_likeliest 27 = .ok (.iadd, 1) := by decide +kernel
theorem dX7_likeliest_28 : decode cX7_likeliest 28 = .ok (.bipush 18, 2) := by decide +kernel
theorem dX7_likeliest_30 : decode cX7_likeliest 30 = .ok (.if_icmp .le 5, 3) := by decide +kernel
theorem dX7_likeliest_33 : decode cX7_likeliest 33 = .ok (.iconst (-1), 1) := by decide +kernel
theorem dX7_likeliest_34 : decode cX7_likeliest 34 = .ok (.ireturn, 1) := by decide +kernel
theorem dX7_likeliest_35 : decode cX7_likeliest 35 = .ok (.iconst 0, 1) := by decide +kernel
theorem dX7_likeliest_36 : decode cX7_likeliest 36 = .ok (.istore_n 3, 1) := by decide +kernel
theorem dX7_likeliest_37 : decode cX7_likeliest 37 = .ok (.lconst 0, 1) := by decide +kernel
theorem dX7_likeliest_38 : decode cX7_likeliest 38 = .ok (.lstore 4, 2) := by decide +kernel
theorem dX7_likeliest_40 : decode cX7_likeliest 40 = .ok (.iconst 1, 1) := by decide +kernel
theorem dX7_likeliest_41 : decode cX7_likeliest 41 = .ok (.istore 6, 2) := by decide +kernel
theorem dX7_likeliest_43 : decode cX7_likeliest 43 = .ok (.iload 6, 2) := by decide +kernel
theorem dX7_likeliest_45 : decode cX7_likeliest 45 = .ok (.bipush 10, 2) := by decide +kernel
theorem dX7_likeliest_47 : decode cX7_likeliest 47 = .ok (.if_icmp .ge 76, 3) := by decide +kernel
theorem dX7_likeliest_50 : decode cX7_likeliest 50 = .ok (.lconst 1, 1) := by decide +kernel
theorem dX7_likeliest_51 : decode cX7_likeliest 51 = .ok (.lstore 7, 2) := by decide +kernel
theorem dX7_likeliest_53 : decode cX7_likeliest 53 = .ok (.iconst 0, 1) := by decide +kernel
theorem dX7_likeliest_54 : decode cX7_likeliest 54 = .ok (.istore 9, 2) := by decide +kernel
theorem dX7_likeliest_56 : decode cX7_likeliest 56 = .ok (.iload 9, 2) := by decide +kernel
theorem dX7_likeliest_58 : decode cX7_likeliest 58 = .ok (.iload_n 1, 1) := by decide +kernel
theorem dX7_likeliest_59 : decode cX7_likeliest 59 = .ok (.if_icmp .ge 17, 3) := by decide +kernel
theorem dX7_likeliest_62 : decode cX7_likeliest 62 = .ok (.lload 7, 2) := by decide +kernel
theorem dX7_likeliest_64 : decode cX7_likeliest 64 = .ok (.iload 6, 2) := by decide +kernel
theorem dX7_likeliest_66 : decode cX7_likeliest 66 = .ok (.i2l, 1) := by decide +kernel
theorem dX7_likeliest_67 : decode cX7_likeliest 67 = .ok (.lmul, 1) := by decide +kernel
theorem dX7_likeliest_68 : decode cX7_likeliest 68 = .ok (.lstore 7, 2) := by decide +kernel
theorem dX7_likeliest_70 : decode cX7_likeliest 70 = .ok (.iinc 9 1, 3) := by decide +kernel
theorem dX7_likeliest_73 : decode cX7_likeliest 73 = .ok (.goto (-17), 3) := by decide +kernel
theorem dX7_likeliest_76 : decode cX7_likeliest 76 = .ok (.iconst 0, 1) := by decide +kernel
theorem dX7_likeliest_77 : decode cX7_likeliest 77 = .ok (.istore 9, 2) := by decide +kernel
theorem dX7_likeliest_79 : decode cX7_likeliest 79 = .ok (.iload 9, 2) := by decide +kernel
theorem dX7_likeliest_81 : decode cX7_likeliest 81 = .ok (.iload_n 2, 1) := by decide +kernel
theorem dX7_likeliest_82 : decode cX7_likeliest 82 = .ok (.if_icmp .ge 20, 3) := by decide +kernel
theorem dX7_likeliest_85 : decode cX7_likeliest 85 = .ok (.lload 7, 2) := by decide +kernel
theorem dX7_likeliest_87 : decode cX7_likeliest 87 = .ok (.bipush 10, 2) := by decide +kernel
theorem dX7_likeliest_89 : decode cX7_likeliest 89 = .ok (.iload 6, 2) := by decide +kernel
theorem dX7_likeliest_91 : decode cX7_likeliest 91 = .ok (.isub, 1) := by decide +kernel
theorem dX7_likeliest_92 : decode cX7_likeliest 92 = .ok (.i2l, 1) := by decide +kernel
theorem dX7_likeliest_93 : decode cX7_likeliest 93 = .ok (.lmul, 1) := by decide +kernel
theorem dX7_likeliest_94 : decode cX7_likeliest 94 = .ok (.lstore 7, 2) := by decide +kernel
theorem dX7_likeliest_96 : decode cX7_likeliest 96 = .ok (.iinc 9 1, 3) := by decide +kernel
theorem dX7_likeliest_99 : decode cX7_likeliest 99 = .ok (.goto (-20), 3) := by decide +kernel
theorem dX7_likeliest_102 : decode cX7_likeliest 102 = .ok (.lload 7, 2) := by decide +kernel
theorem dX7_likeliest_104 : decode cX7_likeliest 104 = .ok (.lload 4, 2) := by decide +kernel
theorem dX7_likeliest_106 : decode cX7_likeliest 106 = .ok (.lcmp, 1) := by decide +kernel
theorem dX7_likeliest_107 : decode cX7_likeliest 107 = .ok (.ifCond .le 10, 3) := by decide +kernel
theorem dX7_likeliest_110 : decode cX7_likeliest 110 = .ok (.lload 7, 2) := by decide +kernel
theorem dX7_likeliest_112 : decode cX7_likeliest 112 = .ok (.lstore 4, 2) := by decide +kernel
theorem dX7_likeliest_114 : decode cX7_likeliest 114 = .ok (.iload 6, 2) := by decide +kernel
theorem dX7_likeliest_116 : decode cX7_likeliest 116 = .ok (.istore_n 3, 1) := by decide +kernel
theorem dX7_likeliest_117 : decode cX7_likeliest 117 = .ok (.iinc 6 1, 3) := by decide +kernel
theorem dX7_likeliest_120 : decode cX7_likeliest 120 = .ok (.goto (-77), 3) := by decide +kernel
theorem dX7_likeliest_123 : decode cX7_likeliest 123 = .ok (.iload_n 3, 1) := by decide +kernel
theorem dX7_likeliest_124 : decode cX7_likeliest 124 = .ok (.ireturn, 1) := by decide +kernel
set_option maxRecDepth 20000 in
theorem ggX7_count_X7_in : GoodIn wsX7_count wsX7_in := goodIn_r _ [6] (by decide +kernel) (by decide +kernel)
set_option maxRecDepth 20000 in
theorem gX7_count_X7_in : GoodIn wsX7_count (va_wsS RX7 36 yX7_in wsX7_in) := goodIn_app (goodIn_of _ (by decide +kernel)) ggX7_count_X7_in
theorem dX7_count_0 : decode cX7_count 0 = .ok (.aload_n 0, 1) := by decide +kernel
theorem dX7_count_1 : decode cX7_count 1 = .ok (.iconst 0, 1) := by decide +kernel
theorem dX7_count_2 : decode cX7_count 2 = .ok (.putfield 32, 3) := by decide +kernel
theorem dX7_count_5 : decode cX7_count 5 = .ok (.iload_n 1, 1) := by decide +kernel
theorem dX7_count_6 : decode cX7_count 6 = .ok (.iconst 0, 1) := by decide +kernel
theorem dX7_count_7 : decode cX7_count 7 = .ok (.bipush 6, 2) := by decide +kernel
theorem dX7_count_9 : decode cX7_count 9 = .ok (.invokestatic 36, 3) := by decide +kernel
theorem dX7_count_12 : decode cX7_count 12 = .ok (.ifCond .eq 12, 3) := by decide +kernel
theorem dX7_count_15 : decode cX7_count 15 = .ok (.aload_n 0, 1) := by decide +kernel
theorem dX7_count_16 : decode cX7_count 16 = .ok (.getfield 7, 3) := by decide +kernel
theorem dX7_count_19 : decode cX7_count 19 = .ok (.iload_n 1, 1) := by decide +kernel
theorem dX7_count_20 : decode cX7_count 20 = .ok (.iaload, 1) := by decide +kernel
theorem dX7_count_21 : decode cX7_count 21 = .ok (.goto 4, 3) := by decide +kernel
theorem dX7_count_24 : decode cX7_count 24 = .ok (.iconst (-1), 1) := by decide +kernel
theorem dX7_count_25 : decode cX7_count 25 = .ok (.ireturn, 1) := by decide +kernel
theorem dX7_trace_0 : decode cX7_trace 0 = .ok (.aload_n 0, 1) := by decide +kernel
theorem dX7_trace_1 : decode cX7_trace 1 = .ok (.iconst 0, 1) := by decide +kernel
theorem dX7_trace_2 : decode cX7_trace 2 = .ok (.putfield 32, 3) := by decide +kernel
theorem dX7_trace_5 : decode cX7_trace 5 = .ok (.aload_n 0, 1) := by decide +kernel
theorem dX7_trace_6 : decode cX7_trace 6 = .ok (.getfield 47, 3) := by decide +kernel
theorem dX7_trace_9 : decode cX7_trace 9 = .ok (.lreturn, 1) := by decide +kernel
theorem dJ9_abs_0f7a4_0 : decode cJ9_abs_0f7a4 0 = .ok (.iload_n 0, 1) := by decide +kernel
theorem dJ9_abs_0f7a4_1 : decode cJ9_abs_0f7a4 1 = .ok (.ifCond .ge 8, 3) := by decide +kernel
theorem dJ9_abs_0f7a4_4 : decode cJ9_abs_0f7a4 4 = .ok (.iload_n 0, 1) := by decide +kernel
theorem dJ9_abs_0f7a4_5 : decode cJ9_abs_0f7a4 5 = .ok (.ineg, 1) := by decide +kernel
theorem dJ9_abs_0f7a4_6 : decode cJ9_abs_0f7a4 6 = .ok (.goto 4, 3) := by decide +kernel
theorem dJ9_abs_0f7a4_9 : decode cJ9_abs_0f7a4 9 = .ok (.iload_n 0, 1) := by decide +kernel
theorem dJ9_abs_0f7a4_10 : decode cJ9_abs_0f7a4 10 = .ok (.ireturn, 1) := by decide +kernel
theorem dJ9_max_7cf53_0 : decode cJ9_max_7cf53 0 = .ok (.iload_n 0, 1) := by decide +kernel
theorem dJ9_max_7cf53_1 : decode cJ9_max_7cf53 1 = .ok (.iload_n 1, 1) := by decide +kernel
theorem dJ9_max_7cf53_2 : decode cJ9_max_7cf53 2 = .ok (.if_icmp .lt 7, 3) := by decide +kernel
theorem dJ9_max_7cf53_5 : decode cJ9_max_7cf53 5 = .ok (.iload_n 0, 1) := by decide +kernel
theorem dJ9_max_7cf53_6 : decode cJ9_max_7cf53 6 = .ok (.goto 4, 3) := by decide +kernel
theorem dJ9_max_7cf53_9 : decode cJ9_max_7cf53 9 = .ok (.iload_n 1, 1) := by decide +kernel
theorem dJ9_max_7cf53_10 : decode cJ9_max_7cf53 10 = .ok (.ireturn, 1) := by decide +kernel
theorem dJ9_min_7cf53_0 : decode cJ9_min_7cf53 0 = .ok (.iload_n 0, 1) := by decide +kernel
theorem dJ9_min_7cf53_1 : decode cJ9_min_7cf53 1 = .ok (.iload_n 1, 1) := by decide +kernel
theorem dJ9_min_7cf53_2 : decode cJ9_min_7cf53 2 = .ok (.if_icmp .gt 7, 3) := by decide +kernel
theorem dJ9_min_7cf53_5 : decode cJ9_min_7cf53 5 = .ok (.iload_n 0, 1) := by decide +kernel
theorem dJ9_min_7cf53_6 : decode cJ9_min_7cf53 6 = .ok (.goto 4, 3) := by decide +kernel
theorem dJ9_min_7cf53_9 : decode cJ9_min_7cf53 9 = .ok (.iload_n 1, 1) := by decide +kernel
theorem dJ9_min_7cf53_10 : decode cJ9_min_7cf53 10 = .ok (.ireturn, 1) := by decide +kernel
