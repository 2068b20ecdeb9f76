theorem dX7_winsGame_104 : decode cX7_winsGame 104 = .ok (.iastore, 1) := by decide +kernel
theorem dX7_winsGame_105 : decode cX7_winsGame 105 = .ok (.aload_n 0, 1) := by decide +kernel
theorem dX7_winsGame_106 : decode cX7_winsGame 106 = .ok (.iconst 1, 1) := by decide +kernel
theorem dX7_winsGame_107 : decode cX7_winsGame 107 = .ok (.aload_n 0, 1) := by decide +kernel
theorem dX7_winsGame_108 : decode cX7_winsGame 108 = .ok (.getfield 103, 3) := by decide +kernel
theorem dX7_winsGame_111 : decode cX7_winsGame 111 = .ok (.isub, 1) := by decide +kernel
theorem dX7_winsGame_112 : decode cX7_winsGame 112 = .ok (.putfield 103, 3) := by decide +kernel
theorem dX7_winsGame_115 : decode cX7_winsGame 115 = .ok (.aload_n 0, 1) := by decide +kernel
theorem dX7_winsGame_116 : decode cX7_winsGame 116 = .ok (.getfield 26, 3) := by decide +kernel
theorem dX7_winsGame_119 : decode cX7_winsGame 119 = .ok (.bipush 6, 2) := by decide +kernel
theorem dX7_winsGame_121 : decode cX7_winsGame 121 = .ok (.aload_n 0, 1) := by decide +kernel
theorem dX7_winsGame_122 : decode cX7_winsGame 122 = .ok (.getfield 103, 3) := by decide +kernel
theorem dX7_winsGame_125 : decode cX7_winsGame 125 = .ok (.iastore, 1) := by decide +kernel
theorem dX7_winsGame_126 : decode cX7_winsGame 126 = .ok (.aload_n 0, 1) := by decide +kernel
theorem dX7_winsGame_127 : decode cX7_winsGame 127 = .ok (.getfield 26, 3) := by decide +kernel
theorem dX7_winsGame_130 : decode cX7_winsGame 130 = .ok (.bipush 12, 2) := by decide +kernel
theorem dX7_winsGame_132 : decode cX7_winsGame 132 = .ok (.aload_n 0, 1) := by decide +kernel
theorem dX7_winsGame_133 : decode cX7_winsGame 133 = .ok (.getfield 26, 3) := by decide +kernel
theorem dX7_winsGame_136 : decode cX7_winsGame 136 = .ok (.iconst 4, 1) := by decide +kernel
theorem dX7_winsGame_137 : decode cX7_winsGame 137 = .ok (.iload_n 1, 1) := by decide +kernel
theorem dX7_winsGame_138 : decode cX7_winsGame 138 = .ok (.iadd, 1) := by decide +kernel
theorem dX7_winsGame_139 : decode cX7_winsGame 139 = .ok (.iaload, 1) := by decide +kernel
theorem dX7_winsGame_140 : decode cX7_winsGame 140 = .ok (.aload_n 0, 1) := by decide +kernel
theorem dX7_winsGame_141 : decode cX7_winsGame 141 = .ok (.getfield 7, 3) := by decide +kernel
theorem dX7_winsGame_144 : decode cX7_winsGame 144 = .ok (.iconst 4, 1) := by decide +kernel
theorem dX7_winsGame_145 : decode cX7_winsGame 145 = .ok (.iaload, 1) := by decide +kernel
theorem dX7_winsGame_146 : decode cX7_winsGame 146 = .ok (.if_icmp .ne 7, 3) := by decide +kernel
theorem dX7_winsGame_149 : decode cX7_winsGame 149 = .ok (.iload_n 1, 1) := by decide +kernel
theorem dX7_winsGame_150 : decode cX7_winsGame 150 = .ok (.goto 5, 3) := by decide +kernel
theorem dX7_winsGame_153 : decode cX7_winsGame 153 = .ok (.bipush (-9), 2) := by decide +kernel
theorem dX7_winsGame_155 : decode cX7_winsGame 155 = .ok (.iastore, 1) := by decide +kernel
theorem dX7_winsGame_156 : decode cX7_winsGame 156 = .ok (.aload_n 0, 1) := by decide +kernel
theorem dX7_winsGame_157 : decode cX7_winsGame 157 = .ok (.invokevirtual 106, 3) := by decide +kernel
theorem dX7_winsGame_160 : decode cX7_winsGame 160 = .ok (.return_, 1) := by decide +kernel
set_option maxRecDepth 20000 in
theorem ggX7_replays_X7_beginsGame : GoodIn wsX7_replays wsX7_beginsGame := goodIn_r _ [10, 1, 5, 19, 20, 21, 22, 23, 24, 25, 26, 27, 28, 29] (by decide +kernel) (by decide +kernel)
set_option maxRecDepth 20000 in
theorem gX7_replays_X7_beginsGame : GoodIn wsX7_replays (wsV RX7 106 RX7 yX7_beginsGame wsX7_beginsGame) := goodIn_app (goodIn_of _ (by decide +kernel)) ggX7_replays_X7_beginsGame
set_option maxRecDepth 20000 in
theorem ggX7_replays_X7_wonOf : GoodIn wsX7_replays wsX7_wonOf := goodIn_r _ [14, 5, 19, 20, 21, 22, 23, 24, 25, 26, 27, 28, 29] (by decide +kernel) (by decide +kernel)
set_option maxRecDepth 20000 in
theorem gX7_replays_X7_wonOf : GoodIn wsX7_replays (wsV RX7 55 RX7 yX7_wonOf wsX7_wonOf) := goodIn_app (goodIn_of _ (by decide +kernel)) ggX7_replays_X7_wonOf
set_option maxRecDepth 20000 in
theorem ggX7_replays_X7_winsGame : GoodIn wsX7_replays wsX7_winsGame := goodIn_r _ [18, 5, 1, 2, 6, 7, 8, 9, 10, 19, 20, 21, 22, 23, 24, 25, 26, 27, 28, 29] (by decide +kernel) (by decide +kernel)
set_option maxRecDepth 20000 in
theorem gX7_replays_X7_winsGame : GoodIn wsX7_replays (wsV RX7 109 RX7 yX7_winsGame wsX7_winsGame) := goodIn_app (goodIn_of _ (by decide +kernel)) ggX7_replays_X7_winsGame
theorem dX7_replays_0 : decode cX7_replays 0 = .ok (.iconst 0, 1) := by decide +kernel
theorem dX7_replays_1 : decode cX7_replays 1 = .ok (.istore_n 1, 1) := by decide +kernel
theorem dX7_replays_2 : decode cX7_replays 2 = .ok (.iload_n 1, 1) := by decide +kernel
theorem dX7_replays_3 : decode cX7_replays 3 = .ok (.bipush 12, 2) := by decide +kernel
theorem dX7_replays_5 : decode cX7_replays 5 = .ok (.if_icmp .ge 16, 3) := by decide +kernel
theorem dX7_replays_8 : decode cX7_replays 8 = .ok (.aload_n 0, 1) := by decide +kernel
theorem dX7_replays_9 : decode cX7_replays 9 = .ok (.getfield 26, 3) := by decide +kernel
theorem dX7_replays_12 : decode cX7_replays 12 = .ok (.iload_n 1, 1) := by decide +kernel
theorem dX7_replays_13 : decode cX7_replays 13 = .ok (.iconst 0, 1) := by decide +kernel
theorem dX7_replays_14 : decode cX7_replays 14 = .ok (.iastore, 1) := by decide +kernel
theorem dX7_replays_15 : decode cX7_replays 15 = .ok (.iinc 1 1, 3) := by decide +kernel
theorem dX7_replays_18 : decode cX7_replays 18 = .ok (.goto (-16), 3) := by decide +kernel
theorem dX7_replays_21 : decode cX7_replays 21 = .ok (.aload_n 0, 1) := by decide +kernel
theorem dX7_replays_22 : decode cX7_replays 22 = .ok (.getfield 26, 3) := by decide +kernel
theorem dX7_replays_25 : decode cX7_replays 25 = .ok (.bipush 12, 2) := by decide +kernel
theorem dX7_replays_27 : decode cX7_replays 27 = .ok (.bipush (-9), 2) := by decide +kernel
theorem dX7_replays_29 : decode cX7_replays 29 = .ok (.iastore, 1) := by decide +kernel
theorem dX7_replays_30 : decode cX7_replays 30 = .ok (.aload_n 0, 1) := by decide +kernel
theorem dX7_replays_31 : decode cX7_replays 31 = .ok (.iconst 0, 1) := by decide +kernel
theorem dX7_replays_32 : decode cX7_replays 32 = .ok (.putfield 103, 3) := by decide +kernel
theorem dX7_replays_35 : decode cX7_replays 35 = .ok (.aload_n 0, 1) := by decide +kernel
theorem dX7_replays_36 : decode cX7_replays 36 = .ok (.invokevirtual 106, 3) := by decide +kernel
theorem dX7_replays_39 : decode cX7_replays 39 = .ok (.iconst 0, 1) := by decide +kernel
theorem dX7_replays_40 : decode cX7_replays 40 = .ok (.istore_n 1, 1) := by decide +kernel
theorem dX7_replays_41 : decode cX7_replays 41 = .ok (.iload_n 1, 1) := by decide +kernel
theorem dX7_replays_42 : decode cX7_replays 42 = .ok (.aload_n 0, 1) := by decide +kernel
theorem dX7_replays_43 : decode cX7_replays 43 = .ok (.getfield 44, 3) := by decide +kernel
theorem dX7_replays_46 : decode cX7_replays 46 = .ok (.if_icmp .ge 95, 3) := by decide +kernel
theorem dX7_replays_49 : decode cX7_replays 49 = .ok (.aload_n 0, 1) := by decide +kernel
theorem dX7_replays_50 : decode cX7_replays 50 = .ok (.getfield 13, 3) := by decide +kernel
theorem dX7_replays_53 : decode cX7_replays 53 = .ok (.iload_n 1, 1) := by decide +kernel
theorem dX7_replays_54 : decode cX7_replays 54 = .ok (.iaload, 1) := by decide +kernel
theorem dX7_replays_55 : decode cX7_replays 55 = .ok (.istore_n 2, 1) := by decide +kernel
theorem dX7_replays_56 : decode cX7_replays 56 = .ok (.aload_n 0, 1) := by decide +kernel
theorem dX7_replays_57 : decode cX7_replays 57 = .ok (.getfield 26, 3) := by decide +kernel
theorem dX7_replays_60 : decode cX7_replays 60 = .ok (.iload_n 2, 1) := by decide +kernel
theorem dX7_replays_61 : decode cX7_replays 61 = .ok (.dup2, 1) := by decide +kernel
theorem dX7_replays_62 : decode cX7_replays 62 = .ok (.iaload, 1) := by decide +kernel
theorem dX7_replays_63 : decode cX7_replays 63 = .ok (.iconst 1, 1) := by decide +kernel
theorem dX7_replays_64 : decode cX7_replays 64 = .ok (.iadd, 1) := by decide +kernel
theorem dX7_replays_65 : decode cX7_replays 65 = .ok (.iastore, 1) := by decide +kernel
theorem dX7_replays_66 : decode cX7_replays 66 = .ok (.aload_n 0, 1) := by decide +kernel
theorem dX7_replays_67 : decode cX7_replays 67 = .ok (.getfield 26, 3) := by decide +kernel
theorem dX7_replays_70 : decode cX7_replays 70 = .ok (.bipush 7, 2) := by decide +kernel
theorem dX7_replays_72 : decode cX7_replays 72 = .ok (.dup2, 1) := by decide +kernel
theorem dX7_replays_73 : decode cX7_replays 73 = .ok (.iaload, 1) := by decide +kernel
theorem dX7_replays_74 : decode cX7_replays 74 = .ok (.iconst 1, 1) := by decide +kernel
theorem dX7_replays_75 : decode cX7_replays 75 = .ok (.iadd, 1) := by decide +kernel
theorem dX7_replays_76 : decode cX7_replays 76 = .ok (.iastore, 1) := by decide +kernel
theorem dX7_replays_77 : decode cX7_replays 77 = .ok (.aload_n 0, 1) := by decide +kernel
theorem dX7_replays_78 : decode cX7_replays 78 = .ok (.getfield 26, 3) := by decide +kernel
theorem dX7_replays_81 : decode cX7_replays 81 = .ok (.bipush 8, 2) := by decide +kernel
theorem dX7_replays_83 : decode cX7_replays 83 = .ok (.iconst 2, 1) := by decide +kernel
theorem dX7_replays_84 : decode cX7_replays 84 = .ok (.aload_n 0, 1) := by decide +kernel
theorem dX7_replays_85 : decode cX7_replays 85 = .ok (.getfield 26, 3) := by decide +kernel
theorem dX7_replays_88 : decode cX7_replays 88 = .ok (.bipush 6, 2) := by decide +kernel
theorem dX7_replays_90 : decode cX7_replays 90 = .ok (.iaload, 1) := by decide +kernel
theorem dX7_replays_91 : decode cX7_replays 91 = .ok (.imul, 1) := by decide +kernel
theorem dX7_replays_92 : decode cX7_replays 92 = .ok (.iadd, 1) := by decide +kernel
theorem dX7_replays_93 : decode cX7_replays 93 = .ok (.iload_n 2, 1) := by decide +kernel
theorem dX7_replays_94 : decode cX7_replays 94 = .ok (.iadd, 1) := by decide +kernel
theorem dX7_replays_95 : decode cX7_replays 95 = .ok (.dup2, 1) := by decide +kernel
theorem dX7_replays_96 : decode cX7_replays 96 = .ok (.iaload, 1) := by decide +kernel
theorem dX7_replays_97 : decode cX7_replays 97 = .ok (.iconst 1, 1) := by decide +kernel
theorem dX7_replays_98 : decode cX7_replays 98 = .ok (.iadd, 1) := by decide +kernel
theorem dX7_replays_99 : decode cX7_replays 99 = .ok (.iastore, 1) := by decide +kernel
theorem dX7_replays_100 : decode cX7_replays 100 = .ok (.aload_n 0, 1) := by decide +kernel
theorem dX7_replays_101 : decode cX7_replays 101 = .ok (.aload_n 0, 1) := by decide +kernel
theorem dX7_replays_102 : decode cX7_replays 102 = .ok (.getfield 7, 3) := by decide +kernel
theorem dX7_replays_105 : decode cX7_replays 105 = .ok (.bipush 6, 2) := by decide +kernel
theorem dX7_replays_107 : decode cX7_replays 107 = .ok (.iaload, 1) := by decide +kernel
theorem dX7_replays_108 : decode cX7_replays 108 = .ok (.aload_n 0, 1) := by decide +kernel
theorem dX7_replays_109 : decode cX7_replays 109 = .ok (.getfield 26, 3) := by decide +kernel
theorem dX7_replays_112 : decode cX7_replays 112 = .ok (.iconst 0, 1) := by decide +kernel
theorem dX7_replays_113 : decode cX7_replays 113 = .ok (.iaload, 1) := by decide +kernel
theorem dX7_replays_114 : decode cX7_replays 114 = .ok (.aload_n 0, 1) := by decide +kernel
theorem dX7_replays_115 : decode cX7_replays 115 = .ok (.getfield 26, 3) := by decide +kernel
theorem dX7_replays_118 : decode cX7_replays 118 = .ok (.iconst 1, 1) := by decide +kernel
theorem dX7_replays_119 : decode cX7_replays 119 = .ok (.iaload, 1) := by decide +kernel
theorem dX7_replays_120 : decode cX7_replays 120 = .ok (.invokevirtual 55, 3) := by decide +kernel
theorem dX7_replays_123 : decode cX7_replays 123 = .ok (.istore_n 3, 1) := by decide +kernel
theorem dX7_replays_124 : decode cX7_replays 124 = .ok (.iload_n 3, 1) := by decide +kernel
theorem dX7_replays_125 : decode cX7_replays 125 = .ok (.ifCond .le 10, 3) := by decide +kernel
theorem dX7_replays_128 : decode cX7_replays 128 = .ok (.aload_n 0, 1) := by decide +kernel
theorem dX7_replays_129 : decode cX7_replays 129 = .ok (.iload_n 3, 1) := by decide +kernel
theorem dX7_replays_130 : decode cX7_replays 130 = .ok (.iconst 1, 1) := by decide +kernel
theorem dX7_replays_131 : decode cX7_replays 131 = .ok (.isub, 1) := by decide +kernel
theorem dX7_replays_132 : decode cX7_replays 132 = .ok (.invokevirtual 109, 3) := by decide +kernel
theorem dX7_replays_135 : decode cX7_replays 135 = .ok (.iinc 1 1, 3) := by decide +kernel
theorem dX7_replays_138 : decode cX7_replays 138 = .ok (.goto (-97), 3) := by decide +kernel
theorem dX7_replays_141 : decode cX7_replays 141 = .ok (.return_, 1) := by decide +kernel
set_option maxRecDepth 20000 in
theorem ggX7_point_X7_in : GoodIn wsX7_point wsX7_in := goodIn_r _ [8] (by decide +kernel) (by decide +kernel)
set_option maxRecDepth 20000 in
theorem gX7_point_X7_in : GoodIn wsX7_point (va_wsS RX7 36 yX7_in wsX7_in) := goodIn_app (goodIn_of _ (by decide +kernel)) ggX7_point_X7_in
set_option maxRecDepth 20000 in
theorem ggX7_point_X7_replays : GoodIn wsX7_point wsX7_replays := goodIn_r _ [12, 2, 13, 3, 4, 14, 15, 16, 17, 7, 18, 19, 20, 21, 22, 23, 24, 25, 26, 27, 28, 29, 30, 31, 32, 33, 34, 35, 36, 37] (by decide +kernel) (by decide +kernel)
set_option maxRecDepth 20000 in
theorem gX7_point_X7_replays : GoodIn wsX7_point (wsV RX7 29 RX7 yX7_replays wsX7_replays) := goodIn_app (goodIn_of _ (by decide +kernel)) ggX7_point_X7_replays
theorem dX7_point_0 : decode cX7_point 0 = .ok (.aload_n 0, 1) := by decide +kernel
theorem dX7_point_1 : decode cX7_point 1 = .ok (.iconst 0, 1) := by decide +kernel
theorem dX7_point_2 : decode cX7_point 2 = .ok (.putfield 32, 3) := by decide +kernel
theorem dX7_point_5 : decode cX7_point 5 = .ok (.iload_n 1, 1) := by decide +kernel
theorem dX7_point_6 : decode cX7_point 6 = .ok (.iconst 0, 1) := by decide +kernel
theorem dX7_point_7 : decode cX7_point 7 = .ok (.iconst 1, 1) := by decide +kernel
theorem dX7_point_8 : decode cX7_point 8 = .ok (.invokestatic 36, 3) := by decide +kernel
theorem dX7_point_11 : decode cX7_point 11 = .ok (.ifCond .ne 5, 3) := by decide +kernel
theorem dX7_point_14 : decode cX7_point 14 = .ok (.iconst (-1), 1) := by decide +kernel
theorem dX7_point_15 : decode cX7_point 15 = .ok (.ireturn, 1) := by decide +kernel
theorem dX7_point_16 : decode cX7_point 16 = .ok (.aload_n 0, 1) := by decide +kernel
theorem dX7_point_17 : decode cX7_point 17 = .ok (.getfield 26, 3) := by decide +kernel
theorem dX7_point_20 : decode cX7_point 20 = .ok (.bipush 12, 2) := by decide +kernel
theorem dX7_point_22 : decode cX7_point 22 = .ok (.iaload, 1) := by decide +kernel
theorem dX7_point_23 : decode cX7_point 23 = .ok (.bipush (-9), 2) := by decide +kernel
theorem dX7_point_25 : decode cX7_point 25 = .ok (.if_icmp .eq 6, 3) := by decide +kernel
theorem dX7_point_28 : decode cX7_point 28 = .ok (.bipush (-2), 2) := by decide +kernel
theorem dX7_point_30 : decode cX7_point 30 = .ok (.ireturn, 1) := by decide +kernel
theorem dX7_point_31 : decode cX7_point 31 = .ok (.aload_n 0, 1) := by decide +kernel
theorem dX7_point_32 : decode cX7_point 32 = .ok (.getfield 44, 3) := by decide +kernel
theorem dX7_point_35 : decode cX7_point 35 = .ok (.sipush 400, 3) := by decide +kernel
theorem dX7_point_38 : decode cX7_point 38 = .ok (.if_icmp .ne 6, 3) := by decide +kernel
theorem dX7_point_41 : decode cX7_point 41 = .ok (.bipush (-3), 2) := by decide +kernel
theorem dX7_point_43 : decode cX7_point 43 = .ok (.ireturn, 1) := by decide +kernel
theorem dX7_point_44 : decode cX7_point 44 = .ok (.aload_n 0, 1) := by decide +kernel
theorem dX7_point_45 : decode cX7_point 45 = .ok (.getfield 13, 3) := by decide +kernel
theorem dX7_point_48 : decode cX7_point 48 = .ok (.aload_n 0, 1) := by decide +kernel
theorem dX7_point_49 : decode cX7_point 49 = .ok (.getfield 44, 3) := by decide +kernel
theorem dX7_point_52 : decode cX7_point 52 = .ok (.iload_n 1, 1) := by decide +kernel
theorem dX7_point_53 : decode cX7_point 53 = .ok (.iastore, 1) := by decide +kernel
theorem dX7_point_54 : decode cX7_point 54 = .ok (.aload_n 0, 1) := by decide +kernel
theorem dX7_point_55 : decode cX7_point 55 = .ok (.dup, 1) := by decide +kernel
theorem dX7_point_56 : decode cX7_point 56 = .ok (.getfield 44, 3) := by decide +kernel
theorem dX7_point_59 : decode cX7_point 59 = .ok (.iconst 1, 1) := by decide +kernel
theorem dX7_point_60 : decode cX7_point 60 = .ok (.iadd, 1) := by decide +kernel
theorem dX7_point_61 : decode cX7_point 61 = .ok (.putfield 44, 3) := by decide +kernel
theorem dX7_point_64 : decode cX7_point 64 = .ok (.aload_n 0, 1) := by decide +kernel
theorem dX7_point_65 : decode cX7_point 65 = .ok (.invokevirtual 29, 3) := by decide +kernel
theorem dX7_point_68 : decode cX7_point 68 = .ok (.aload_n 0, 1) := by decide +kernel
theorem dX7_point_69 : decode cX7_point 69 = .ok (.getfield 44, 3) := by decide +kernel
theorem dX7_point_72 : decode cX7_point 72 = .ok (.ireturn, 1) := by decide +kernel
set_option maxRecDepth 20000 in
theorem ggX7_back_X7_in : GoodIn wsX7_back wsX7_in := goodIn_r _ [6] (by decide +kernel) (by decide +kernel)
set_option maxRecDepth 20000 in
theorem gX7_back_X7_in : GoodIn wsX7_back (va_wsS RX7 36 yX7_in wsX7_in) := goodIn_app (goodIn_of _ (by decide +kernel)) ggX7_back_X7_in
set_option maxRecDepth 20000 in
theorem ggX7_back_X7_replays : GoodIn wsX7_back wsX7_replays := goodIn_r _ [10, 11, 12, 2, 13, 14, 15, 16, 17, 5, 18, 19, 20, 21, 22, 23, 24, 25, 26, 27, 28, 29, 30, 31, 32, 33, 34, 35, 36, 37] (by decide +kernel) (by decide +kernel)
set_option maxRecDepth 20000 in
theorem gX7_back_X7_replays : GoodIn wsX7_back (wsV RX7 29 RX7 yX7_replays wsX7_replays) := goodIn_app (goodIn_of _ (by decide +kernel)) ggX7_back_X7_replays
theorem dX7_back_0 : decode cX7_back 0 = .ok (.aload_n 0, 1) := by decide +kernel
theorem dX7_back_1 : decode cX7_back 1 = .ok (.iconst 0, 1) := by decide +kernel
theorem dX7_back_2 : decode cX7_back 2 = .ok (.putfield 32, 3) := by decide +kernel
theorem dX7_back_5 : decode cX7_back 5 = .ok (.iload_n 1, 1) := by decide +kernel
theorem dX7_back_6 : decode cX7_back 6 = .ok (.iconst 1, 1) := by decide +kernel
theorem dX7_back_7 : decode cX7_back 7 = .ok (.sipush 400, 3) := by decide +kernel
theorem dX7_back_10 : decode cX7_back 10 = .ok (.invokestatic 36, 3) := by decide +kernel
theorem dX7_back_13 : decode cX7_back 13 = .ok (.ifCond .ne 5, 3) := by decide +kernel
theorem dX7_back_16 : decode cX7_back 16 = .ok (.iconst (-1), 1) := by decide +kernel
theorem dX7_back_17 : decode cX7_back 17 = .ok (.ireturn, 1) := by decide +kernel
theorem dX7_back_18 : decode cX7_back 18 = .ok (.iload_n 1, 1) := by decide +kernel
theorem dX7_back_19 : decode cX7_back 19 = .ok (.aload_n 0, 1) := by decide +kernel
theorem dX7_back_20 : decode cX7_back 20 = .ok (.getfield 44, 3) := by decide +kernel
theorem dX7_back_23 : decode cX7_back 23 = .ok (.if_icmp .ge 7, 3) := by decide +kernel
theorem dX7_back_26 : decode cX7_back 26 = .ok (.iload_n 1, 1) := by decide +kernel
theorem dX7_back_27 : decode cX7_back 27 = .ok (.goto 7, 3) := by decide +kernel
theorem dX7_back_30 : decode cX7_back 30 = .ok (.aload_n 0, 1) := by decide +kernel
theorem dX7_back_31 : decode cX7_back 31 = .ok (.getfield 44, 3) := by decide +kernel
theorem dX7_back_34 : decode cX7_back 34 = .ok (.istore_n 2, 1) := by decide +kernel
theorem dX7_back_35 : decode cX7_back 35 = .ok (.aload_n 0, 1) := by decide +kernel
theorem dX7_back_36 : decode cX7_back 36 = .ok (.dup, 1) := by decide +kernel
theorem dX7_back_37 : decode cX7_back 37 = .ok (.getfield 44, 3) := by decide +kernel
theorem dX7_back_40 : decode cX7_back 40 = .ok (.iload_n 2, 1) := by decide +kernel
theorem dX7_back_41 : decode cX7_back 41 = .ok (.isub, 1) := by decide +kernel
theorem dX7_back_42 : decode cX7_back 42 = .ok (.putfield 44, 3) := by decide +kernel
theorem dX7_back_45 : decode cX7_back 45 = .ok (.aload_n 0, 1) := by decide +kernel
theorem dX7_back_46 : decode cX7_back 46 = .ok (.invokevirtual 29, 3) := by decide +kernel
theorem dX7_back_49 : decode cX7_back 49 = .ok (.iload_n 2, 1) := by decide +kernel
theorem dX7_back_50 : decode cX7_back 50 = .ok (.ireturn, 1) := by decide +kernel
set_option maxRecDepth 20000 in
theorem ggX7_score_X7_in : GoodIn wsX7_score wsX7_in := goodIn_r _ [6] (by decide +kernel) (by decide +kernel)
set_option maxRecDepth 20000 in
theorem gX7_score_X7_in : GoodIn wsX7_score (va_wsS RX7 36 yX7_in wsX7_in) := goodIn_app (goodIn_of _ (by decide +kernel)) ggX7_score_X7_in
theorem dX7_score_0 : decode cX7_score 0 = .ok (.aload_n 0, 1) := by decide +kernel
theorem dX7_score_1 : decode cX7_score 1 = .ok (.iconst 0, 1) := by decide +kernel
theorem dX7_score_2 : decode cX7_score 2 = .ok (.putfield 32, 3) := by decide +kernel
theorem dX7_score_5 : decode cX7_score 5 = .ok (.iload_n 1, 1) := by decide +kernel
theorem dX7_score_6 : decode cX7_score 6 = .ok (.iconst 0, 1) := by decide +kernel
theorem dX7_score_7 : decode cX7_score 7 = .ok (.bipush 12, 2) := by decide +kernel
theorem dX7_score_9 : decode cX7_score 9 = .ok (.invokestatic 36, 3) := by decide +kernel
theorem dX7_score_12 : decode cX7_score 12 = .ok (.ifCond .eq 12, 3) := by decide +kernel
theorem dX7_score_15 : decode cX7_score 15 = .ok (.aload_n 0, 1) := by decide +kernel
theorem dX7_score_16 : decode cX7_score 16 = .ok (.getfield 26, 3) := by decide +kernel
theorem dX7_score_19 : decode cX7_score 19 = .ok (.iload_n 1, 1) := by decide +kernel
theorem dX7_score_20 : decode cX7_score 20 = .ok (.iaload, 1) := by decide +kernel
theorem dX7_score_21 : decode cX7_score 21 = .ok (.goto 4, 3) := by decide +kernel
theorem dX7_score_24 : decode cX7_score 24 = .ok (.iconst (-1), 1) := by decide +kernel
theorem dX7_score_25 : decode cX7_score 25 = .ok (.ireturn, 1) := by decide +kernel
set_option maxRecDepth 20000 in
theorem ggX7_likeliest_X7_in : GoodIn wsX7_likeliest wsX7_in := goodIn_r _ [5] (by decide +kernel) (by decide +kernel)
set_option maxRecDepth 20000 in
theorem gX7_likeliest_X7_in : GoodIn wsX7_likeliest (va_wsS RX7 36 yX7_in wsX7_in) := goodIn_app (goodIn_of _ (by decide +kernel)) ggX7_likeliest_X7_in
theorem dX7_likeliest_0 : decode cX7_likeliest 0 = .ok (.aload_n 0, 1) := by decide +kernel
theorem dX7_likeliest_1 : decode cX7_likeliest 1 = .ok (.iconst 0, 1) := by decide +kernel
theorem dX7_likeliest_2 : decode cX7_likeliest 2 = .ok (.putfield 32, 3) := by decide +kernel
theorem dX7_likeliest_5 : decode cX7_likeliest 5 = .ok (.iload_n 1, 1) := by decide +kernel
theorem dX7_likeliest_6 : decode cX7_likeliest 6 = .ok (.iconst 0, 1) := by decide +kernel
theorem dX7_likeliest_7 : decode cX7_likeliest 7 = .ok (.bipush 18, 2) := by decide +kernel
theorem dX7_likeliest_9 : decode cX7_likeliest 9 = .ok (.invokestatic 36, 3) := by decide +kernel
theorem dX7_likeliest_12 : decode cX7_likeliest 12 = .ok (.ifCond .eq 21, 3) := by decide +kernel
theorem dX7_likeliest_15 : decode cX7_likeliest 15 = .ok (.iload_n 2, 1) := by decide +kernel
theorem dX7_likeliest_16 : decode cX7_likeliest 16 = .ok (.iconst 0, 1) := by decide +kernel
theorem dX7_likeliest_17 : decode cX7_likeliest 17 = .ok (.bipush 18, 2) := by decide +kernel
theorem dX7_likeliest_19 : decode cX7_likeliest 19 = .ok (.invokestatic 36, 3) := by decide +kernel
theorem dX7_likeliest_22 : decode cX7_likeliest 22 = .ok (.ifCond .eq 11, 3) := by decide +kernel
theorem dX7_likeliest_25 : decode cX7_likeliest 25 = .ok (.iload_n 1, 1) := by decide +kernel
theorem dX7_likeliest_26 : decode cX7_likeliest 26 = .ok (.iload_n 2, 1) := by decide +kernel
theorem dX7_likeliest_27 : decode cX7_likeliest 27 = .ok (.iadd, 1) := by decide +kernel
theorem dX7_likeliest_28 : decode cX7_likeliest 28 = .ok (.bipush 18, 2) := by decide +kernel
theorem dX7_likeliest_30 : decode cX7_likeliest 30 = .ok (.if_icmp .le 5, 3) := by decide +kernel
theorem dX7_likeliest_33 : decode cX7_likeliest 33 = .ok (.iconst (-1), 1) := by decide +kernel
theorem dX7_likeliest_34 : decode cX7_likeliest 34 = .ok (.ireturn, 1) := by decide +kernel
theorem dX7_likeliest_35 : decode cX7_likeliest 35 = .ok (.iconst 0, 1) := by decide +kernel
theorem dX7_likeliest_36 : decode cX7_likeliest 36 = .ok (.istore_n 3, 1) := by decide +kernel
theorem dX7_likeliest_37 : decode cX7_likeliest 37 = .ok (.lconst 0, 1) := by decide +kernel
theorem dX7_likeliest_38 : decode cX7_likeliest 38 = .ok (.lstore 4, 2) := by decide +kernel
theorem dX7_likeliest_40 : decode cX7_likeliest 40 = .ok (.iconst 1, 1) := by decide +kernel
theorem dX7_likeliest_41 : decode cX7_likeliest 41 = .ok (.istore 6, 2) := by decide +kernel
theorem dX7_likeliest_43 : decode cX7_likeliest 43 = .ok (.iload 6, 2) := by decide +kernel
theorem dX7_likeliest_45 : decode cX7_likeliest 45 = .ok (.bipush 10, 2) := by decide +kernel
theorem dX7_likeliest_47 : decode cX7_likeliest 47 = .ok (.if_icmp .ge 76, 3) := by decide +kernel
theorem dX7_likeliest_50 : decode cX7_likeliest 50 = .ok (.lconst 1, 1) := by decide +kernel
theorem dX7_likeliest_51 : decode cX7_likeliest 51 = .ok (.lstore 7, 2) := by decide +kernel
theorem dX7_likeliest_53 : decode cX7_likeliest 53 = .ok (.iconst 0, 1) := by decide +kernel
theorem dX7_likeliest_54 : decode cX7_likeliest 54 = .ok (.istore 9, 2) := by decide +kernel
theorem dX7_likeliest_56 : decode cX7_likeliest 56 = .ok (.iload 9, 2) := by decide +kernel
theorem dX7_likeliest_58 : decode cX7_likeliest 58 = .ok (.iload_n 1, 1) := by decide +kernel
theorem dX7_likeliest_59 : decode cX7_likeliest 59 = .ok (.if_icmp .ge 17, 3) := by decide +kernel
theorem dX7_likeliest_62 : decode cX7_likeliest 62 = .ok (.lload 7, 2) := by decide +kernel
theorem dX7_likeliest_64 : decode cX7_likeliest 64 = .ok (.iload 6, 2) := by decide +kernel
theorem dX7_likeliest_66 : decode cX7_likeliest 66 = .ok (.i2l, 1) := by decide +kernel
theorem dX7_likeliest_67 : decode cX7_likeliest 67 = .ok (.lmul, 1) := by decide +kernel
theorem dX7_likeliest_68 : decode cX7_likeliest 68 = .ok (.lstore 7, 2) := by decide +kernel
theorem dX7_likeliest_70 : decode cX7_likeliest 70 = .ok (.iinc 9 1, 3) := by decide +kernel
theorem dX7_likeliest_73 : decode cX7_likeliest 73 = .ok (.goto (-17), 3) := by decide +kernel
theorem dX7_likeliest_76 : decode cX7_likeliest 76 = .ok (.iconst 0, 1) := by decide +kernel
theorem dX7_likeliest_77 : decode cX7_likeliest 77 = .ok (.istore 9, 2) := by decide +kernel
theorem dX7_likeliest_79 : decode cX7_likeliest 79 = .ok (.iload 9, 2) := by decide +kernel
theorem dX7_likeliest_81 : decode cX7_likeliest 81 = .ok (.iload_n 2, 1) := by decide +kernel
theorem dX7_likeliest_82 : decode cX7_likeliest 82 = .ok (.if_icmp .ge 20, 3) := by decide +kernel
theorem dX7_likeliest_85 : decode cX7_likeliest 85 = .ok (.lload 7, 2) := by decide +kernel
theorem dX7_likeliest_87 : decode cX7_likeliest 87 = .ok (.bipush 10, 2) := by decide +kernel
theorem dX7_likeliest_89 : decode cX7_likeliest 89 = .ok (.iload 6, 2) := by decide +kernel
theorem dX7_likeliest_91 : decode cX7_likeliest 91 = .ok (.isub, 1) := by decide +kernel
theorem dX7_likeliest_92 : decode cX7_likeliest 92 = .ok (.i2l, 1) := by decide +kernel
theorem dX7_likeliest_93 : decode cX7_likeliest 93 = .ok (.lmul, 1) := by decide +kernel
theorem dX7_likeliest_94 : decode cX7_likeliest 94 = .ok (.lstore 7, 2) := by decide +kernel
theorem dX7_likeliest_96 : decode cX7_likeliest 96 = .ok (.iinc 9 1, 3) := by decide +kernel
theorem dX7_likeliest_99 : decode cX7_likeliest 99 = .ok (.goto (-20), 3) := by decide +kernel
theorem dX7_likeliest_102 : decode cX7_likeliest 102 = .ok (.lload 7, 2) := by decide +kernel
theorem dX7_likeliest_104 : decode cX7_likeliest 104 = .ok (.lload 4, 2) := by decide +kernel
theorem dX7_likeliest_106 : decode cX7_likeliest 106 = .ok (.lcmp, 1) := by decide +kernel
theorem dX7_likeliest_107 : decode cX7_likeliest 107 = .ok (.ifCond .le 10, 3) := by decide +kernel
theorem dX7_likeliest_110 : decode cX7_likeliest 110 = .ok (.lload 7, 2) := by decide +kernel
theorem dX7_likeliest_112 : decode cX7_likeliest 112 = .ok (.lstore 4, 2) := by decide +kernel
theorem dX7_likeliest_114 : decode cX7_likeliest 114 = .ok (.iload 6, 2) := by decide +kernel
theorem dX7_likeliest_116 : decode cX7_likeliest 116 = .ok (.istore_n 3, 1) := by decide +kernel
theorem dX7_likeliest_117 : decode cX7_likeliest 117 = .ok (.iinc 6 1, 3) := by decide +kernel
theorem dX7_likeliest_120 : decode cX7_likeliest 120 = .ok (.goto (-77), 3) := by decide +kernel
theorem dX7_likeliest_123 : decode cX7_likeliest 123 = .ok (.iload_n 3, 1) := by decide +kernel
theorem dX7_likeliest_124 : decode cX7_likeliest 124 = .ok (.ireturn, 1) := by decide +kernel
set_option maxRecDepth 20000 in
theorem ggX7_count_X7_in : GoodIn wsX7_count wsX7_in := goodIn_r _ [6] (by decide +kernel) (by decide +kernel)
set_option maxRecDepth 20000 in
theorem gX7_count_X7_in : GoodIn wsX7_count (va_wsS RX7 36 yX7_in wsX7_in) := goodIn_app (goodIn_of _ (by decide +kernel)) ggX7_count_X7_in
theorem dX7_count_0 : decode cX7_count 0 = .ok (.aload_n 0, 1) := by decide +kernel
theorem dX7_count_1 : decode cX7_count 1 = .ok (.iconst 0, 1) := by decide +kernel
theorem dX7_count_2 : decode cX7_count 2 = .ok (.putfield 32, 3) := by decide +kernel
theorem dX7_count_5 : decode cX7_count 5 = .ok (.iload_n 1, 1) := by decide +kernel
theorem dX7_count_6 : decode cX7_count 6 = .ok (.iconst 0, 1) := by decide +kernel
theorem dX7_count_7 : decode cX7_count 7 = .ok (.bipush 6, 2) := by decide +kernel
theorem dX7_count_9 : decode cX7_count 9 = .ok (.invokestatic 36, 3) := by decide +kernel
theorem dX7_count_12 : decode cX7_count 12 = .ok (.ifCond .eq 12, 3) := by decide +kernel
theorem dX7_count_15 : decode cX7_count 15 = .ok (.aload_n 0, 1) := by decide +kernel
theorem dX7_count_16 : decode cX7_count 16 = .ok (.getfield 7, 3) := by decide +kernel
theorem dX7_count_19 : decode cX7_count 19 = .ok (.iload_n 1, 1) := by decide +kernel
theorem dX7_count_20 : decode cX7_count 20 = .ok (.iaload, 1) := by decide +kernel
theorem dX7_count_21 : decode cX7_count 21 = .ok (.goto 4, 3) := by decide +kernel
theorem dX7_count_24 : decode cX7_count 24 = .ok (.iconst (-1), 1) := by decide +kernel
theorem dX7_count_25 : decode cX7_count 25 = .ok (.ireturn, 1) := by decide +kernel
theorem dX7_trace_0 : decode cX7_trace 0 = .ok (.aload_n 0, 1) := by decide +kernel
theorem dX7_trace_1 : decode cX7_trace 1 = .ok (.iconst 0, 1) := by decide +kernel
theorem dX7_trace_2 : decode cX7_trace 2 = .ok (.putfield 32, 3) := by decide +kernel
theorem dX7_trace_5 : decode cX7_trace 5 = .ok (.aload_n 0, 1) := by decide +kernel
theorem dX7_trace_6 : decode cX7_trace 6 = .ok (.getfield 47, 3) := by decide +kernel
theorem dX7_trace_9 : decode cX7_trace 9 = .ok (.lreturn, 1) := by decide +kernel
theorem dJ9_abs_0f7a4_0 : decode cJ9_abs_0f7a4 0 = .ok (.iload_n 0, 1) := by decide +kernel
theorem dJ9_abs_0f7a4_1 : decode cJ9_abs_0f7a4 1 = .ok (.ifCond .ge 8, 3) := by decide +kernel
theorem dJ9_abs_0f7a4_4 : decode cJ9_abs_0f7a4 4 = .ok (.iload_n 0, 1) := by decide +kernel
theorem dJ9_abs_0f7a4_5 : decode cJ9_abs_0f7a4 5 = .ok (.ineg, 1) := by decide +kernel
theorem dJ9_abs_0f7a4_6 : decode cJ9_abs_0f7a4 6 = .ok (.goto 4, 3) := by decide +kernel
theorem dJ9_abs_0f7a4_9 : decode cJ9_abs_0f7a4 9 = .ok (.iload_n 0, 1) := by decide +kernel
theorem dJ9_abs_0f7a4_10 : decode cJ9_abs_0f7a4 10 = .ok (.ireturn, 1) := by decide +kernel
theorem dJ9_max_7cf53_0 : decode cJ9_max_7cf53 0 = .ok (.iload_n 0, 1) := by decide +kernel
theorem dJ9_max_7cf53_1 : decode cJ9_max_7cf53 1 = .ok (.iload_n 1, 1) := by decide +kernel
theorem dJ9_max_7cf53_2 : decode cJ9_max_7cf53 2 = .ok (.if_icmp .lt 7, 3) := by decide +kernel
theorem dJ9_max_7cf53_5 : decode cJ9_max_7cf53 5 = .ok (.iload_n 0, 1) := by decide +kernel
theorem dJ9_max_7cf53_6 : decode cJ9_max_7cf53 6 = .ok (.goto 4, 3) := by decide +kernel
theorem dJ9_max_7cf53_9 : decode cJ9_max_7cf53 9 = .ok (.iload_n 1, 1) := by decide +kernel
theorem dJ9_max_7cf53_10 : decode cJ9_max_7cf53 10 = .ok (.ireturn, 1) := by decide +kernel
theorem dJ9_min_7cf53_0 : decode cJ9_min_7cf53 0 = .ok (.iload_n 0, 1) := by decide +kernel
theorem dJ9_min_7cf53_1 : decode cJ9_min_7cf53 1 = .ok (.iload_n 1, 1) := by decide +kernel
theorem dJ9_min_7cf53_2 : decode cJ9_min_7cf53 2 = .ok (.if_icmp .gt 7, 3) := by decide +kernel
theorem dJ9_min_7cf53_5 : decode cJ9_min_7cf53 5 = .ok (.iload_n 0, 1) := by decide +kernel
theorem dJ9_min_7cf53_6 : decode cJ9_min_7cf53 6 = .ok (.goto 4, 3) := by decide +kernel
theorem dJ9_min_7cf53_9 : decode cJ9_min_7cf53 9 = .ok (.iload_n 1, 1) := by decide +kernel
theorem dJ9_min_7cf53_10 : decode cJ9_min_7cf53 10 = .ok (.ireturn, 1) := by decide +kernel
set_option maxRecDepth 20000 in
theorem ggL_law_X6_init : GoodIn wsL_law wsX6_init := goodIn_r _ [8, 9, 10, 11, 12, 13, 14, 15, 16, 17, 18, 19, 20, 21, 22, 23, 24, 25, 26, 27, 28, 29, 30, 31, 32, 33, 34, 35, 36, 37, 38, 39, 40, 41, 42, 43, 44, 45, 46, 47, 48, 49, 50, 51, 52, 53, 54, 55, 56, 57, 58, 59, 60, 61, 62, 63, 64, 65, 66, 67, 68, 69, 70, 71, 72, 73, 74, 75, 76, 77, 78, 79, 80, 81, 82, 83, 84, 85, 86, 87, 88, 89, 90, 91, 92, 93, 94, 95, 96, 97, 98, 99, 100, 101, 102, 493, 494, 495, 496, 497, 498, 499, 477, 478, 479, 480, 481, 500, 501, 502, 503, 504, 505, 506, 507, 508, 509, 510, 511, 512, 513, 514, 515, 516, 517, 518, 519, 520, 521] (by decide +kernel) (by decide +kernel)
set_option maxRecDepth 20000 in
theorem gL_law_X6_init : GoodIn wsL_law (wsX6_init) := ggL_law_X6_init
set_option maxRecDepth 20000 in
theorem ggL_law_X7_init : GoodIn wsL_law wsX7_init := goodIn_r _ [105, 106, 10, 11, 107, 108, 109, 61, 110, 111, 112, 113, 114, 115, 116, 5, 117, 118, 119, 120, 121, 122, 123, 124, 125, 126, 127, 128, 129, 130, 131, 482, 483, 484, 485, 486, 487, 488, 489, 490, 491, 492] (by decide +kernel) (by decide +kernel)
set_option maxRecDepth 20000 in
theorem gL_law_X7_init : GoodIn wsL_law (wsX7_init) := ggL_law_X7_init
set_option maxRecDepth 20000 in
theorem ggL_law_X6_set : GoodIn wsL_law wsX6_set := goodIn_r _ [135, 15, 27, 136, 137, 138, 139, 14, 140, 34, 141, 57, 58, 59, 142, 2, 143, 144, 145, 146, 147, 32, 33, 35, 36, 37, 38, 148, 149, 150, 151, 477, 478, 479, 480, 481, 508, 509, 510, 511, 512, 513, 514, 515, 516, 517, 493, 494, 495, 496, 497, 498, 499] (by decide +kernel) (by decide +kernel)
set_option maxRecDepth 20000 in
theorem gL_law_X6_set : GoodIn wsL_law (wsV RL 13 RX6 yX6_set wsX6_set) := goodIn_app (goodIn_of _ (by decide +kernel)) ggL_law_X6_set
set_option maxRecDepth 20000 in
theorem ggL_law_X7_set : GoodIn wsL_law wsX7_set := goodIn_r _ [155, 156, 119, 108, 157, 158, 5, 159, 160, 161, 162, 163, 114, 115, 116, 117, 113, 118, 109, 120, 121, 122, 123, 124, 125, 126, 127, 128, 129, 130, 131, 482, 483, 484, 485, 486, 487, 488, 489, 490, 491, 492] (by decide +kernel) (by decide +kernel)
set_option maxRecDepth 20000 in
theorem gL_law_X7_set : GoodIn wsL_law (wsV RL 17 RX7 yX7_set wsX7_set) := goodIn_app (goodIn_of _ (by decide +kernel)) ggL_law_X7_set
set_option maxRecDepth 20000 in
theorem ggL_law_X6_won : GoodIn wsL_law wsX6_won := goodIn_r _ [167, 28, 15, 168, 142, 2, 143, 169, 170, 171, 172, 173, 174, 14, 175, 141, 57, 58, 59, 176, 177, 178, 34, 179, 180, 181, 477, 478, 479, 480, 481, 493, 494, 495, 496, 497, 498, 499] (by decide +kernel) (by decide +kernel)
set_option maxRecDepth 20000 in
theorem gL_law_X6_won : GoodIn wsL_law (wsV RL 18 RX6 yX6_won wsX6_won) := goodIn_app (goodIn_of _ (by decide +kernel)) ggL_law_X6_won
set_option maxRecDepth 20000 in
theorem ggL_law_X7_won : GoodIn wsL_law wsX7_won := goodIn_r _ [185, 156, 186, 187, 188, 157, 158, 5, 159, 124, 125, 126, 127, 108, 482, 483, 484, 485, 486, 487, 488, 489, 490, 491, 492] (by decide +kernel) (by decide +kernel)
set_option maxRecDepth 20000 in
theorem gL_law_X7_won : GoodIn wsL_law (wsV RL 22 RX7 yX7_won wsX7_won) := goodIn_app (goodIn_of _ (by decide +kernel)) ggL_law_X7_won
set_option maxRecDepth 20000 in
theorem ggL_law_X6_chance : GoodIn wsL_law wsX6_chance := goodIn_r _ [192, 193, 19, 194, 195, 196, 197, 2, 198, 15, 199, 200, 168, 142, 143, 201, 202, 203, 204, 205, 206, 18, 207, 48, 49, 50, 208, 51, 209, 177, 58, 178, 210, 211, 212, 14, 213, 32, 33, 214, 215, 216, 217, 46, 47, 218, 219, 173, 174, 175, 141, 57, 59, 176, 34, 179, 180, 181, 220, 221, 222, 223, 224, 225, 226, 227, 228, 229, 45, 230, 62, 60, 231, 232, 233, 234, 235, 236, 237, 238, 239, 240, 241, 242, 243, 244, 245, 246, 477, 478, 479, 480, 481, 500, 501, 502, 503, 504, 493, 494, 495, 496, 497, 498, 499, 518, 519] (by decide +kernel) (by decide +kernel)
set_option maxRecDepth 20000 in
theorem gL_law_X6_chance : GoodIn wsL_law (wsV RL 23 RX6 yX6_chance wsX6_chance) := goodIn_app (goodIn_of _ (by decide +kernel)) ggL_law_X6_chance
set_option maxRecDepth 20000 in
theorem ggL_law_X7_chance : GoodIn wsL_law wsX7_chance := goodIn_r _ [250, 156, 251, 110, 252, 253, 254, 5, 255, 108, 157, 158, 159, 256, 257, 258, 259, 260, 261, 111, 262, 263, 264, 265, 124, 125, 126, 127, 266, 267, 268, 269, 270, 271, 272, 482, 483, 484, 485, 486, 487, 488, 489, 490, 491, 492] (by decide +kernel) (by decide +kernel)
set_option maxRecDepth 20000 in
theorem gL_law_X7_chance : GoodIn wsL_law (wsV RL 27 RX7 yX7_chance wsX7_chance) := goodIn_app (goodIn_of _ (by decide +kernel)) ggL_law_X7_chance
set_option maxRecDepth 20000 in
theorem ggL_law_X6_lasts : GoodIn wsL_law wsX6_lasts := goodIn_r _ [276, 193, 19, 277, 195, 196, 197, 2, 198, 15, 199, 200, 168, 142, 143, 201, 202, 203, 204, 205, 206, 18, 207, 48, 49, 50, 208, 51, 209, 177, 58, 178, 210, 211, 212, 14, 213, 32, 33, 214, 215, 216, 217, 46, 47, 218, 219, 173, 174, 175, 141, 57, 59, 176, 34, 179, 180, 181, 220, 221, 222, 223, 224, 225, 226, 227, 228, 229, 45, 230, 62, 60, 231, 232, 233, 234, 235, 236, 237, 238, 239, 240, 241, 242, 243, 244, 245, 246, 477, 478, 479, 480, 481, 500, 501, 502, 503, 504, 493, 494, 495, 496, 497, 498, 499, 518, 519] (by decide +kernel) (by decide +kernel)
set_option maxRecDepth 20000 in
theorem gL_law_X6_lasts : GoodIn wsL_law (wsV RL 28 RX6 yX6_lasts wsX6_lasts) := goodIn_app (goodIn_of _ (by decide +kernel)) ggL_law_X6_lasts
set_option maxRecDepth 20000 in
theorem ggL_law_X7_lasts : GoodIn wsL_law wsX7_lasts := goodIn_r _ [281, 156, 251, 111, 252, 253, 254, 5, 255, 108, 157, 158, 159, 256, 257, 258, 259, 260, 261, 110, 262, 263, 264, 265, 124, 125, 126, 127, 266, 267, 268, 269, 270, 271, 272, 482, 483, 484, 485, 486, 487, 488, 489, 490, 491, 492] (by decide +kernel) (by decide +kernel)
set_option maxRecDepth 20000 in
theorem gL_law_X7_lasts : GoodIn wsL_law (wsV RL 31 RX7 yX7_lasts wsX7_lasts) := goodIn_app (goodIn_of _ (by decide +kernel)) ggL_law_X7_lasts
set_option maxRecDepth 20000 in
theorem ggL_law_X6_weight : GoodIn wsL_law wsX6_weight := goodIn_r _ [285, 193, 15, 200, 19, 199, 195, 196, 197, 2, 198, 168, 142, 143, 201, 202, 203, 172, 173, 174, 14, 175, 141, 57, 58, 59, 176, 177, 178, 34, 179, 180, 181, 204, 205, 206, 18, 207, 48, 49, 50, 208, 51, 209, 210, 211, 212, 213, 32, 33, 214, 215, 216, 217, 46, 47, 218, 219, 220, 221, 222, 223, 224, 225, 226, 227, 228, 229, 45, 230, 62, 60, 231, 232, 233, 234, 235, 236, 237, 238, 286, 287, 288, 289, 240, 241, 242, 243, 244, 245, 246, 477, 478, 479, 480, 481, 493, 494, 495, 496, 497, 498, 499, 500, 501, 502, 503, 504, 518, 519] (by decide +kernel) (by decide +kernel)
set_option maxRecDepth 20000 in
theorem gL_law_X6_weight : GoodIn wsL_law (wsV RL 32 RX6 yX6_weight wsX6_weight) := goodIn_app (goodIn_of _ (by decide +kernel)) ggL_law_X6_weight
set_option maxRecDepth 20000 in
theorem ggL_law_X7_weight : GoodIn wsL_law wsX7_weight := goodIn_r _ [293, 156, 108, 251, 110, 252, 253, 254, 5, 255, 157, 158, 159, 124, 125, 126, 127, 256, 257, 258, 259, 260, 261, 111, 262, 263, 264, 265, 266, 267, 268, 269, 270, 271, 272, 482, 483, 484, 485, 486, 487, 488, 489, 490, 491, 492] (by decide +kernel) (by decide +kernel)
set_option maxRecDepth 20000 in
theorem gL_law_X7_weight : GoodIn wsL_law (wsV RL 35 RX7 yX7_weight wsX7_weight) := goodIn_app (goodIn_of _ (by decide +kernel)) ggL_law_X7_weight
set_option maxRecDepth 20000 in
theorem ggL_law_X6_heaviest : GoodIn wsL_law wsX6_heaviest := goodIn_r _ [297, 19, 201, 202, 2, 203, 204, 205, 206, 18, 207, 48, 49, 50, 208, 51, 209, 177, 58, 178, 210, 211, 212, 14, 213, 32, 33, 214, 215, 216, 217, 46, 47, 218, 219, 173, 174, 175, 141, 57, 59, 176, 34, 179, 180, 181, 220, 221, 222, 223, 224, 225, 226, 227, 228, 229, 45, 230, 62, 60, 231, 232, 233, 234, 235, 236, 237, 238, 298, 299, 300, 301, 302, 303, 287, 288, 289, 477, 478, 479, 480, 481, 500, 501, 502, 503, 504, 493, 494, 495, 496, 497, 498, 499, 518, 519] (by decide +kernel) (by decide +kernel)
set_option maxRecDepth 20000 in
theorem gL_law_X6_heaviest : GoodIn wsL_law (wsV RL 36 RX6 yX6_heaviest wsX6_heaviest) := goodIn_app (goodIn_of _ (by decide +kernel)) ggL_law_X6_heaviest
set_option maxRecDepth 20000 in
theorem ggL_law_X7_heaviest : GoodIn wsL_law wsX7_heaviest := goodIn_r _ [307, 156, 308, 108, 110, 157, 158, 5, 159, 256, 257, 258, 259, 260, 261, 111, 262, 263, 264, 265, 124, 125, 126, 127, 482, 483, 484, 485, 486, 487, 488, 489, 490, 491, 492] (by decide +kernel) (by decide +kernel)
set_option maxRecDepth 20000 in
theorem gL_law_X7_heaviest : GoodIn wsL_law (wsV RL 39 RX7 yX7_heaviest wsX7_heaviest) := goodIn_app (goodIn_of _ (by decide +kernel)) ggL_law_X7_heaviest
set_option maxRecDepth 20000 in
theorem ggL_law_X6_game : GoodIn wsL_law wsX6_game := goodIn_r _ [312, 19, 201, 202, 2, 203, 313, 314, 315, 18, 316, 48, 46, 317, 318, 205, 206, 207, 49, 50, 208, 51, 209, 177, 58, 178, 210, 211, 212, 14, 213, 32, 33, 214, 215, 216, 217, 47, 218, 219, 173, 174, 175, 141, 57, 59, 176, 34, 179, 180, 181, 220, 221, 222, 223, 224, 225, 226, 227, 228, 229, 45, 230, 62, 60, 231, 232, 233, 234, 235, 236, 237, 238, 319, 320, 321, 322, 37, 477, 478, 479, 480, 481, 500, 501, 502, 503, 504, 493, 494, 495, 496, 497, 498, 499, 518, 519] (by decide +kernel) (by decide +kernel)
set_option maxRecDepth 20000 in
theorem gL_law_X6_game : GoodIn wsL_law (wsV RL 40 RX6 yX6_game wsX6_game) := goodIn_app (goodIn_of _ (by decide +kernel)) ggL_law_X6_game
set_option maxRecDepth 20000 in
theorem ggL_law_X7_game : GoodIn wsL_law wsX7_game := goodIn_r _ [326, 156, 157, 158, 5, 159, 327, 328, 329, 330, 110, 108, 331, 261, 256, 257, 258, 259, 260, 111, 262, 263, 264, 265, 124, 125, 126, 127, 482, 483, 484, 485, 486, 487, 488, 489, 490, 491, 492] (by decide +kernel) (by decide +kernel)
set_option maxRecDepth 20000 in
theorem gL_law_X7_game : GoodIn wsL_law (wsV RL 44 RX7 yX7_game wsX7_game) := goodIn_app (goodIn_of _ (by decide +kernel)) ggL_law_X7_game
set_option maxRecDepth 20000 in
theorem ggL_law_X6_round : GoodIn wsL_law wsX6_round := goodIn_r _ [335, 15, 336, 23, 19, 168, 142, 2, 143, 201, 202, 203, 313, 314, 315, 18, 316, 48, 46, 317, 318, 205, 206, 207, 49, 50, 208, 51, 209, 177, 58, 178, 210, 211, 212, 14, 213, 32, 33, 214, 215, 216, 217, 47, 218, 219, 173, 174, 175, 141, 57, 59, 176, 34, 179, 180, 181, 220, 221, 222, 223, 224, 225, 226, 227, 228, 229, 45, 230, 62, 60, 231, 232, 233, 234, 235, 236, 237, 238, 319, 320, 321, 322, 37, 337, 338, 339, 22, 340, 70, 341, 342, 68, 343, 344, 345, 346, 35, 347, 348, 349, 350, 351, 352, 353, 354, 355, 477, 478, 479, 480, 481, 493, 494, 495, 496, 497, 498, 499, 500, 501, 502, 503, 504, 518, 519, 505, 506, 507] (by decide +kernel) (by decide +kernel)
set_option maxRecDepth 20000 in
theorem gL_law_X6_round : GoodIn wsL_law (wsV RL 45 RX6 yX6_round wsX6_round) := goodIn_app (goodIn_of _ (by decide +kernel)) ggL_law_X6_round
set_option maxRecDepth 20000 in
theorem ggL_law_X7_round : GoodIn wsL_law wsX7_round := goodIn_r _ [359, 156, 108, 112, 157, 158, 5, 159, 360, 361, 362, 363, 331, 364, 327, 328, 329, 330, 110, 261, 256, 257, 258, 259, 260, 111, 262, 263, 264, 265, 124, 125, 126, 127, 482, 483, 484, 485, 486, 487, 488, 489, 490, 491, 492] (by decide +kernel) (by decide +kernel)
set_option maxRecDepth 20000 in
theorem gL_law_X7_round : GoodIn wsL_law (wsV RL 48 RX7 yX7_round wsX7_round) := goodIn_app (goodIn_of _ (by decide +kernel)) ggL_law_X7_round
set_option maxRecDepth 20000 in
theorem ggL_law_X6_match : GoodIn wsL_law wsX6_match := goodIn_r _ [368, 15, 369, 23, 19, 168, 142, 2, 143, 201, 202, 203, 313, 314, 315, 18, 316, 48, 46, 317, 318, 205, 206, 207, 49, 50, 208, 51, 209, 177, 58, 178, 210, 211, 212, 14, 213, 32, 33, 214, 215, 216, 217, 47, 218, 219, 173, 174, 175, 141, 57, 59, 176, 34, 179, 180, 181, 220, 221, 222, 223, 224, 225, 226, 227, 228, 229, 45, 230, 62, 60, 231, 232, 233, 234, 235, 236, 237, 238, 319, 320, 321, 322, 37, 370, 371, 372, 22, 373, 70, 374, 69, 375, 338, 339, 340, 341, 342, 68, 343, 344, 345, 346, 35, 347, 348, 349, 350, 351, 352, 353, 354, 355, 376, 377, 378, 379, 36, 477, 478, 479, 480, 481, 493, 494, 495, 496, 497, 498, 499, 500, 501, 502, 503, 504, 518, 519, 505, 506, 507] (by decide +kernel) (by decide +kernel)
set_option maxRecDepth 20000 in
theorem gL_law_X6_match : GoodIn wsL_law (wsV RL 49 RX6 yX6_match wsX6_match) := goodIn_app (goodIn_of _ (by decide +kernel)) ggL_law_X6_match
set_option maxRecDepth 20000 in
theorem ggL_law_X7_match : GoodIn wsL_law wsX7_match := goodIn_r _ [383, 156, 108, 112, 331, 157, 158, 5, 159, 360, 361, 362, 363, 364, 327, 328, 329, 330, 110, 261, 256, 257, 258, 259, 260, 111, 262, 263, 264, 265, 124, 125, 126, 127, 482, 483, 484, 485, 486, 487, 488, 489, 490, 491, 492] (by decide +kernel) (by decide +kernel)
set_option maxRecDepth 20000 in
theorem gL_law_X7_match : GoodIn wsL_law (wsV RL 52 RX7 yX7_match wsX7_match) := goodIn_app (goodIn_of _ (by decide +kernel)) ggL_law_X7_match
set_option maxRecDepth 20000 in
theorem ggL_law_X6_point : GoodIn wsL_law wsX6_point := goodIn_r _ [387, 27, 136, 201, 202, 2, 203, 388, 389, 390, 26, 391, 86, 83, 392, 393, 394, 377, 378, 14, 379, 36, 179, 180, 181, 395, 396, 397, 398, 96, 77, 95, 84, 85, 81, 399, 400, 401, 402, 80, 403, 101, 102, 404, 405, 406, 407, 408, 320, 321, 322, 37, 409, 173, 174, 175, 141, 57, 58, 59, 176, 177, 178, 34, 410, 411, 412, 413, 82, 97, 98, 99, 100, 414, 344, 345, 346, 35, 347, 348, 349, 415, 416, 417, 418, 94, 477, 478, 479, 480, 481, 508, 509, 510, 511, 512, 513, 514, 515, 516, 517, 520, 521, 493, 494, 495, 496, 497, 498, 499] (by decide +kernel) (by decide +kernel)
set_option maxRecDepth 20000 in
theorem gL_law_X6_point : GoodIn wsL_law (wsV RL 53 RX6 yX6_point wsX6_point) := goodIn_app (goodIn_of _ (by decide +kernel)) ggL_law_X6_point
set_option maxRecDepth 20000 in
theorem ggL_law_X7_point : GoodIn wsL_law wsX7_point := goodIn_r _ [422, 156, 113, 119, 109, 157, 158, 5, 159, 114, 115, 116, 117, 118, 108, 120, 121, 122, 123, 124, 125, 126, 127, 128, 129, 130, 131, 482, 483, 484, 485, 486, 487, 488, 489, 490, 491, 492] (by decide +kernel) (by decide +kernel)
set_option maxRecDepth 20000 in
theorem gL_law_X7_point : GoodIn wsL_law (wsV RL 56 RX7 yX7_point wsX7_point) := goodIn_app (goodIn_of _ (by decide +kernel)) ggL_law_X7_point
set_option maxRecDepth 20000 in
theorem ggL_law_X6_back : GoodIn wsL_law wsX6_back := goodIn_r _ [426, 27, 168, 142, 2, 143, 427, 428, 429, 26, 430, 96, 431, 57, 58, 59, 77, 90, 91, 92, 93, 81, 82, 83, 84, 85, 94, 95, 97, 98, 99, 80, 100, 101, 102, 432, 396, 397, 398, 86, 399, 393, 400, 401, 402, 403, 404, 405, 406, 407, 392, 408, 320, 321, 14, 322, 37, 409, 173, 174, 175, 141, 176, 177, 178, 34, 179, 180, 181, 410, 411, 412, 413, 414, 344, 345, 346, 35, 347, 348, 349, 415, 416, 417, 418, 477, 478, 479, 480, 481, 508, 509, 510, 511, 512, 513, 514, 515, 516, 517, 520, 521, 493, 494, 495, 496, 497, 498, 499] (by decide +kernel) (by decide +kernel)
set_option maxRecDepth 20000 in
theorem gL_law_X6_back : GoodIn wsL_law (wsV RL 57 RX6 yX6_back wsX6_back) := goodIn_app (goodIn_of _ (by decide +kernel)) ggL_law_X6_back
set_option maxRecDepth 20000 in
theorem ggL_law_X7_back : GoodIn wsL_law wsX7_back := goodIn_r _ [436, 156, 119, 157, 158, 5, 159, 114, 115, 116, 117, 113, 118, 109, 108, 120, 121, 122, 123, 124, 125, 126, 127, 128, 129, 130, 131, 482, 483, 484, 485, 486, 487, 488, 489, 490, 491, 492] (by decide +kernel) (by decide +kernel)
set_option maxRecDepth 20000 in
theorem gL_law_X7_back : GoodIn wsL_law (wsV RL 60 RX7 yX7_back wsX7_back) := goodIn_app (goodIn_of _ (by decide +kernel)) ggL_law_X7_back
set_option maxRecDepth 20000 in
theorem ggL_law_X6_score : GoodIn wsL_law wsX6_score := goodIn_r _ [440, 27, 168, 142, 2, 143, 441, 442, 443, 26, 444, 81, 393, 82, 392, 83, 95, 96, 84, 85, 404, 405, 406, 407, 86, 408, 320, 321, 14, 322, 37, 445, 389, 390, 391, 394, 377, 378, 379, 36, 179, 180, 181, 477, 478, 479, 480, 481, 508, 509, 510, 511, 512, 513, 514, 515, 516, 517, 520, 521, 493, 494, 495, 496, 497, 498, 499] (by decide +kernel) (by decide +kernel)
set_option maxRecDepth 20000 in
theorem gL_law_X6_score : GoodIn wsL_law (wsV RL 61 RX6 yX6_score wsX6_score) := goodIn_app (goodIn_of _ (by decide +kernel)) ggL_law_X6_score
set_option maxRecDepth 20000 in
theorem ggL_law_X7_score : GoodIn wsL_law wsX7_score := goodIn_r _ [449, 156, 113, 157, 158, 5, 159, 482, 483, 484, 485, 486, 487, 488, 489, 490, 491, 492] (by decide +kernel) (by decide +kernel)
set_option maxRecDepth 20000 in
theorem gL_law_X7_score : GoodIn wsL_law (wsV RL 64 RX7 yX7_score wsX7_score) := goodIn_app (goodIn_of _ (by decide +kernel)) ggL_law_X7_score
set_option maxRecDepth 20000 in
theorem ggL_law_X6_likeliest : GoodIn wsL_law wsX6_likeliest := goodIn_r _ [453, 168, 142, 2, 143, 454, 455, 456] (by decide +kernel) (by decide +kernel)
set_option maxRecDepth 20000 in
theorem gL_law_X6_likeliest : GoodIn wsL_law (wsV RL 65 RX6 yX6_likeliest wsX6_likeliest) := goodIn_app (goodIn_of _ (by decide +kernel)) ggL_law_X6_likeliest
set_option maxRecDepth 20000 in
theorem ggL_law_X7_likeliest : GoodIn wsL_law wsX7_likeliest := goodIn_r _ [460, 156, 157, 158, 5, 159, 482, 483, 484, 485, 486, 487, 488, 489, 490, 491, 492] (by decide +kernel) (by decide +kernel)
set_option maxRecDepth 20000 in
theorem gL_law_X7_likeliest : GoodIn wsL_law (wsV RL 68 RX7 yX7_likeliest wsX7_likeliest) := goodIn_app (goodIn_of _ (by decide +kernel)) ggL_law_X7_likeliest
set_option maxRecDepth 20000 in
theorem ggL_law_X6_count : GoodIn wsL_law wsX6_count := goodIn_r _ [464, 15, 144, 145, 146, 14, 147, 32, 33, 34, 35, 36, 37, 38, 477, 478, 479, 480, 481, 493, 494, 495, 496, 497, 498, 499] (by decide +kernel) (by decide +kernel)
set_option maxRecDepth 20000 in
theorem gL_law_X6_count : GoodIn wsL_law (wsV RL 69 RX6 yX6_count wsX6_count) := goodIn_app (goodIn_of _ (by decide +kernel)) ggL_law_X6_count
set_option maxRecDepth 20000 in
theorem ggL_law_X7_count : GoodIn wsL_law wsX7_count := goodIn_r _ [468, 156, 108, 157, 158, 5, 159, 482, 483, 484, 485, 486, 487, 488, 489, 490, 491, 492] (by decide +kernel) (by decide +kernel)
set_option maxRecDepth 20000 in
theorem gL_law_X7_count : GoodIn wsL_law (wsV RL 72 RX7 yX7_count wsX7_count) := goodIn_app (goodIn_of _ (by decide +kernel)) ggL_law_X7_count
set_option maxRecDepth 20000 in
theorem ggL_law_X6_trace : GoodIn wsL_law wsX6_trace := goodIn_r _ [472, 28, 477, 478, 479, 480, 481] (by decide +kernel) (by decide +kernel)
set_option maxRecDepth 20000 in
theorem gL_law_X6_trace : GoodIn wsL_law (wsV RL 73 RX6 yX6_trace wsX6_trace) := goodIn_app (goodIn_of _ (by decide +kernel)) ggL_law_X6_trace
set_option maxRecDepth 20000 in
theorem ggL_law_X7_trace : GoodIn wsL_law wsX7_trace := goodIn_r _ [476, 156, 186, 482, 483, 484, 485, 486, 487, 488, 489, 490, 491, 492] (by decide +kernel) (by decide +kernel)
set_option maxRecDepth 20000 in
theorem gL_law_X7_trace : GoodIn wsL_law (wsV RL 77 RX7 yX7_trace wsX7_trace) := goodIn_app (goodIn_of _ (by decide +kernel)) ggL_law_X7_trace
theorem dL_law_0 : decode cL_law 0 = .ok (.new 7, 3) := by decide +kernel
theorem dL_law_3 : decode cL_law 3 = .ok (.dup, 1) := by decide +kernel
theorem dL_law_4 : decode cL_law 4 = .ok (.invokespecial 9, 3) := by decide +kernel
theorem dL_law_7 : decode cL_law 7 = .ok (.astore_n 1, 1) := by decide +kernel
theorem dL_law_8 : decode cL_law 8 = .ok (.new 10, 3) := by decide +kernel
theorem dL_law_11 : decode cL_law 11 = .ok (.dup, 1) := by decide +kernel
theorem dL_law_12 : decode cL_law 12 = .ok (.invokespecial 12, 3) := by decide +kernel
theorem dL_law_15 : decode cL_law 15 = .ok (.astore_n 2, 1) := by decide +kernel
theorem dL_law_16 : decode cL_law 16 = .ok (.iconst 0, 1) := by decide +kernel
theorem dL_law_17 : decode cL_law 17 = .ok (.istore_n 3, 1) := by decide +kernel
theorem dL_law_18 : decode cL_law 18 = .ok (.iload_n 3, 1) := by decide +kernel
theorem dL_law_19 : decode cL_law 19 = .ok (.aload_n 0, 1) := by decide +kernel
theorem dL_law_20 : decode cL_law 20 = .ok (.arraylength, 1) := by decide +kernel
theorem dL_law_21 : decode cL_law 21 = .ok (.iconst 5, 1) := by decide +kernel
theorem dL_law_22 : decode cL_law 22 = .ok (.isub, 1) := by decide +kernel
theorem dL_law_23 : decode cL_law 23 = .ok (.if_icmp .gt 610, 3) := by decide +kernel
theorem dL_law_26 : decode cL_law 26 = .ok (.aload_n 0, 1) := by decide +kernel
theorem dL_law_27 : decode cL_law 27 = .ok (.iload_n 3, 1) := by decide +kernel
theorem dL_law_28 : decode cL_law 28 = .ok (.iaload, 1) := by decide +kernel
theorem dL_law_29 : decode cL_law 29 = .ok (.bipush 15, 2) := by decide +kernel
theorem dL_law_31 : decode cL_law 31 = .ok (.iand, 1) := by decide +kernel
theorem dL_law_32 : decode cL_law 32 = .ok (.tableswitch 595 0 14 #[76, 109, 152, 206, 260, 314, 347, 370, 413, 456, 479, 502, 525, 558, 581], 76) := by decide +kernel
theorem dL_law_108 : decode cL_law 108 = .ok (.aload_n 1, 1) := by decide +kernel
theorem dL_law_109 : decode cL_law 109 = .ok (.aload_n 0, 1) := by decide +kernel
theorem dL_law_110 : decode cL_law 110 = .ok (.iload_n 3, 1) := by decide +kernel
theorem dL_law_111 : decode cL_law 111 = .ok (.iconst 1, 1) := by decide +kernel
theorem dL_law_112 : decode cL_law 112 = .ok (.iadd, 1) := by decide +kernel
theorem dL_law_113 : decode cL_law 113 = .ok (.iaload, 1) := by decide +kernel
theorem dL_law_114 : decode cL_law 114 = .ok (.aload_n 0, 1) := by decide +kernel
theorem dL_law_115 : decode cL_law 115 = .ok (.iload_n 3, 1) := by decide +kernel
theorem dL_law_116 : decode cL_law 116 = .ok (.iconst 2, 1) := by decide +kernel
theorem dL_law_117 : decode cL_law 117 = .ok (.iadd, 1) := by decide +kernel
theorem dL_law_118 : decode cL_law 118 = .ok (.iaload, 1) := by decide +kernel
theorem dL_law_119 : decode cL_law 119 = .ok (.invokevirtual 13, 3) := by decide +kernel
theorem dL_law_122 : decode cL_law 122 = .ok (.aload_n 2, 1) := by decide +kernel
theorem dL_law_123 : decode cL_law 123 = .ok (.aload_n 0, 1) := by decide +kernel
theorem dL_law_124 : decode cL_law 124 = .ok (.iload_n 3, 1) := by decide +kernel
theorem dL_law_125 : decode cL_law 125 = .ok (.iconst 1, 1) := by decide +kernel
theorem dL_law_126 : decode cL_law 126 = .ok (.iadd, 1) := by decide +kernel
theorem dL_law_127 : decode cL_law 127 = .ok (.iaload, 1) := by decide +kernel
theorem dL_law_128 : decode cL_law 128 = .ok (.aload_n 0, 1) := by decide +kernel
theorem dL_law_129 : decode cL_law 129 = .ok (.iload_n 3, 1) := by decide +kernel
theorem dL_law_130 : decode cL_law 130 = .ok (.iconst 2, 1) := by decide +kernel
theorem dL_law_131 : decode cL_law 131 = .ok (.iadd, 1) := by decide +kernel
theorem dL_law_132 : decode cL_law 132 = .ok (.iaload, 1) := by decide +kernel
theorem dL_law_133 : decode cL_law 133 = .ok (.invokevirtual 17, 3) := by decide +kernel
theorem dL_law_136 : decode cL_law 136 = .ok (.if_icmp .eq 491, 3) := by decide +kernel
theorem dL_law_139 : decode cL_law 139 = .ok (.iconst 0, 1) := by decide +kernel
theorem dL_law_140 : decode cL_law 140 = .ok (.ireturn, 1) := by decide +kernel
theorem dL_law_141 : decode cL_law 141 = .ok (.aload_n 1, 1) := by decide +kernel
theorem dL_law_142 : decode cL_law 142 = .ok (.aload_n 0, 1) := by decide +kernel
theorem dL_law_143 : decode cL_law 143 = .ok (.iload_n 3, 1) := by decide +kernel
theorem dL_law_144 : decode cL_law 144 = .ok (.iconst 1, 1) := by decide +kernel
theorem dL_law_145 : decode cL_law 145 = .ok (.iadd, 1) := by decide +kernel
theorem dL_law_146 : decode cL_law 146 = .ok (.iaload, 1) := by decide +kernel
theorem dL_law_147 : decode cL_law 147 = .ok (.aload_n 0, 1) := by decide +kernel
theorem dL_law_148 : decode cL_law 148 = .ok (.iload_n 3, 1) := by decide +kernel
theorem dL_law_149 : decode cL_law 149 = .ok (.iconst 2, 1) := by decide +kernel
theorem dL_law_150 : decode cL_law 150 = .ok (.iadd, 1) := by decide +kernel
theorem dL_law_151 : decode cL_law 151 = .ok (.iaload, 1) := by decide +kernel
theorem dL_law_152 : decode cL_law 152 = .ok (.aload_n 0, 1) := by decide +kernel
theorem dL_law_153 : decode cL_law 153 = .ok (.iload_n 3, 1) := by decide +kernel
theorem dL_law_154 : decode cL_law 154 = .ok (.iconst 3, 1) := by decide +kernel
theorem dL_law_155 : decode cL_law 155 = .ok (.iadd, 1) := by decide +kernel
theorem dL_law_156 : decode cL_law 156 = .ok (.iaload, 1) := by decide +kernel
theorem dL_law_157 : decode cL_law 157 = .ok (.invokevirtual 18, 3) := by decide +kernel
theorem dL_law_160 : decode cL_law 160 = .ok (.aload_n 2, 1) := by decide +kernel
theorem dL_law_161 : decode cL_law 161 = .ok (.aload_n 0, 1) := by decide +kernel
theorem dL_law_162 : decode cL_law 162 = .ok (.iload_n 3, 1) := by decide +kernel
theorem dL_law_163 : decode cL_law 163 = .ok (.iconst 1, 1) := by decide +kernel
theorem dL_law_164 : decode cL_law 164 = .ok (.iadd, 1) := by decide +kernel
theorem dL_law_165 : decode cL_law 165 = .ok (.iaload, 1) := by decide +kernel
theorem dL_law_166 : decode cL_law 166 = .ok (.aload_n 0, 1) := by decide +kernel
theorem dL_law_167 : decode cL_law 167 = .ok (.iload_n 3, 1) := by decide +kernel
theorem dL_law_168 : decode cL_law 168 = .ok (.iconst 2, 1) := by decide +kernel
theorem dL_law_169 : decode cL_law 169 = .ok (.iadd, 1) := by decide +kernel
theorem dL_law_170 : decode cL_law 170 = .ok (.iaload, 1) := by decide +kernel
theorem dL_law_171 : decode cL_law 171 = .ok (.aload_n 0, 1) := by decide +kernel
theorem dL_law_172 : decode cL_law 172 = .ok (.iload_n 3, 1) := by decide +kernel
theorem dL_law_173 : decode cL_law 173 = .ok (.iconst 3, 1) := by decide +kernel
theorem dL_law_174 : decode cL_law 174 = .ok (.iadd, 1) := by decide +kernel
theorem dL_law_175 : decode cL_law 175 = .ok (.iaload, 1) := by decide +kernel
theorem dL_law_176 : decode cL_law 176 = .ok (.invokevirtual 22, 3) := by decide +kernel
theorem dL_law_179 : decode cL_law 179 = .ok (.if_icmp .eq 448, 3) := by decide +kernel
theorem dL_law_182 : decode cL_law 182 = .ok (.iconst 0, 1) := by decide +kernel
theorem dL_law_183 : decode cL_law 183 = .ok (.ireturn, 1) := by decide +kernel
theorem dL_law_184 : decode cL_law 184 = .ok (.aload_n 1, 1) := by decide +kernel
theorem dL_law_185 : decode cL_law 185 = .ok (.aload_n 0, 1) := by decide +kernel
theorem dL_law_186 : decode cL_law 186 = .ok (.iload_n 3, 1) := by decide +kernel
theorem dL_law_187 : decode cL_law 187 = .ok (.iconst 1, 1) := by decide +kernel
theorem dL_law_188 : decode cL_law 188 = .ok (.iadd, 1) := by decide +kernel
theorem dL_law_189 : decode cL_law 189 = .ok (.iaload, 1) := by decide +kernel
theorem dL_law_190 : decode cL_law 190 = .ok (.aload_n 0, 1) := by decide +kernel
theorem dL_law_191 : decode cL_law 191 = .ok (.iload_n 3, 1) := by decide +kernel
theorem dL_law_192 : decode cL_law 192 = .ok (.iconst 2, 1) := by decide +kernel
theorem dL_law_193 : decode cL_law 193 = .ok (.iadd, 1) := by decide +kernel
theorem dL_law_194 : decode cL_law 194 = .ok (.iaload, 1) := by decide +kernel
theorem dL_law_195 : decode cL_law 195 = .ok (.aload_n 0, 1) := by decide +kernel
theorem dL_law_196 : decode cL_law 196 = .ok (.iload_n 3, 1) := by decide +kernel
theorem dL_law_197 : decode cL_law 197 = .ok (.iconst 3, 1) := by decide +kernel
theorem dL_law_198 : decode cL_law 198 = .ok (.iadd, 1) := by decide +kernel
theorem dL_law_199 : decode cL_law 199 = .ok (.iaload, 1) := by decide +kernel
theorem dL_law_200 : decode cL_law 200 = .ok (.aload_n 0, 1) := by decide +kernel
theorem dL_law_201 : decode cL_law 201 = .ok (.iload_n 3, 1) := by decide +kernel
theorem dL_law_202 : decode cL_law 202 = .ok (.iconst 4, 1) := by decide +kernel
theorem dL_law_203 : decode cL_law 203 = .ok (.iadd, 1) := by decide +kernel
theorem dL_law_204 : decode cL_law 204 = .ok (.iaload, 1) := by decide +kernel
theorem dL_law_205 : decode cL_law 205 = .ok (.invokevirtual 23, 3) := by decide +kernel
theorem dL_law_208 : decode cL_law 208 = .ok (.aload_n 2, 1) := by decide +kernel
theorem dL_law_209 : decode cL_law 209 = .ok (.aload_n 0, 1) := by decide +kernel
theorem dL_law_210 : decode cL_law 210 = .ok (.iload_n 3, 1) := by decide +kernel
theorem dL_law_211 : decode cL_law 211 = .ok (.iconst 1, 1) := by decide +kernel
theorem dL_law_212 : decode cL_law 212 = .ok (.iadd, 1) := by decide +kernel
theorem dL_law_213 : decode cL_law 213 = .ok (.iaload, 1) := by decide +kernel
theorem dL_law_214 : decode cL_law 214 = .ok (.aload_n 0, 1) := by decide +kernel
theorem dL_law_215 : decode cL_law 215 = .ok (.iload_n 3, 1) := by decide +kernel
theorem dL_law_216 : decode cL_law 216 = .ok (.iconst 2, 1) := by decide +kernel
theorem dL_law_217 : decode cL_law 217 = .ok (.iadd, 1) := by decide +kernel
theorem dL_law_218 : decode cL_law 218 = .ok (.iaload, 1) := by decide +kernel
theorem dL_law_219 : decode cL_law 219 = .ok (.aload_n 0, 1) := by decide +kernel
theorem dL_law_220 : decode cL_law 220 = .ok (.iload_n 3, 1) := by decide +kernel
theorem dL_law_221 : decode cL_law 221 = .ok (.iconst 3, 1) := by decide +kernel
theorem dL_law_222 : decode cL_law 222 = .ok (.iadd, 1) := by decide +kernel
theorem dL_law_223 : decode cL_law 223 = .ok (.iaload, 1) := by decide +kernel
theorem dL_law_224 : decode cL_law 224 = .ok (.aload_n 0, 1) := by decide +kernel
theorem dL_law_225 : decode cL_law 225 = .ok (.iload_n 3, 1) := by decide +kernel
theorem dL_law_226 : decode cL_law 226 = .ok (.iconst 4, 1) := by decide +kernel
theorem dL_law_227 : decode cL_law 227 = .ok (.iadd, 1) := by decide +kernel
theorem dL_law_228 : decode cL_law 228 = .ok (.iaload, 1) := by decide +kernel
theorem dL_law_229 : decode cL_law 229 = .ok (.invokevirtual 27, 3) := by decide +kernel
theorem dL_law_232 : decode cL_law 232 = .ok (.lcmp, 1) := by decide +kernel
theorem dL_law_233 : decode cL_law 233 = .ok (.ifCond .eq 394, 3) := by decide +kernel
theorem dL_law_236 : decode cL_law 236 = .ok (.iconst 0, 1) := by decide +kernel
theorem dL_law_237 : decode cL_law 237 = .ok (.ireturn, 1) := by decide +kernel
theorem dL_law_238 : decode cL_law 238 = .ok (.aload_n 1, 1) := by decide +kernel
theorem dL_law_239 : decode cL_law 239 = .ok (.aload_n 0, 1) := by decide +kernel
theorem dL_law_240 : decode cL_law 240 = .ok (.iload_n 3, 1) := by decide +kernel
theorem dL_law_241 : decode cL_law 241 = .ok (.iconst 1, 1) := by decide +kernel
theorem dL_law_242 : decode cL_law 242 = .ok (.iadd, 1) := by decide +kernel
theorem dL_law_243 : decode cL_law 243 = .ok (.iaload, 1) := by decide +kernel
theorem dL_law_244 : decode cL_law 244 = .ok (.aload_n 0, 1) := by decide +kernel
theorem dL_law_245 : decode cL_law 245 = .ok (.iload_n 3, 1) := by decide +kernel
theorem dL_law_246 : decode cL_law 246 = .ok (.iconst 2, 1) := by decide +kernel
theorem dL_law_247 : decode cL_law 247 = .ok (.iadd, 1) := by decide +kernel
theorem dL_law_248 : decode cL_law 248 = .ok (.iaload, 1) := by decide +kernel
theorem dL_law_249 : decode cL_law 249 = .ok (.aload_n 0, 1) := by decide +kernel
theorem dL_law_250 : decode cL_law 250 = .ok (.iload_n 3, 1) := by decide +kernel
theorem dL_law_251 : decode cL_law 251 = .ok (.iconst 3, 1) := by decide +kernel
theorem dL_law_252 : decode cL_law 252 = .ok (.iadd, 1) := by decide +kernel
theorem dL_law_253 : decode cL_law 253 = .ok (.iaload, 1) := by decide +kernel
theorem dL_law_254 : decode cL_law 254 = .ok (.aload_n 0, 1) := by decide +kernel
theorem dL_law_255 : decode cL_law 255 = .ok (.iload_n 3, 1) := by decide +kernel
theorem dL_law_256 : decode cL_law 256 = .ok (.iconst 4, 1) := by decide +kernel
theorem dL_law_257 : decode cL_law 257 = .ok (.iadd, 1) := by decide +kernel
theorem dL_law_258 : decode cL_law 258 = .ok (.iaload, 1) := by decide +kernel
theorem dL_law_259 : decode cL_law 259 = .ok (.invokevirtual 28, 3) := by decide +kernel
theorem dL_law_262 : decode cL_law 262 = .ok (.aload_n 2, 1) := by decide +kernel
theorem dL_law_263 : decode cL_law 263 = .ok (.aload_n 0, 1) := by decide +kernel
theorem dL_law_264 : decode cL_law 264 = .ok (.iload_n 3, 1) := by decide +kernel
theorem dL_law_265 : decode cL_law 265 = .ok (.iconst 1, 1) := by decide +kernel
theorem dL_law_266 : decode cL_law 266 = .ok (.iadd, 1) := by decide +kernel
theorem dL_law_267 : decode cL_law 267 = .ok (.iaload, 1) := by decide +kernel
theorem dL_law_268 : decode cL_law 268 = .ok (.aload_n 0, 1) := by decide +kernel
theorem dL_law_269 : decode cL_law 269 = .ok (.iload_n 3, 1) := by decide +kernel
theorem dL_law_270 : decode cL_law 270 = .ok (.iconst 2, 1) := by decide +kernel
theorem dL_law_271 : decode cL_law 271 = .ok (.iadd, 1) := by decide +kernel
theorem dL_law_272 : decode cL_law 272 = .ok (.iaload, 1) := by decide +kernel
theorem dL_law_273 : decode cL_law 273 = .ok (.aload_n 0, 1) := by decide +kernel
theorem dL_law_274 : decode cL_law 274 = .ok (.iload_n 3, 1) := by decide +kernel
theorem dL_law_275 : decode cL_law 275 = .ok (.iconst 3, 1) := by decide +kernel
theorem dL_law_276 : decode cL_law 276 = .ok (.iadd, 1) := by decide +kernel
theorem dL_law_277 : decode cL_law 277 = .ok (.iaload, 1) := by decide +kernel
theorem dL_law_278 : decode cL_law 278 = .ok (.aload_n 0, 1) := by decide +kernel
theorem dL_law_279 : decode cL_law 279 = .ok (.iload_n 3, 1) := by decide +kernel
theorem dL_law_280 : decode cL_law 280 = .ok (.iconst 4, 1) := by decide +kernel
theorem dL_law_281 : decode cL_law 281 = .ok (.iadd, 1) := by decide +kernel
theorem dL_law_282 : decode cL_law 282 = .ok (.iaload, 1) := by decide +kernel
theorem dL_law_283 : decode cL_law 283 = .ok (.invokevirtual 31, 3) := by decide +kernel
theorem dL_law_286 : decode cL_law 286 = .ok (.lcmp, 1) := by decide +kernel
theorem dL_law_287 : decode cL_law 287 = .ok (.ifCond .eq 340, 3) := by decide +kernel
theorem dL_law_290 : decode cL_law 290 = .ok (.iconst 0, 1) := by decide +kernel
theorem dL_law_291 : decode cL_law 291 = .ok (.ireturn, 1) := by decide +kernel
theorem dL_law_292 : decode cL_law 292 = .ok (.aload_n 1, 1) := by decide +kernel
theorem dL_law_293 : decode cL_law 293 = .ok (.aload_n 0, 1) := by decide +kernel
theorem dL_law_294 : decode cL_law 294 = .ok (.iload_n 3, 1) := by decide +kernel
theorem dL_law_295 : decode cL_law 295 = .ok (.iconst 1, 1) := by decide +kernel
theorem dL_law_296 : decode cL_law 296 = .ok (.iadd, 1) := by decide +kernel
theorem dL_law_297 : decode cL_law 297 = .ok (.iaload, 1) := by decide +kernel
theorem dL_law_298 : decode cL_law 298 = .ok (.aload_n 0, 1) := by decide +kernel
theorem dL_law_299 : decode cL_law 299 = .ok (.iload_n 3, 1) := by decide +kernel
theorem dL_law_300 : decode cL_law 300 = .ok (.iconst 2, 1) := by decide +kernel
theorem dL_law_301 : decode cL_law 301 = .ok (.iadd, 1) := by decide +kernel
theorem dL_law_302 : decode cL_law 302 = .ok (.iaload, 1) := by decide +kernel
theorem dL_law_303 : decode cL_law 303 = .ok (.aload_n 0, 1) := by decide +kernel
theorem dL_law_304 : decode cL_law 304 = .ok (.iload_n 3, 1) := by decide +kernel
theorem dL_law_305 : decode cL_law 305 = .ok (.iconst 3, 1) := by decide +kernel
theorem dL_law_306 : decode cL_law 306 = .ok (.iadd, 1) := by decide +kernel
theorem dL_law_307 : decode cL_law 307 = .ok (.iaload, 1) := by decide +kernel
theorem dL_law_308 : decode cL_law 308 = .ok (.aload_n 0, 1) := by decide +kernel
theorem dL_law_309 : decode cL_law 309 = .ok (.iload_n 3, 1) := by decide +kernel
theorem dL_law_310 : decode cL_law 310 = .ok (.iconst 4, 1) := by decide +kernel
theorem dL_law_311 : decode cL_law 311 = .ok (.iadd, 1) := by decide +kernel
theorem dL_law_312 : decode cL_law 312 = .ok (.iaload, 1) := by decide +kernel
theorem dL_law_313 : decode cL_law 313 = .ok (.invokevirtual 32, 3) := by decide +kernel
theorem dL_law_316 : decode cL_law 316 = .ok (.aload_n 2, 1) := by decide +kernel
theorem dL_law_317 : decode cL_law 317 = .ok (.aload_n 0, 1) := by decide +kernel
theorem dL_law_318 : decode cL_law 318 = .ok (.iload_n 3, 1) := by decide +kernel
theorem dL_law_319 : decode cL_law 319 = .ok (.iconst 1, 1) := by decide +kernel
theorem dL_law_320 : decode cL_law 320 = .ok (.iadd, 1) := by decide +kernel
theorem dL_law_321 : decode cL_law 321 = .ok (.iaload, 1) := by decide +kernel
theorem dL_law_322 : decode cL_law 322 = .ok (.aload_n 0, 1) := by decide +kernel
theorem dL_law_323 : decode cL_law 323 = .ok (.iload_n 3, 1) := by decide +kernel
theorem dL_law_324 : decode cL_law 324 = .ok (.iconst 2, 1) := by decide +kernel
theorem dL_law_325 : decode cL_law 325 = .ok (.iadd, 1) := by decide +kernel
theorem dL_law_326 : decode cL_law 326 = .ok (.iaload, 1) := by decide +kernel
theorem dL_law_327 : decode cL_law 327 = .ok (.aload_n 0, 1) := by decide +kernel
theorem dL_law_328 : decode cL_law 328 = .ok (.iload_n 3, 1) := by decide +kernel
theorem dL_law_329 : decode cL_law 329 = .ok (.iconst 3, 1) := by decide +kernel
theorem dL_law_330 : decode cL_law 330 = .ok (.iadd, 1) := by decide +kernel
theorem dL_law_331 : decode cL_law 331 = .ok (.iaload, 1) := by decide +kernel
theorem dL_law_332 : decode cL_law 332 = .ok (.aload_n 0, 1) := by decide +kernel
theorem dL_law_333 : decode cL_law 333 = .ok (.iload_n 3, 1) := by decide +kernel
theorem dL_law_334 : decode cL_law 334 = .ok (.iconst 4, 1) := by decide +kernel
theorem dL_law_335 : decode cL_law 335 = .ok (.iadd, 1) := by decide +kernel
theorem dL_law_336 : decode cL_law 336 = .ok (.iaload, 1) := by decide +kernel
theorem dL_law_337 : decode cL_law 337 = .ok (.invokevirtual 35, 3) := by decide +kernel
theorem dL_law_340 : decode cL_law 340 = .ok (.lcmp, 1) := by decide +kernel
theorem dL_law_341 : decode cL_law 341 = .ok (.ifCond .eq 286, 3) := by decide +kernel
theorem dL_law_344 : decode cL_law 344 = .ok (.iconst 0, 1) := by decide +kernel
theorem dL_law_345 : decode cL_law 345 = .ok (.ireturn, 1) := by decide +kernel
theorem dL_law_346 : decode cL_law 346 = .ok (.aload_n 1, 1) := by decide +kernel
theorem dL_law_347 : decode cL_law 347 = .ok (.aload_n 0, 1) := by decide +kernel
theorem dL_law_348 : decode cL_law 348 = .ok (.iload_n 3, 1) := by decide +kernel
theorem dL_law_349 : decode cL_law 349 = .ok (.iconst 1, 1) := by decide +kernel
theorem dL_law_350 : decode cL_law 350 = .ok (.iadd, 1) := by decide +kernel
theorem dL_law_351 : decode cL_law 351 = .ok (.iaload, 1) := by decide +kernel
theorem dL_law_352 : decode cL_law 352 = .ok (.aload_n 0, 1) := by decide +kernel
theorem dL_law_353 : decode cL_law 353 = .ok (.iload_n 3, 1) := by decide +kernel
theorem dL_law_354 : decode cL_law 354 = .ok (.iconst 2, 1) := by decide +kernel
theorem dL_law_355 : decode cL_law 355 = .ok (.iadd, 1) := by decide +kernel
theorem dL_law_356 : decode cL_law 356 = .ok (.iaload, 1) := by decide +kernel
theorem dL_law_357 : decode cL_law 357 = .ok (.invokevirtual 36, 3) := by decide +kernel
theorem dL_law_360 : decode cL_law 360 = .ok (.aload_n 2, 1) := by decide +kernel
theorem dL_law_361 : decode cL_law 361 = .ok (.aload_n 0, 1) := by decide +kernel
theorem dL_law_362 : decode cL_law 362 = .ok (.iload_n 3, 1) := by decide +kernel
theorem dL_law_363 : decode cL_law 363 = .ok (.iconst 1, 1) := by decide +kernel
theorem dL_law_364 : decode cL_law 364 = .ok (.iadd, 1) := by decide +kernel
theorem dL_law_365 : decode cL_law 365 = .ok (.iaload, 1) := by decide +kernel
theorem dL_law_366 : decode cL_law 366 = .ok (.aload_n 0, 1) := by decide +kernel
theorem dL_law_367 : decode cL_law 367 = .ok (.iload_n 3, 1) := by decide +kernel
theorem dL_law_368 : decode cL_law 368 = .ok (.iconst 2, 1) := by decide +kernel
theorem dL_law_369 : decode cL_law 369 = .ok (.iadd, 1) := by decide +kernel
theorem dL_law_370 : decode cL_law 370 = .ok (.iaload, 1) := by decide +kernel
theorem dL_law_371 : decode cL_law 371 = .ok (.invokevirtual 39, 3) := by decide +kernel
theorem dL_law_374 : decode cL_law 374 = .ok (.if_icmp .eq 253, 3) := by decide +kernel
theorem dL_law_377 : decode cL_law 377 = .ok (.iconst 0, 1) := by decide +kernel
theorem dL_law_378 : decode cL_law 378 = .ok (.ireturn, 1) := by decide +kernel
theorem dL_law_379 : decode cL_law 379 = .ok (.aload_n 1, 1) := by decide +kernel
theorem dL_law_380 : decode cL_law 380 = .ok (.aload_n 0, 1) := by decide +kernel
theorem dL_law_381 : decode cL_law 381 = .ok (.iload_n 3, 1) := by decide +kernel
theorem dL_law_382 : decode cL_law 382 = .ok (.iconst 1, 1) := by decide +kernel
theorem dL_law_383 : decode cL_law 383 = .ok (.iadd, 1) := by decide +kernel
theorem dL_law_384 : decode cL_law 384 = .ok (.iaload, 1) := by decide +kernel
theorem dL_law_385 : decode cL_law 385 = .ok (.invokevirtual 40, 3) := by decide +kernel
theorem dL_law_388 : decode cL_law 388 = .ok (.aload_n 2, 1) := by decide +kernel
theorem dL_law_389 : decode cL_law 389 = .ok (.aload_n 0, 1) := by decide +kernel
theorem dL_law_390 : decode cL_law 390 = .ok (.iload_n 3, 1) := by decide +kernel
theorem dL_law_391 : decode cL_law 391 = .ok (.iconst 1, 1) := by decide +kernel
theorem dL_law_392 : decode cL_law 392 = .ok (.iadd, 1) := by decide +kernel
theorem dL_law_393 : decode cL_law 393 = .ok (.iaload, 1) := by decide +kernel
theorem dL_law_394 : decode cL_law 394 = .ok (.invokevirtual 44, 3) := by decide +kernel
theorem dL_law_397 : decode cL_law 397 = .ok (.if_icmp .eq 230, 3) := by decide +kernel
theorem dL_law_400 : decode cL_law 400 = .ok (.iconst 0, 1) := by decide +kernel
theorem dL_law_401 : decode cL_law 401 = .ok (.ireturn, 1) := by decide +kernel
theorem dL_law_402 : decode cL_law 402 = .ok (.aload_n 1, 1) := by decide +kernel
theorem dL_law_403 : decode cL_law 403 = .ok (.aload_n 0, 1) := by decide +kernel
theorem dL_law_404 : decode cL_law 404 = .ok (.iload_n 3, 1) := by decide +kernel
theorem dL_law_405 : decode cL_law 405 = .ok (.iconst 1, 1) := by decide +kernel
theorem dL_law_406 : decode cL_law 406 = .ok (.iadd, 1) := by decide +kernel
theorem dL_law_407 : decode cL_law 407 = .ok (.iaload, 1) := by decide +kernel
theorem dL_law_408 : decode cL_law 408 = .ok (.aload_n 0, 1) := by decide +kernel
theorem dL_law_409 : decode cL_law 409 = .ok (.iload_n 3, 1) := by decide +kernel
theorem dL_law_410 : decode cL_law 410 = .ok (.iconst 2, 1) := by decide +kernel
theorem dL_law_411 : decode cL_law 411 = .ok (.iadd, 1) := by decide +kernel
theorem dL_law_412 : decode cL_law 412 = .ok (.iaload, 1) := by decide +kernel
theorem dL_law_413 : decode cL_law 413 = .ok (.aload_n 0, 1) := by decide +kernel
theorem dL_law_414 : decode cL_law 414 = .ok (.iload_n 3, 1) := by decide +kernel
theorem dL_law_415 : decode cL_law 415 = .ok (.iconst 3, 1) := by decide +kernel
theorem dL_law_416 : decode cL_law 416 = .ok (.iadd, 1) := by decide +kernel
theorem dL_law_417 : decode cL_law 417 = .ok (.iaload, 1) := by decide +kernel
theorem dL_law_418 : decode cL_law 418 = .ok (.invokevirtual 45, 3) := by decide +kernel
theorem dL_law_421 : decode cL_law 421 = .ok (.aload_n 2, 1) := by decide +kernel
theorem dL_law_422 : decode cL_law 422 = .ok (.aload_n 0, 1) := by decide +kernel
theorem dL_law_423 : decode cL_law 423 = .ok (.iload_n 3, 1) := by decide +kernel
theorem dL_law_424 : decode cL_law 424 = .ok (.iconst 1, 1) := by decide +kernel
theorem dL_law_425 : decode cL_law 425 = .ok (.iadd, 1) := by decide +kernel
theorem dL_law_426 : decode cL_law 426 = .ok (.iaload, 1) := by decide +kernel
theorem dL_law_427 : decode cL_law 427 = .ok (.aload_n 0, 1) := by decide +kernel
theorem dL_law_428 : decode cL_law 428 = .ok (.iload_n 3, 1) := by decide +kernel
theorem dL_law_429 : decode cL_law 429 = .ok (.iconst 2, 1) := by decide +kernel
theorem dL_law_430 : decode cL_law 430 = .ok (.iadd, 1) := by decide +kernel
theorem dL_law_431 : decode cL_law 431 = .ok (.iaload, 1) := by decide +kernel
theorem dL_law_432 : decode cL_law 432 = .ok (.aload_n 0, 1) := by decide +kernel
theorem dL_law_433 : decode cL_law 433 = .ok (.iload_n 3, 1) := by decide +kernel
theorem dL_law_434 : decode cL_law 434 = .ok (.iconst 3, 1) := by decide +kernel
theorem dL_law_435 : decode cL_law 435 = .ok (.iadd, 1) := by decide +kernel
theorem dL_law_436 : decode cL_law 436 = .ok (.iaload, 1) := by decide +kernel
theorem dL_law_437 : decode cL_law 437 = .ok (.invokevirtual 48, 3) := by decide +kernel
theorem dL_law_440 : decode cL_law 440 = .ok (.if_icmp .eq 187, 3) := by decide +kernel
theorem dL_law_443 : decode cL_law 443 = .ok (.iconst 0, 1) := by decide +kernel
theorem dL_law_444 : decode cL_law 444 = .ok (.ireturn, 1) := by decide +kernel
theorem dL_law_445 : decode cL_law 445 = .ok (.aload_n 1, 1) := by decide +kernel
theorem dL_law_446 : decode cL_law 446 = .ok (.aload_n 0, 1) := by decide +kernel
theorem dL_law_447 : decode cL_law 447 = .ok (.iload_n 3, 1) := by decide +kernel
theorem dL_law_448 : decode cL_law 448 = .ok (.iconst 1, 1) := by decide +kernel
theorem dL_law_449 : decode cL_law 449 = .ok (.iadd, 1) := by decide +kernel
theorem dL_law_450 : decode cL_law 450 = .ok (.iaload, 1) := by decide +kernel
theorem dL_law_451 : decode cL_law 451 = .ok (.aload_n 0, 1) := by decide +kernel
theorem dL_law_452 : decode cL_law 452 = .ok (.iload_n 3, 1) := by decide +kernel
theorem dL_law_453 : decode cL_law 453 = .ok (.iconst 2, 1) := by decide +kernel
theorem dL_law_454 : decode cL_law 454 = .ok (.iadd, 1) := by decide +kernel
theorem dL_law_455 : decode cL_law 455 = .ok (.iaload, 1) := by decide +kernel
theorem dL_law_456 : decode cL_law 456 = .ok (.aload_n 0, 1) := by decide +kernel
theorem dL_law_457 : decode cL_law 457 = .ok (.iload_n 3, 1) := by decide +kernel
theorem dL_law_458 : decode cL_law 458 = .ok (.iconst 3, 1) := by decide +kernel
theorem dL_law_459 : decode cL_law 459 = .ok (.iadd, 1) := by decide +kernel
theorem dL_law_460 : decode cL_law 460 = .ok (.iaload, 1) := by decide +kernel
theorem dL_law_461 : decode cL_law 461 = .ok (.invokevirtual 49, 3) := by decide +kernel
theorem dL_law_464 : decode cL_law 464 = .ok (.aload_n 2, 1) := by decide +kernel
theorem dL_law_465 : decode cL_law 465 = .ok (.aload_n 0, 1) := by decide +kernel
theorem dL_law_466 : decode cL_law 466 = .ok (.iload_n 3, 1) := by decide +kernel
theorem dL_law_467 : decode cL_law 467 = .ok (.iconst 1, 1) := by decide +kernel
theorem dL_law_468 : decode cL_law 468 = .ok (.iadd, 1) := by decide +kernel
theorem dL_law_469 : decode cL_law 469 = .ok (.iaload, 1) := by decide +kernel
theorem dL_law_470 : decode cL_law 470 = .ok (.aload_n 0, 1) := by decide +kernel
theorem dL_law_471 : decode cL_law 471 = .ok (.iload_n 3, 1) := by decide +kernel
theorem dL_law_472 : decode cL_law 472 = .ok (.iconst 2, 1) := by decide +kernel
theorem dL_law_473 : decode cL_law 473 = .ok (.iadd, 1) := by decide +kernel
theorem dL_law_474 : decode cL_law 474 = .ok (.iaload, 1) := by decide +kernel
theorem dL_law_475 : decode cL_law 475 = .ok (.aload_n 0, 1) := by decide +kernel
theorem dL_law_476 : decode cL_law 476 = .ok (.iload_n 3, 1) := by decide +kernel
theorem dL_law_477 : decode cL_law 477 = .ok (.iconst 3, 1) := by decide +kernel
theorem dL_law_478 : decode cL_law 478 = .ok (.iadd, 1) := by decide +kernel
theorem dL_law_479 : decode cL_law 479 = .ok (.iaload, 1) := by decide +kernel
theorem dL_law_480 : decode cL_law 480 = .ok (.invokevirtual 52, 3) := by decide +kernel
theorem dL_law_483 : decode cL_law 483 = .ok (.if_icmp .eq 144, 3) := by decide +kernel
theorem dL_law_486 : decode cL_law 486 = .ok (.iconst 0, 1) := by decide +kernel
theorem dL_law_487 : decode cL_law 487 = .ok (.ireturn, 1) := by decide +kernel
theorem dL_law_488 : decode cL_law 488 = .ok (.aload_n 1, 1) := by decide +kernel
theorem dL_law_489 : decode cL_law 489 = .ok (.aload_n 0, 1) := by decide +kernel
theorem dL_law_490 : decode cL_law 490 = .ok (.iload_n 3, 1) := by decide +kernel
theorem dL_law_491 : decode cL_law 491 = .ok (.iconst 1, 1) := by decide +kernel
theorem dL_law_492 : decode cL_law 492 = .ok (.iadd, 1) := by decide +kernel
theorem dL_law_493 : decode cL_law 493 = .ok (.iaload, 1) := by decide +kernel
theorem dL_law_494 : decode cL_law 494 = .ok (.invokevirtual 53, 3) := by decide +kernel
theorem dL_law_497 : decode cL_law 497 = .ok (.aload_n 2, 1) := by decide +kernel
theorem dL_law_498 : decode cL_law 498 = .ok (.aload_n 0, 1) := by decide +kernel
theorem dL_law_499 : decode cL_law 499 = .ok (.iload_n 3, 1) := by decide +kernel
theorem dL_law_500 : decode cL_law 500 = .ok (.iconst 1, 1) := by decide +kernel
theorem dL_law_501 : decode cL_law 501 = .ok (.iadd, 1) := by decide +kernel
theorem dL_law_502 : decode cL_law 502 = .ok (.iaload, 1) := by decide +kernel
theorem dL_law_503 : decode cL_law 503 = .ok (.invokevirtual 56, 3) := by decide +kernel
theorem dL_law_506 : decode cL_law 506 = .ok (.if_icmp .eq 121, 3) := by decide +kernel
theorem dL_law_509 : decode cL_law 509 = .ok (.iconst 0, 1) := by decide +kernel
theorem dL_law_510 : decode cL_law 510 = .ok (.ireturn, 1) := by decide +kernel
theorem dL_law_511 : decode cL_law 511 = .ok (.aload_n 1, 1) := by decide +kernel
theorem dL_law_512 : decode cL_law 512 = .ok (.aload_n 0, 1) := by decide +kernel
theorem dL_law_513 : decode cL_law 513 = .ok (.iload_n 3, 1) := by decide +kernel
theorem dL_law_514 : decode cL_law 514 = .ok (.iconst 1, 1) := by decide +kernel
theorem dL_law_515 : decode cL_law 515 = .ok (.iadd, 1) := by decide +kernel
theorem dL_law_516 : decode cL_law 516 = .ok (.iaload, 1) := by decide +kernel
theorem dL_law_517 : decode cL_law 517 = .ok (.invokevirtual 57, 3) := by decide +kernel
theorem dL_law_520 : decode cL_law 520 = .ok (.aload_n 2, 1) := by decide +kernel
theorem dL_law_521 : decode cL_law 521 = .ok (.aload_n 0, 1) := by decide +kernel
theorem dL_law_522 : decode cL_law 522 = .ok (.iload_n 3, 1) := by decide +kernel
theorem dL_law_523 : decode cL_law 523 = .ok (.iconst 1, 1) := by decide +kernel
theorem dL_law_524 : decode cL_law 524 = .ok (.iadd, 1) := by decide +kernel
theorem dL_law_525 : decode cL_law 525 = .ok (.iaload, 1) := by decide +kernel
theorem dL_law_526 : decode cL_law 526 = .ok (.invokevirtual 60, 3) := by decide +kernel
theorem dL_law_529 : decode cL_law 529 = .ok (.if_icmp .eq 98, 3) := by decide +kernel
theorem dL_law_532 : decode cL_law 532 = .ok (.iconst 0, 1) := by decide +kernel
theorem dL_law_533 : decode cL_law 533 = .ok (.ireturn, 1) := by decide +kernel
theorem dL_law_534 : decode cL_law 534 = .ok (.aload_n 1, 1) := by decide +kernel
theorem dL_law_535 : decode cL_law 535 = .ok (.aload_n 0, 1) := by decide +kernel
theorem dL_law_536 : decode cL_law 536 = .ok (.iload_n 3, 1) := by decide +kernel
theorem dL_law_537 : decode cL_law 537 = .ok (.iconst 1, 1) := by decide +kernel
theorem dL_law_538 : decode cL_law 538 = .ok (.iadd, 1) := by decide +kernel
theorem dL_law_539 : decode cL_law 539 = .ok (.iaload, 1) := by decide +kernel
theorem dL_law_540 : decode cL_law 540 = .ok (.invokevirtual 61, 3) := by decide +kernel
theorem dL_law_543 : decode cL_law 543 = .ok (.aload_n 2, 1) := by decide +kernel
theorem dL_law_544 : decode cL_law 544 = .ok (.aload_n 0, 1) := by decide +kernel
theorem dL_law_545 : decode cL_law 545 = .ok (.iload_n 3, 1) := by decide +kernel
theorem dL_law_546 : decode cL_law 546 = .ok (.iconst 1, 1) := by decide +kernel
theorem dL_law_547 : decode cL_law 547 = .ok (.iadd, 1) := by decide +kernel
theorem dL_law_548 : decode cL_law 548 = .ok (.iaload, 1) := by decide +kernel
theorem dL_law_549 : decode cL_law 549 = .ok (.invokevirtual 64, 3) := by decide +kernel
theorem dL_law_552 : decode cL_law 552 = .ok (.if_icmp .eq 75, 3) := by decide +kernel
theorem dL_law_555 : decode cL_law 555 = .ok (.iconst 0, 1) := by decide +kernel
theorem dL_law_556 : decode cL_law 556 = .ok (.ireturn, 1) := by decide +kernel
theorem dL_law_557 : decode cL_law 557 = .ok (.aload_n 1, 1) := by decide +kernel
theorem dL_law_558 : decode cL_law 558 = .ok (.aload_n 0, 1) := by decide +kernel
theorem dL_law_559 : decode cL_law 559 = .ok (.iload_n 3, 1) := by decide +kernel
theorem dL_law_560 : decode cL_law 560 = .ok (.iconst 1, 1) := by decide +kernel
theorem dL_law_561 : decode cL_law 561 = .ok (.iadd, 1) := by decide +kernel
theorem dL_law_562 : decode cL_law 562 = .ok (.iaload, 1) := by decide +kernel
theorem dL_law_563 : decode cL_law 563 = .ok (.aload_n 0, 1) := by decide +kernel
theorem dL_law_564 : decode cL_law 564 = .ok (.iload_n 3, 1) := by decide +kernel
theorem dL_law_565 : decode cL_law 565 = .ok (.iconst 2, 1) := by decide +kernel
theorem dL_law_566 : decode cL_law 566 = .ok (.iadd, 1) := by decide +kernel
theorem dL_law_567 : decode cL_law 567 = .ok (.iaload, 1) := by decide +kernel
theorem dL_law_568 : decode cL_law 568 = .ok (.invokevirtual 65, 3) := by decide +kernel
