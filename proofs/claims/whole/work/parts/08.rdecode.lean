theorem d_M_init_0 : decode b_M_init 0 = .ok (.aload_n 0, 1) := by decide +kernel
theorem d_M_init_1 : decode b_M_init 1 = .ok (.invokespecial 1, 3) := by decide +kernel
theorem d_M_init_4 : decode b_M_init 4 = .ok (.aload_n 0, 1) := by decide +kernel
theorem d_M_init_5 : decode b_M_init 5 = .ok (.bipush 6, 2) := by decide +kernel
theorem d_M_init_7 : decode b_M_init 7 = .ok (.newarray .int, 2) := by decide +kernel
theorem d_M_init_9 : decode b_M_init 9 = .ok (.putfield 7, 3) := by decide +kernel
theorem d_M_init_12 : decode b_M_init 12 = .ok (.aload_n 0, 1) := by decide +kernel
theorem d_M_init_13 : decode b_M_init 13 = .ok (.bipush 6, 2) := by decide +kernel
theorem d_M_init_15 : decode b_M_init 15 = .ok (.newarray .int, 2) := by decide +kernel
theorem d_M_init_17 : decode b_M_init 17 = .ok (.putfield 13, 3) := by decide +kernel
theorem d_M_init_20 : decode b_M_init 20 = .ok (.aload_n 0, 1) := by decide +kernel
theorem d_M_init_21 : decode b_M_init 21 = .ok (.bipush 6, 2) := by decide +kernel
theorem d_M_init_23 : decode b_M_init 23 = .ok (.newarray .int, 2) := by decide +kernel
theorem d_M_init_25 : decode b_M_init 25 = .ok (.putfield 16, 3) := by decide +kernel
theorem d_M_init_28 : decode b_M_init 28 = .ok (.aload_n 0, 1) := by decide +kernel
theorem d_M_init_29 : decode b_M_init 29 = .ok (.bipush 6, 2) := by decide +kernel
theorem d_M_init_31 : decode b_M_init 31 = .ok (.newarray .int, 2) := by decide +kernel
theorem d_M_init_33 : decode b_M_init 33 = .ok (.putfield 19, 3) := by decide +kernel
theorem d_M_init_36 : decode b_M_init 36 = .ok (.aload_n 0, 1) := by decide +kernel
theorem d_M_init_37 : decode b_M_init 37 = .ok (.bipush 6, 2) := by decide +kernel
theorem d_M_init_39 : decode b_M_init 39 = .ok (.newarray .int, 2) := by decide +kernel
theorem d_M_init_41 : decode b_M_init 41 = .ok (.putfield 22, 3) := by decide +kernel
theorem d_M_init_44 : decode b_M_init 44 = .ok (.aload_n 0, 1) := by decide +kernel
theorem d_M_init_45 : decode b_M_init 45 = .ok (.bipush 6, 2) := by decide +kernel
theorem d_M_init_47 : decode b_M_init 47 = .ok (.newarray .int, 2) := by decide +kernel
theorem d_M_init_49 : decode b_M_init 49 = .ok (.putfield 25, 3) := by decide +kernel
theorem d_M_init_52 : decode b_M_init 52 = .ok (.aload_n 0, 1) := by decide +kernel
theorem d_M_init_53 : decode b_M_init 53 = .ok (.bipush 6, 2) := by decide +kernel
theorem d_M_init_55 : decode b_M_init 55 = .ok (.newarray .boolean, 2) := by decide +kernel
theorem d_M_init_57 : decode b_M_init 57 = .ok (.putfield 28, 3) := by decide +kernel
theorem d_M_init_60 : decode b_M_init 60 = .ok (.aload_n 0, 1) := by decide +kernel
theorem d_M_init_61 : decode b_M_init 61 = .ok (.bipush 6, 2) := by decide +kernel
theorem d_M_init_63 : decode b_M_init 63 = .ok (.newarray .int, 2) := by decide +kernel
theorem d_M_init_65 : decode b_M_init 65 = .ok (.putfield 32, 3) := by decide +kernel
theorem d_M_init_68 : decode b_M_init 68 = .ok (.aload_n 0, 1) := by decide +kernel
theorem d_M_init_69 : decode b_M_init 69 = .ok (.bipush 6, 2) := by decide +kernel
theorem d_M_init_71 : decode b_M_init 71 = .ok (.newarray .int, 2) := by decide +kernel
theorem d_M_init_73 : decode b_M_init 73 = .ok (.putfield 35, 3) := by decide +kernel
theorem d_M_init_76 : decode b_M_init 76 = .ok (.aload_n 0, 1) := by decide +kernel
theorem d_M_init_77 : decode b_M_init 77 = .ok (.bipush 6, 2) := by decide +kernel
theorem d_M_init_79 : decode b_M_init 79 = .ok (.newarray .int, 2) := by decide +kernel
theorem d_M_init_81 : decode b_M_init 81 = .ok (.putfield 38, 3) := by decide +kernel
theorem d_M_init_84 : decode b_M_init 84 = .ok (.aload_n 0, 1) := by decide +kernel
theorem d_M_init_85 : decode b_M_init 85 = .ok (.bipush 6, 2) := by decide +kernel
theorem d_M_init_87 : decode b_M_init 87 = .ok (.newarray .int, 2) := by decide +kernel
theorem d_M_init_89 : decode b_M_init 89 = .ok (.putfield 41, 3) := by decide +kernel
theorem d_M_init_92 : decode b_M_init 92 = .ok (.aload_n 0, 1) := by decide +kernel
theorem d_M_init_93 : decode b_M_init 93 = .ok (.bipush 6, 2) := by decide +kernel
theorem d_M_init_95 : decode b_M_init 95 = .ok (.newarray .int, 2) := by decide +kernel
theorem d_M_init_97 : decode b_M_init 97 = .ok (.putfield 44, 3) := by decide +kernel
theorem d_M_init_100 : decode b_M_init 100 = .ok (.aload_n 0, 1) := by decide +kernel
theorem d_M_init_101 : decode b_M_init 101 = .ok (.bipush 6, 2) := by decide +kernel
theorem d_M_init_103 : decode b_M_init 103 = .ok (.newarray .boolean, 2) := by decide +kernel
theorem d_M_init_105 : decode b_M_init 105 = .ok (.putfield 47, 3) := by decide +kernel
theorem d_M_init_108 : decode b_M_init 108 = .ok (.aload_n 0, 1) := by decide +kernel
theorem d_M_init_109 : decode b_M_init 109 = .ok (.bipush 6, 2) := by decide +kernel
theorem d_M_init_111 : decode b_M_init 111 = .ok (.newarray .boolean, 2) := by decide +kernel
theorem d_M_init_113 : decode b_M_init 113 = .ok (.putfield 50, 3) := by decide +kernel
theorem d_M_init_116 : decode b_M_init 116 = .ok (.aload_n 0, 1) := by decide +kernel
theorem d_M_init_117 : decode b_M_init 117 = .ok (.bipush 36, 2) := by decide +kernel
theorem d_M_init_119 : decode b_M_init 119 = .ok (.newarray .boolean, 2) := by decide +kernel
theorem d_M_init_121 : decode b_M_init 121 = .ok (.putfield 53, 3) := by decide +kernel
theorem d_M_init_124 : decode b_M_init 124 = .ok (.aload_n 0, 1) := by decide +kernel
theorem d_M_init_125 : decode b_M_init 125 = .ok (.bipush 24, 2) := by decide +kernel
theorem d_M_init_127 : decode b_M_init 127 = .ok (.newarray .int, 2) := by decide +kernel
theorem d_M_init_129 : decode b_M_init 129 = .ok (.putfield 56, 3) := by decide +kernel
theorem d_M_init_132 : decode b_M_init 132 = .ok (.aload_n 0, 1) := by decide +kernel
theorem d_M_init_133 : decode b_M_init 133 = .ok (.bipush 6, 2) := by decide +kernel
theorem d_M_init_135 : decode b_M_init 135 = .ok (.newarray .int, 2) := by decide +kernel
theorem d_M_init_137 : decode b_M_init 137 = .ok (.putfield 59, 3) := by decide +kernel
theorem d_M_init_140 : decode b_M_init 140 = .ok (.aload_n 0, 1) := by decide +kernel
theorem d_M_init_141 : decode b_M_init 141 = .ok (.iconst (-1), 1) := by decide +kernel
theorem d_M_init_142 : decode b_M_init 142 = .ok (.putfield 62, 3) := by decide +kernel
theorem d_M_init_145 : decode b_M_init 145 = .ok (.aload_n 0, 1) := by decide +kernel
theorem d_M_init_146 : decode b_M_init 146 = .ok (.bipush 6, 2) := by decide +kernel
theorem d_M_init_148 : decode b_M_init 148 = .ok (.newarray .boolean, 2) := by decide +kernel
theorem d_M_init_150 : decode b_M_init 150 = .ok (.putfield 66, 3) := by decide +kernel
theorem d_M_init_153 : decode b_M_init 153 = .ok (.aload_n 0, 1) := by decide +kernel
theorem d_M_init_154 : decode b_M_init 154 = .ok (.bipush 6, 2) := by decide +kernel
theorem d_M_init_156 : decode b_M_init 156 = .ok (.newarray .boolean, 2) := by decide +kernel
theorem d_M_init_158 : decode b_M_init 158 = .ok (.putfield 69, 3) := by decide +kernel
theorem d_M_init_161 : decode b_M_init 161 = .ok (.aload_n 0, 1) := by decide +kernel
theorem d_M_init_162 : decode b_M_init 162 = .ok (.iload_n 1, 1) := by decide +kernel
theorem d_M_init_163 : decode b_M_init 163 = .ok (.iconst 4, 1) := by decide +kernel
theorem d_M_init_164 : decode b_M_init 164 = .ok (.if_icmp .ge 7, 3) := by decide +kernel
theorem d_M_init_167 : decode b_M_init 167 = .ok (.iconst 4, 1) := by decide +kernel
theorem d_M_init_168 : decode b_M_init 168 = .ok (.goto 15, 3) := by decide +kernel
theorem d_M_init_171 : decode b_M_init 171 = .ok (.iload_n 1, 1) := by decide +kernel
theorem d_M_init_172 : decode b_M_init 172 = .ok (.bipush 6, 2) := by decide +kernel
theorem d_M_init_174 : decode b_M_init 174 = .ok (.if_icmp .le 8, 3) := by decide +kernel
theorem d_M_init_177 : decode b_M_init 177 = .ok (.bipush 6, 2) := by decide +kernel
theorem d_M_init_179 : decode b_M_init 179 = .ok (.goto 4, 3) := by decide +kernel
theorem d_M_init_182 : decode b_M_init 182 = .ok (.iload_n 1, 1) := by decide +kernel
theorem d_M_init_183 : decode b_M_init 183 = .ok (.putfield 72, 3) := by decide +kernel
theorem d_M_init_186 : decode b_M_init 186 = .ok (.return_, 1) := by decide +kernel
theorem d_M_nodes_0 : decode b_M_nodes 0 = .ok (.aload_n 0, 1) := by decide +kernel
theorem d_M_nodes_1 : decode b_M_nodes 1 = .ok (.getfield 72, 3) := by decide +kernel
theorem d_M_nodes_4 : decode b_M_nodes 4 = .ok (.ireturn, 1) := by decide +kernel
theorem d_M_isNode_0 : decode b_M_isNode 0 = .ok (.iload_n 1, 1) := by decide +kernel
theorem d_M_isNode_1 : decode b_M_isNode 1 = .ok (.ifCond .lt 15, 3) := by decide +kernel
theorem d_M_isNode_4 : decode b_M_isNode 4 = .ok (.iload_n 1, 1) := by decide +kernel
theorem d_M_isNode_5 : decode b_M_isNode 5 = .ok (.aload_n 0, 1) := by decide +kernel
theorem d_M_isNode_6 : decode b_M_isNode 6 = .ok (.getfield 72, 3) := by decide +kernel
theorem d_M_isNode_9 : decode b_M_isNode 9 = .ok (.if_icmp .ge 7, 3) := by decide +kernel
theorem d_M_isNode_12 : decode b_M_isNode 12 = .ok (.iconst 1, 1) := by decide +kernel
theorem d_M_isNode_13 : decode b_M_isNode 13 = .ok (.goto 4, 3) := by decide +kernel
theorem d_M_isNode_16 : decode b_M_isNode 16 = .ok (.iconst 0, 1) := by decide +kernel
theorem d_M_isNode_17 : decode b_M_isNode 17 = .ok (.ireturn, 1) := by decide +kernel
theorem d_M_isOn_0 : decode b_M_isOn 0 = .ok (.aload_n 0, 1) := by decide +kernel
theorem d_M_isOn_1 : decode b_M_isOn 1 = .ok (.iload_n 1, 1) := by decide +kernel
theorem d_M_isOn_2 : decode b_M_isOn 2 = .ok (.invokevirtual 75, 3) := by decide +kernel
theorem d_M_isOn_5 : decode b_M_isOn 5 = .ok (.ifCond .eq 16, 3) := by decide +kernel
theorem d_M_isOn_8 : decode b_M_isOn 8 = .ok (.aload_n 0, 1) := by decide +kernel
theorem d_M_isOn_9 : decode b_M_isOn 9 = .ok (.getfield 7, 3) := by decide +kernel
theorem d_M_isOn_12 : decode b_M_isOn 12 = .ok (.iload_n 1, 1) := by decide +kernel
theorem d_M_isOn_13 : decode b_M_isOn 13 = .ok (.iaload, 1) := by decide +kernel
theorem d_M_isOn_14 : decode b_M_isOn 14 = .ok (.ifCond .eq 7, 3) := by decide +kernel
theorem d_M_isOn_17 : decode b_M_isOn 17 = .ok (.iconst 1, 1) := by decide +kernel
theorem d_M_isOn_18 : decode b_M_isOn 18 = .ok (.goto 4, 3) := by decide +kernel
theorem d_M_isOn_21 : decode b_M_isOn 21 = .ok (.iconst 0, 1) := by decide +kernel
theorem d_M_isOn_22 : decode b_M_isOn 22 = .ok (.ireturn, 1) := by decide +kernel
theorem d_M_inside_0 : decode b_M_inside 0 = .ok (.aload_n 0, 1) := by decide +kernel
theorem d_M_inside_1 : decode b_M_inside 1 = .ok (.getfield 7, 3) := by decide +kernel
theorem d_M_inside_4 : decode b_M_inside 4 = .ok (.iload_n 1, 1) := by decide +kernel
theorem d_M_inside_5 : decode b_M_inside 5 = .ok (.iaload, 1) := by decide +kernel
theorem d_M_inside_6 : decode b_M_inside 6 = .ok (.iconst 2, 1) := by decide +kernel
theorem d_M_inside_7 : decode b_M_inside 7 = .ok (.if_icmp .eq 23, 3) := by decide +kernel
theorem d_M_inside_10 : decode b_M_inside 10 = .ok (.aload_n 0, 1) := by decide +kernel
theorem d_M_inside_11 : decode b_M_inside 11 = .ok (.getfield 7, 3) := by decide +kernel
theorem d_M_inside_14 : decode b_M_inside 14 = .ok (.iload_n 1, 1) := by decide +kernel
theorem d_M_inside_15 : decode b_M_inside 15 = .ok (.iaload, 1) := by decide +kernel
theorem d_M_inside_16 : decode b_M_inside 16 = .ok (.iconst 3, 1) := by decide +kernel
theorem d_M_inside_17 : decode b_M_inside 17 = .ok (.if_icmp .eq 13, 3) := by decide +kernel
theorem d_M_inside_20 : decode b_M_inside 20 = .ok (.aload_n 0, 1) := by decide +kernel
theorem d_M_inside_21 : decode b_M_inside 21 = .ok (.getfield 7, 3) := by decide +kernel
theorem d_M_inside_24 : decode b_M_inside 24 = .ok (.iload_n 1, 1) := by decide +kernel
theorem d_M_inside_25 : decode b_M_inside 25 = .ok (.iaload, 1) := by decide +kernel
theorem d_M_inside_26 : decode b_M_inside 26 = .ok (.iconst 4, 1) := by decide +kernel
theorem d_M_inside_27 : decode b_M_inside 27 = .ok (.if_icmp .ne 7, 3) := by decide +kernel
theorem d_M_inside_30 : decode b_M_inside 30 = .ok (.iconst 1, 1) := by decide +kernel
theorem d_M_inside_31 : decode b_M_inside 31 = .ok (.goto 4, 3) := by decide +kernel
theorem d_M_inside_34 : decode b_M_inside 34 = .ok (.iconst 0, 1) := by decide +kernel
theorem d_M_inside_35 : decode b_M_inside 35 = .ok (.ireturn, 1) := by decide +kernel
theorem d_M_listen_0 : decode b_M_listen 0 = .ok (.aload_n 0, 1) := by decide +kernel
theorem d_M_listen_1 : decode b_M_listen 1 = .ok (.getfield 7, 3) := by decide +kernel
theorem d_M_listen_4 : decode b_M_listen 4 = .ok (.iload_n 1, 1) := by decide +kernel
theorem d_M_listen_5 : decode b_M_listen 5 = .ok (.iconst 1, 1) := by decide +kernel
theorem d_M_listen_6 : decode b_M_listen 6 = .ok (.iastore, 1) := by decide +kernel
theorem d_M_listen_7 : decode b_M_listen 7 = .ok (.aload_n 0, 1) := by decide +kernel
theorem d_M_listen_8 : decode b_M_listen 8 = .ok (.getfield 25, 3) := by decide +kernel
theorem d_M_listen_11 : decode b_M_listen 11 = .ok (.iload_n 1, 1) := by decide +kernel
theorem d_M_listen_12 : decode b_M_listen 12 = .ok (.iconst 2, 1) := by decide +kernel
theorem d_M_listen_13 : decode b_M_listen 13 = .ok (.aload_n 0, 1) := by decide +kernel
theorem d_M_listen_14 : decode b_M_listen 14 = .ok (.getfield 72, 3) := by decide +kernel
theorem d_M_listen_17 : decode b_M_listen 17 = .ok (.imul, 1) := by decide +kernel
theorem d_M_listen_18 : decode b_M_listen 18 = .ok (.iload_n 1, 1) := by decide +kernel
theorem d_M_listen_19 : decode b_M_listen 19 = .ok (.iadd, 1) := by decide +kernel
theorem d_M_listen_20 : decode b_M_listen 20 = .ok (.iastore, 1) := by decide +kernel
theorem d_M_listen_21 : decode b_M_listen 21 = .ok (.aload_n 0, 1) := by decide +kernel
theorem d_M_listen_22 : decode b_M_listen 22 = .ok (.getfield 28, 3) := by decide +kernel
theorem d_M_listen_25 : decode b_M_listen 25 = .ok (.iload_n 1, 1) := by decide +kernel
theorem d_M_listen_26 : decode b_M_listen 26 = .ok (.iconst 0, 1) := by decide +kernel
theorem d_M_listen_27 : decode b_M_listen 27 = .ok (.bastore, 1) := by decide +kernel
theorem d_M_listen_28 : decode b_M_listen 28 = .ok (.aload_n 0, 1) := by decide +kernel
theorem d_M_listen_29 : decode b_M_listen 29 = .ok (.getfield 59, 3) := by decide +kernel
theorem d_M_listen_32 : decode b_M_listen 32 = .ok (.iload_n 1, 1) := by decide +kernel
theorem d_M_listen_33 : decode b_M_listen 33 = .ok (.iconst 0, 1) := by decide +kernel
theorem d_M_listen_34 : decode b_M_listen 34 = .ok (.iastore, 1) := by decide +kernel
theorem d_M_listen_35 : decode b_M_listen 35 = .ok (.return_, 1) := by decide +kernel
theorem d_M_on_0 : decode b_M_on 0 = .ok (.aload_n 0, 1) := by decide +kernel
theorem d_M_on_1 : decode b_M_on 1 = .ok (.iload_n 1, 1) := by decide +kernel
theorem d_M_on_2 : decode b_M_on 2 = .ok (.invokevirtual 75, 3) := by decide +kernel
theorem d_M_on_5 : decode b_M_on 5 = .ok (.ifCond .eq 23, 3) := by decide +kernel
theorem d_M_on_8 : decode b_M_on 8 = .ok (.aload_n 0, 1) := by decide +kernel
theorem d_M_on_9 : decode b_M_on 9 = .ok (.getfield 7, 3) := by decide +kernel
theorem d_M_on_12 : decode b_M_on 12 = .ok (.iload_n 1, 1) := by decide +kernel
theorem d_M_on_13 : decode b_M_on 13 = .ok (.iaload, 1) := by decide +kernel
theorem d_M_on_14 : decode b_M_on 14 = .ok (.ifCond .ne 14, 3) := by decide +kernel
theorem d_M_on_17 : decode b_M_on 17 = .ok (.iload_n 2, 1) := by decide +kernel
theorem d_M_on_18 : decode b_M_on 18 = .ok (.bipush (-2), 2) := by decide +kernel
theorem d_M_on_20 : decode b_M_on 20 = .ok (.if_icmp .lt 8, 3) := by decide +kernel
theorem d_M_on_23 : decode b_M_on 23 = .ok (.iload_n 2, 1) := by decide +kernel
theorem d_M_on_24 : decode b_M_on 24 = .ok (.iconst 2, 1) := by decide +kernel
theorem d_M_on_25 : decode b_M_on 25 = .ok (.if_icmp .le 5, 3) := by decide +kernel
theorem d_M_on_28 : decode b_M_on 28 = .ok (.iconst 0, 1) := by decide +kernel
theorem d_M_on_29 : decode b_M_on 29 = .ok (.ireturn, 1) := by decide +kernel
theorem d_M_on_30 : decode b_M_on 30 = .ok (.aload_n 0, 1) := by decide +kernel
theorem d_M_on_31 : decode b_M_on 31 = .ok (.getfield 44, 3) := by decide +kernel
theorem d_M_on_34 : decode b_M_on 34 = .ok (.iload_n 1, 1) := by decide +kernel
theorem d_M_on_35 : decode b_M_on 35 = .ok (.iload_n 2, 1) := by decide +kernel
theorem d_M_on_36 : decode b_M_on 36 = .ok (.iastore, 1) := by decide +kernel
theorem d_M_on_37 : decode b_M_on 37 = .ok (.aload_n 0, 1) := by decide +kernel
theorem d_M_on_38 : decode b_M_on 38 = .ok (.iload_n 1, 1) := by decide +kernel
theorem d_M_on_39 : decode b_M_on 39 = .ok (.invokevirtual 79, 3) := by decide +kernel
theorem d_M_on_42 : decode b_M_on 42 = .ok (.aload_n 0, 1) := by decide +kernel
theorem d_M_on_43 : decode b_M_on 43 = .ok (.getfield 32, 3) := by decide +kernel
theorem d_M_on_46 : decode b_M_on 46 = .ok (.iload_n 1, 1) := by decide +kernel
theorem d_M_on_47 : decode b_M_on 47 = .ok (.iconst 3, 1) := by decide +kernel
theorem d_M_on_48 : decode b_M_on 48 = .ok (.iastore, 1) := by decide +kernel
theorem d_M_on_49 : decode b_M_on 49 = .ok (.aload_n 0, 1) := by decide +kernel
theorem d_M_on_50 : decode b_M_on 50 = .ok (.getfield 41, 3) := by decide +kernel
theorem d_M_on_53 : decode b_M_on 53 = .ok (.iload_n 1, 1) := by decide +kernel
theorem d_M_on_54 : decode b_M_on 54 = .ok (.iconst 0, 1) := by decide +kernel
theorem d_M_on_55 : decode b_M_on 55 = .ok (.iastore, 1) := by decide +kernel
theorem d_M_on_56 : decode b_M_on 56 = .ok (.aload_n 0, 1) := by decide +kernel
theorem d_M_on_57 : decode b_M_on 57 = .ok (.getfield 19, 3) := by decide +kernel
theorem d_M_on_60 : decode b_M_on 60 = .ok (.iload_n 1, 1) := by decide +kernel
theorem d_M_on_61 : decode b_M_on 61 = .ok (.iconst 0, 1) := by decide +kernel
theorem d_M_on_62 : decode b_M_on 62 = .ok (.iastore, 1) := by decide +kernel
theorem d_M_on_63 : decode b_M_on 63 = .ok (.aload_n 0, 1) := by decide +kernel
theorem d_M_on_64 : decode b_M_on 64 = .ok (.getfield 22, 3) := by decide +kernel
theorem d_M_on_67 : decode b_M_on 67 = .ok (.iload_n 1, 1) := by decide +kernel
theorem d_M_on_68 : decode b_M_on 68 = .ok (.iconst 0, 1) := by decide +kernel
theorem d_M_on_69 : decode b_M_on 69 = .ok (.iastore, 1) := by decide +kernel
theorem d_M_on_70 : decode b_M_on 70 = .ok (.aload_n 0, 1) := by decide +kernel
theorem d_M_on_71 : decode b_M_on 71 = .ok (.getfield 13, 3) := by decide +kernel
theorem d_M_on_74 : decode b_M_on 74 = .ok (.iload_n 1, 1) := by decide +kernel
theorem d_M_on_75 : decode b_M_on 75 = .ok (.iconst 0, 1) := by decide +kernel
theorem d_M_on_76 : decode b_M_on 76 = .ok (.iastore, 1) := by decide +kernel
theorem d_M_on_77 : decode b_M_on 77 = .ok (.aload_n 0, 1) := by decide +kernel
theorem d_M_on_78 : decode b_M_on 78 = .ok (.getfield 16, 3) := by decide +kernel
theorem d_M_on_81 : decode b_M_on 81 = .ok (.iload_n 1, 1) := by decide +kernel
theorem d_M_on_82 : decode b_M_on 82 = .ok (.iconst 0, 1) := by decide +kernel
theorem d_M_on_83 : decode b_M_on 83 = .ok (.iastore, 1) := by decide +kernel
theorem d_M_on_84 : decode b_M_on 84 = .ok (.aload_n 0, 1) := by decide +kernel
theorem d_M_on_85 : decode b_M_on 85 = .ok (.getfield 35, 3) := by decide +kernel
theorem d_M_on_88 : decode b_M_on 88 = .ok (.iload_n 1, 1) := by decide +kernel
theorem d_M_on_89 : decode b_M_on 89 = .ok (.iconst 0, 1) := by decide +kernel
theorem d_M_on_90 : decode b_M_on 90 = .ok (.iastore, 1) := by decide +kernel
theorem d_M_on_91 : decode b_M_on 91 = .ok (.iconst 0, 1) := by decide +kernel
theorem d_M_on_92 : decode b_M_on 92 = .ok (.istore_n 3, 1) := by decide +kernel
theorem d_M_on_93 : decode b_M_on 93 = .ok (.iload_n 3, 1) := by decide +kernel
theorem d_M_on_94 : decode b_M_on 94 = .ok (.bipush 6, 2) := by decide +kernel
theorem d_M_on_96 : decode b_M_on 96 = .ok (.if_icmp .ge 21, 3) := by decide +kernel
theorem d_M_on_99 : decode b_M_on 99 = .ok (.aload_n 0, 1) := by decide +kernel
theorem d_M_on_100 : decode b_M_on 100 = .ok (.getfield 53, 3) := by decide +kernel
theorem d_M_on_103 : decode b_M_on 103 = .ok (.bipush 6, 2) := by decide +kernel
theorem d_M_on_105 : decode b_M_on 105 = .ok (.iload_n 1, 1) := by decide +kernel
theorem d_M_on_106 : decode b_M_on 106 = .ok (.imul, 1) := by decide +kernel
theorem d_M_on_107 : decode b_M_on 107 = .ok (.iload_n 3, 1) := by decide +kernel
theorem d_M_on_108 : decode b_M_on 108 = .ok (.iadd, 1) := by decide +kernel
theorem d_M_on_109 : decode b_M_on 109 = .ok (.iconst 0, 1) := by decide +kernel
theorem d_M_on_110 : decode b_M_on 110 = .ok (.bastore, 1) := by decide +kernel
theorem d_M_on_111 : decode b_M_on 111 = .ok (.iinc 3 1, 3) := by decide +kernel
theorem d_M_on_114 : decode b_M_on 114 = .ok (.goto (-21), 3) := by decide +kernel
theorem d_M_on_117 : decode b_M_on 117 = .ok (.iconst 1, 1) := by decide +kernel
theorem d_M_on_118 : decode b_M_on 118 = .ok (.ireturn, 1) := by decide +kernel
theorem d_M_off_0 : decode b_M_off 0 = .ok (.aload_n 0, 1) := by decide +kernel
theorem d_M_off_1 : decode b_M_off 1 = .ok (.iload_n 1, 1) := by decide +kernel
theorem d_M_off_2 : decode b_M_off 2 = .ok (.invokevirtual 83, 3) := by decide +kernel
theorem d_M_off_5 : decode b_M_off 5 = .ok (.ifCond .ne 5, 3) := by decide +kernel
theorem d_M_off_8 : decode b_M_off 8 = .ok (.iconst 0, 1) := by decide +kernel
theorem d_M_off_9 : decode b_M_off 9 = .ok (.ireturn, 1) := by decide +kernel
theorem d_M_off_10 : decode b_M_off 10 = .ok (.aload_n 0, 1) := by decide +kernel
theorem d_M_off_11 : decode b_M_off 11 = .ok (.getfield 7, 3) := by decide +kernel
theorem d_M_off_14 : decode b_M_off 14 = .ok (.iload_n 1, 1) := by decide +kernel
theorem d_M_off_15 : decode b_M_off 15 = .ok (.iconst 0, 1) := by decide +kernel
theorem d_M_off_16 : decode b_M_off 16 = .ok (.iastore, 1) := by decide +kernel
theorem d_M_off_17 : decode b_M_off 17 = .ok (.aload_n 0, 1) := by decide +kernel
theorem d_M_off_18 : decode b_M_off 18 = .ok (.getfield 47, 3) := by decide +kernel
theorem d_M_off_21 : decode b_M_off 21 = .ok (.iload_n 1, 1) := by decide +kernel
theorem d_M_off_22 : decode b_M_off 22 = .ok (.iconst 0, 1) := by decide +kernel
theorem d_M_off_23 : decode b_M_off 23 = .ok (.bastore, 1) := by decide +kernel
theorem d_M_off_24 : decode b_M_off 24 = .ok (.aload_n 0, 1) := by decide +kernel
theorem d_M_off_25 : decode b_M_off 25 = .ok (.getfield 50, 3) := by decide +kernel
theorem d_M_off_28 : decode b_M_off 28 = .ok (.iload_n 1, 1) := by decide +kernel
theorem d_M_off_29 : decode b_M_off 29 = .ok (.iconst 0, 1) := by decide +kernel
theorem d_M_off_30 : decode b_M_off 30 = .ok (.bastore, 1) := by decide +kernel
theorem d_M_off_31 : decode b_M_off 31 = .ok (.iconst 1, 1) := by decide +kernel
theorem d_M_off_32 : decode b_M_off 32 = .ok (.ireturn, 1) := by decide +kernel
theorem d_M_thaw_0 : decode b_M_thaw 0 = .ok (.aload_n 0, 1) := by decide +kernel
theorem d_M_thaw_1 : decode b_M_thaw 1 = .ok (.iload_n 1, 1) := by decide +kernel
theorem d_M_thaw_2 : decode b_M_thaw 2 = .ok (.invokevirtual 75, 3) := by decide +kernel
theorem d_M_thaw_5 : decode b_M_thaw 5 = .ok (.ifCond .eq 13, 3) := by decide +kernel
theorem d_M_thaw_8 : decode b_M_thaw 8 = .ok (.aload_n 0, 1) := by decide +kernel
theorem d_M_thaw_9 : decode b_M_thaw 9 = .ok (.getfield 7, 3) := by decide +kernel
theorem d_M_thaw_12 : decode b_M_thaw 12 = .ok (.iload_n 1, 1) := by decide +kernel
theorem d_M_thaw_13 : decode b_M_thaw 13 = .ok (.iaload, 1) := by decide +kernel
theorem d_M_thaw_14 : decode b_M_thaw 14 = .ok (.iconst 5, 1) := by decide +kernel
theorem d_M_thaw_15 : decode b_M_thaw 15 = .ok (.if_icmp .eq 5, 3) := by decide +kernel
theorem d_M_thaw_18 : decode b_M_thaw 18 = .ok (.iconst 0, 1) := by decide +kernel
theorem d_M_thaw_19 : decode b_M_thaw 19 = .ok (.ireturn, 1) := by decide +kernel
theorem d_M_thaw_20 : decode b_M_thaw 20 = .ok (.aload_n 0, 1) := by decide +kernel
theorem d_M_thaw_21 : decode b_M_thaw 21 = .ok (.iload_n 1, 1) := by decide +kernel
theorem d_M_thaw_22 : decode b_M_thaw 22 = .ok (.invokevirtual 79, 3) := by decide +kernel
theorem d_M_thaw_25 : decode b_M_thaw 25 = .ok (.aload_n 0, 1) := by decide +kernel
theorem d_M_thaw_26 : decode b_M_thaw 26 = .ok (.getfield 32, 3) := by decide +kernel
theorem d_M_thaw_29 : decode b_M_thaw 29 = .ok (.iload_n 1, 1) := by decide +kernel
theorem d_M_thaw_30 : decode b_M_thaw 30 = .ok (.iconst 3, 1) := by decide +kernel
theorem d_M_thaw_31 : decode b_M_thaw 31 = .ok (.iastore, 1) := by decide +kernel
theorem d_M_thaw_32 : decode b_M_thaw 32 = .ok (.iconst 1, 1) := by decide +kernel
theorem d_M_thaw_33 : decode b_M_thaw 33 = .ok (.ireturn, 1) := by decide +kernel
theorem d_M_mute_0 : decode b_M_mute 0 = .ok (.aload_n 0, 1) := by decide +kernel
theorem d_M_mute_1 : decode b_M_mute 1 = .ok (.iload_n 1, 1) := by decide +kernel
theorem d_M_mute_2 : decode b_M_mute 2 = .ok (.invokevirtual 83, 3) := by decide +kernel
theorem d_M_mute_5 : decode b_M_mute 5 = .ok (.ifCond .eq 12, 3) := by decide +kernel
theorem d_M_mute_8 : decode b_M_mute 8 = .ok (.aload_n 0, 1) := by decide +kernel
theorem d_M_mute_9 : decode b_M_mute 9 = .ok (.getfield 47, 3) := by decide +kernel
theorem d_M_mute_12 : decode b_M_mute 12 = .ok (.iload_n 1, 1) := by decide +kernel
theorem d_M_mute_13 : decode b_M_mute 13 = .ok (.baload, 1) := by decide +kernel
theorem d_M_mute_14 : decode b_M_mute 14 = .ok (.ifCond .eq 5, 3) := by decide +kernel
theorem d_M_mute_17 : decode b_M_mute 17 = .ok (.iconst 0, 1) := by decide +kernel
theorem d_M_mute_18 : decode b_M_mute 18 = .ok (.ireturn, 1) := by decide +kernel
theorem d_M_mute_19 : decode b_M_mute 19 = .ok (.aload_n 0, 1) := by decide +kernel
theorem d_M_mute_20 : decode b_M_mute 20 = .ok (.getfield 47, 3) := by decide +kernel
theorem d_M_mute_23 : decode b_M_mute 23 = .ok (.iload_n 1, 1) := by decide +kernel
theorem d_M_mute_24 : decode b_M_mute 24 = .ok (.iconst 1, 1) := by decide +kernel
theorem d_M_mute_25 : decode b_M_mute 25 = .ok (.bastore, 1) := by decide +kernel
theorem d_M_mute_26 : decode b_M_mute 26 = .ok (.iconst 1, 1) := by decide +kernel
theorem d_M_mute_27 : decode b_M_mute 27 = .ok (.ireturn, 1) := by decide +kernel
theorem d_M_deafen_0 : decode b_M_deafen 0 = .ok (.aload_n 0, 1) := by decide +kernel
theorem d_M_deafen_1 : decode b_M_deafen 1 = .ok (.iload_n 1, 1) := by decide +kernel
theorem d_M_deafen_2 : decode b_M_deafen 2 = .ok (.invokevirtual 83, 3) := by decide +kernel
theorem d_M_deafen_5 : decode b_M_deafen 5 = .ok (.ifCond .eq 12, 3) := by decide +kernel
theorem d_M_deafen_8 : decode b_M_deafen 8 = .ok (.aload_n 0, 1) := by decide +kernel
theorem d_M_deafen_9 : decode b_M_deafen 9 = .ok (.getfield 50, 3) := by decide +kernel
theorem d_M_deafen_12 : decode b_M_deafen 12 = .ok (.iload_n 1, 1) := by decide +kernel
theorem d_M_deafen_13 : decode b_M_deafen 13 = .ok (.baload, 1) := by decide +kernel
theorem d_M_deafen_14 : decode b_M_deafen 14 = .ok (.ifCond .eq 5, 3) := by decide +kernel
theorem d_M_deafen_17 : decode b_M_deafen 17 = .ok (.iconst 0, 1) := by decide +kernel
theorem d_M_deafen_18 : decode b_M_deafen 18 = .ok (.ireturn, 1) := by decide +kernel
theorem d_M_deafen_19 : decode b_M_deafen 19 = .ok (.aload_n 0, 1) := by decide +kernel
theorem d_M_deafen_20 : decode b_M_deafen 20 = .ok (.getfield 50, 3) := by decide +kernel
theorem d_M_deafen_23 : decode b_M_deafen 23 = .ok (.iload_n 1, 1) := by decide +kernel
theorem d_M_deafen_24 : decode b_M_deafen 24 = .ok (.iconst 1, 1) := by decide +kernel
theorem d_M_deafen_25 : decode b_M_deafen 25 = .ok (.bastore, 1) := by decide +kernel
theorem d_M_deafen_26 : decode b_M_deafen 26 = .ok (.iconst 1, 1) := by decide +kernel
theorem d_M_deafen_27 : decode b_M_deafen 27 = .ok (.ireturn, 1) := by decide +kernel
theorem d_M_shift_0 : decode b_M_shift 0 = .ok (.aload_n 0, 1) := by decide +kernel
theorem d_M_shift_1 : decode b_M_shift 1 = .ok (.iload_n 1, 1) := by decide +kernel
theorem d_M_shift_2 : decode b_M_shift 2 = .ok (.invokevirtual 83, 3) := by decide +kernel
theorem d_M_shift_5 : decode b_M_shift 5 = .ok (.ifCond .eq 17, 3) := by decide +kernel
theorem d_M_shift_8 : decode b_M_shift 8 = .ok (.iload_n 2, 1) := by decide +kernel
theorem d_M_shift_9 : decode b_M_shift 9 = .ok (.sipush (-1000), 3) := by decide +kernel
theorem d_M_shift_12 : decode b_M_shift 12 = .ok (.if_icmp .lt 10, 3) := by decide +kernel
theorem d_M_shift_15 : decode b_M_shift 15 = .ok (.iload_n 2, 1) := by decide +kernel
theorem d_M_shift_16 : decode b_M_shift 16 = .ok (.sipush 1000, 3) := by decide +kernel
theorem d_M_shift_19 : decode b_M_shift 19 = .ok (.if_icmp .le 5, 3) := by decide +kernel
theorem d_M_shift_22 : decode b_M_shift 22 = .ok (.iconst 0, 1) := by decide +kernel
theorem d_M_shift_23 : decode b_M_shift 23 = .ok (.ireturn, 1) := by decide +kernel
theorem d_M_shift_24 : decode b_M_shift 24 = .ok (.aload_n 0, 1) := by decide +kernel
theorem d_M_shift_25 : decode b_M_shift 25 = .ok (.getfield 41, 3) := by decide +kernel
theorem d_M_shift_28 : decode b_M_shift 28 = .ok (.iload_n 1, 1) := by decide +kernel
theorem d_M_shift_29 : decode b_M_shift 29 = .ok (.aload_n 0, 1) := by decide +kernel
theorem d_M_shift_30 : decode b_M_shift 30 = .ok (.getfield 41, 3) := by decide +kernel
theorem d_M_shift_33 : decode b_M_shift 33 = .ok (.iload_n 1, 1) := by decide +kernel
theorem d_M_shift_34 : decode b_M_shift 34 = .ok (.iaload, 1) := by decide +kernel
theorem d_M_shift_35 : decode b_M_shift 35 = .ok (.iload_n 2, 1) := by decide +kernel
theorem d_M_shift_36 : decode b_M_shift 36 = .ok (.iadd, 1) := by decide +kernel
theorem d_M_shift_37 : decode b_M_shift 37 = .ok (.iastore, 1) := by decide +kernel
theorem d_M_shift_38 : decode b_M_shift 38 = .ok (.iconst 1, 1) := by decide +kernel
theorem d_M_shift_39 : decode b_M_shift 39 = .ok (.ireturn, 1) := by decide +kernel
theorem d_M_goOn_0 : decode b_M_goOn 0 = .ok (.aload_n 0, 1) := by decide +kernel
theorem d_M_goOn_1 : decode b_M_goOn 1 = .ok (.getfield 41, 3) := by decide +kernel
theorem d_M_goOn_4 : decode b_M_goOn 4 = .ok (.iload_n 1, 1) := by decide +kernel
theorem d_M_goOn_5 : decode b_M_goOn 5 = .ok (.aload_n 0, 1) := by decide +kernel
theorem d_M_goOn_6 : decode b_M_goOn 6 = .ok (.getfield 7, 3) := by decide +kernel
theorem d_M_goOn_9 : decode b_M_goOn 9 = .ok (.iload_n 1, 1) := by decide +kernel
theorem d_M_goOn_10 : decode b_M_goOn 10 = .ok (.iaload, 1) := by decide +kernel
theorem d_M_goOn_11 : decode b_M_goOn 11 = .ok (.ifCond .ne 12, 3) := by decide +kernel
theorem d_M_goOn_14 : decode b_M_goOn 14 = .ok (.aload_n 0, 1) := by decide +kernel
theorem d_M_goOn_15 : decode b_M_goOn 15 = .ok (.getfield 41, 3) := by decide +kernel
theorem d_M_goOn_18 : decode b_M_goOn 18 = .ok (.iload_n 1, 1) := by decide +kernel
theorem d_M_goOn_19 : decode b_M_goOn 19 = .ok (.iaload, 1) := by decide +kernel
theorem d_M_goOn_20 : decode b_M_goOn 20 = .ok (.goto 16, 3) := by decide +kernel
theorem d_M_goOn_23 : decode b_M_goOn 23 = .ok (.aload_n 0, 1) := by decide +kernel
theorem d_M_goOn_24 : decode b_M_goOn 24 = .ok (.getfield 41, 3) := by decide +kernel
theorem d_M_goOn_27 : decode b_M_goOn 27 = .ok (.iload_n 1, 1) := by decide +kernel
theorem d_M_goOn_28 : decode b_M_goOn 28 = .ok (.iaload, 1) := by decide +kernel
theorem d_M_goOn_29 : decode b_M_goOn 29 = .ok (.aload_n 0, 1) := by decide +kernel
theorem d_M_goOn_30 : decode b_M_goOn 30 = .ok (.getfield 44, 3) := by decide +kernel
theorem d_M_goOn_33 : decode b_M_goOn 33 = .ok (.iload_n 1, 1) := by decide +kernel
theorem d_M_goOn_34 : decode b_M_goOn 34 = .ok (.iaload, 1) := by decide +kernel
theorem d_M_goOn_35 : decode b_M_goOn 35 = .ok (.iadd, 1) := by decide +kernel
theorem d_M_goOn_36 : decode b_M_goOn 36 = .ok (.iastore, 1) := by decide +kernel
theorem d_M_goOn_37 : decode b_M_goOn 37 = .ok (.aload_n 0, 1) := by decide +kernel
theorem d_M_goOn_38 : decode b_M_goOn 38 = .ok (.iload_n 1, 1) := by decide +kernel
theorem d_M_goOn_39 : decode b_M_goOn 39 = .ok (.invokevirtual 86, 3) := by decide +kernel
theorem d_M_goOn_42 : decode b_M_goOn 42 = .ok (.ifCond .eq 65, 3) := by decide +kernel
theorem d_M_goOn_45 : decode b_M_goOn 45 = .ok (.aload_n 0, 1) := by decide +kernel
theorem d_M_goOn_46 : decode b_M_goOn 46 = .ok (.getfield 13, 3) := by decide +kernel
theorem d_M_goOn_49 : decode b_M_goOn 49 = .ok (.iload_n 1, 1) := by decide +kernel
theorem d_M_goOn_50 : decode b_M_goOn 50 = .ok (.aload_n 0, 1) := by decide +kernel
theorem d_M_goOn_51 : decode b_M_goOn 51 = .ok (.getfield 13, 3) := by decide +kernel
theorem d_M_goOn_54 : decode b_M_goOn 54 = .ok (.iload_n 1, 1) := by decide +kernel
theorem d_M_goOn_55 : decode b_M_goOn 55 = .ok (.iaload, 1) := by decide +kernel
theorem d_M_goOn_56 : decode b_M_goOn 56 = .ok (.aload_n 0, 1) := by decide +kernel
theorem d_M_goOn_57 : decode b_M_goOn 57 = .ok (.getfield 72, 3) := by decide +kernel
theorem d_M_goOn_60 : decode b_M_goOn 60 = .ok (.iconst 1, 1) := by decide +kernel
theorem d_M_goOn_61 : decode b_M_goOn 61 = .ok (.isub, 1) := by decide +kernel
theorem d_M_goOn_62 : decode b_M_goOn 62 = .ok (.if_icmp .ne 7, 3) := by decide +kernel
theorem d_M_goOn_65 : decode b_M_goOn 65 = .ok (.iconst 0, 1) := by decide +kernel
theorem d_M_goOn_66 : decode b_M_goOn 66 = .ok (.goto 11, 3) := by decide +kernel
theorem d_M_goOn_69 : decode b_M_goOn 69 = .ok (.aload_n 0, 1) := by decide +kernel
theorem d_M_goOn_70 : decode b_M_goOn 70 = .ok (.getfield 13, 3) := by decide +kernel
theorem d_M_goOn_73 : decode b_M_goOn 73 = .ok (.iload_n 1, 1) := by decide +kernel
theorem d_M_goOn_74 : decode b_M_goOn 74 = .ok (.iaload, 1) := by decide +kernel
theorem d_M_goOn_75 : decode b_M_goOn 75 = .ok (.iconst 1, 1) := by decide +kernel
theorem d_M_goOn_76 : decode b_M_goOn 76 = .ok (.iadd, 1) := by decide +kernel
theorem d_M_goOn_77 : decode b_M_goOn 77 = .ok (.iastore, 1) := by decide +kernel
theorem d_M_goOn_78 : decode b_M_goOn 78 = .ok (.aload_n 0, 1) := by decide +kernel
theorem d_M_goOn_79 : decode b_M_goOn 79 = .ok (.getfield 16, 3) := by decide +kernel
theorem d_M_goOn_82 : decode b_M_goOn 82 = .ok (.iload_n 1, 1) := by decide +kernel
theorem d_M_goOn_83 : decode b_M_goOn 83 = .ok (.aload_n 0, 1) := by decide +kernel
theorem d_M_goOn_84 : decode b_M_goOn 84 = .ok (.getfield 16, 3) := by decide +kernel
theorem d_M_goOn_87 : decode b_M_goOn 87 = .ok (.iload_n 1, 1) := by decide +kernel
theorem d_M_goOn_88 : decode b_M_goOn 88 = .ok (.iaload, 1) := by decide +kernel
theorem d_M_goOn_89 : decode b_M_goOn 89 = .ok (.ldc 89, 2) := by decide +kernel
theorem d_M_goOn_91 : decode b_M_goOn 91 = .ok (.if_icmp .ne 7, 3) := by decide +kernel
theorem d_M_goOn_94 : decode b_M_goOn 94 = .ok (.iconst 0, 1) := by decide +kernel
theorem d_M_goOn_95 : decode b_M_goOn 95 = .ok (.goto 11, 3) := by decide +kernel
theorem d_M_goOn_98 : decode b_M_goOn 98 = .ok (.aload_n 0, 1) := by decide +kernel
theorem d_M_goOn_99 : decode b_M_goOn 99 = .ok (.getfield 16, 3) := by decide +kernel
theorem d_M_goOn_102 : decode b_M_goOn 102 = .ok (.iload_n 1, 1) := by decide +kernel
theorem d_M_goOn_103 : decode b_M_goOn 103 = .ok (.iaload, 1) := by decide +kernel
theorem d_M_goOn_104 : decode b_M_goOn 104 = .ok (.iconst 1, 1) := by decide +kernel
theorem d_M_goOn_105 : decode b_M_goOn 105 = .ok (.iadd, 1) := by decide +kernel
theorem d_M_goOn_106 : decode b_M_goOn 106 = .ok (.iastore, 1) := by decide +kernel
theorem d_M_goOn_107 : decode b_M_goOn 107 = .ok (.return_, 1) := by decide +kernel
theorem d_M_startAlone_0 : decode b_M_startAlone 0 = .ok (.aload_n 0, 1) := by decide +kernel
theorem d_M_startAlone_1 : decode b_M_startAlone 1 = .ok (.getfield 32, 3) := by decide +kernel
theorem d_M_startAlone_4 : decode b_M_startAlone 4 = .ok (.iload_n 1, 1) := by decide +kernel
theorem d_M_startAlone_5 : decode b_M_startAlone 5 = .ok (.aload_n 0, 1) := by decide +kernel
theorem d_M_startAlone_6 : decode b_M_startAlone 6 = .ok (.getfield 32, 3) := by decide +kernel
theorem d_M_startAlone_9 : decode b_M_startAlone 9 = .ok (.iload_n 1, 1) := by decide +kernel
theorem d_M_startAlone_10 : decode b_M_startAlone 10 = .ok (.iaload, 1) := by decide +kernel
theorem d_M_startAlone_11 : decode b_M_startAlone 11 = .ok (.iconst 1, 1) := by decide +kernel
theorem d_M_startAlone_12 : decode b_M_startAlone 12 = .ok (.isub, 1) := by decide +kernel
theorem d_M_startAlone_13 : decode b_M_startAlone 13 = .ok (.iastore, 1) := by decide +kernel
theorem d_M_startAlone_14 : decode b_M_startAlone 14 = .ok (.aload_n 0, 1) := by decide +kernel
theorem d_M_startAlone_15 : decode b_M_startAlone 15 = .ok (.getfield 7, 3) := by decide +kernel
theorem d_M_startAlone_18 : decode b_M_startAlone 18 = .ok (.iload_n 1, 1) := by decide +kernel
theorem d_M_startAlone_19 : decode b_M_startAlone 19 = .ok (.iconst 2, 1) := by decide +kernel
theorem d_M_startAlone_20 : decode b_M_startAlone 20 = .ok (.iastore, 1) := by decide +kernel
theorem d_M_startAlone_21 : decode b_M_startAlone 21 = .ok (.aload_n 0, 1) := by decide +kernel
theorem d_M_startAlone_22 : decode b_M_startAlone 22 = .ok (.getfield 13, 3) := by decide +kernel
theorem d_M_startAlone_25 : decode b_M_startAlone 25 = .ok (.iload_n 1, 1) := by decide +kernel
theorem d_M_startAlone_26 : decode b_M_startAlone 26 = .ok (.iload_n 1, 1) := by decide +kernel
theorem d_M_startAlone_27 : decode b_M_startAlone 27 = .ok (.iastore, 1) := by decide +kernel
theorem d_M_startAlone_28 : decode b_M_startAlone 28 = .ok (.aload_n 0, 1) := by decide +kernel
theorem d_M_startAlone_29 : decode b_M_startAlone 29 = .ok (.getfield 16, 3) := by decide +kernel
theorem d_M_startAlone_32 : decode b_M_startAlone 32 = .ok (.iload_n 1, 1) := by decide +kernel
theorem d_M_startAlone_33 : decode b_M_startAlone 33 = .ok (.iconst 0, 1) := by decide +kernel
theorem d_M_startAlone_34 : decode b_M_startAlone 34 = .ok (.iastore, 1) := by decide +kernel
theorem d_M_startAlone_35 : decode b_M_startAlone 35 = .ok (.aload_n 0, 1) := by decide +kernel
theorem d_M_startAlone_36 : decode b_M_startAlone 36 = .ok (.getfield 19, 3) := by decide +kernel
theorem d_M_startAlone_39 : decode b_M_startAlone 39 = .ok (.iload_n 1, 1) := by decide +kernel
theorem d_M_startAlone_40 : decode b_M_startAlone 40 = .ok (.iconst 1, 1) := by decide +kernel
theorem d_M_startAlone_41 : decode b_M_startAlone 41 = .ok (.iastore, 1) := by decide +kernel
theorem d_M_startAlone_42 : decode b_M_startAlone 42 = .ok (.aload_n 0, 1) := by decide +kernel
theorem d_M_startAlone_43 : decode b_M_startAlone 43 = .ok (.getfield 22, 3) := by decide +kernel
theorem d_M_startAlone_46 : decode b_M_startAlone 46 = .ok (.iload_n 1, 1) := by decide +kernel
theorem d_M_startAlone_47 : decode b_M_startAlone 47 = .ok (.iconst 0, 1) := by decide +kernel
theorem d_M_startAlone_48 : decode b_M_startAlone 48 = .ok (.iastore, 1) := by decide +kernel
theorem d_M_startAlone_49 : decode b_M_startAlone 49 = .ok (.aload_n 0, 1) := by decide +kernel
theorem d_M_startAlone_50 : decode b_M_startAlone 50 = .ok (.getfield 35, 3) := by decide +kernel
theorem d_M_startAlone_53 : decode b_M_startAlone 53 = .ok (.iload_n 1, 1) := by decide +kernel
theorem d_M_startAlone_54 : decode b_M_startAlone 54 = .ok (.iconst 0, 1) := by decide +kernel
theorem d_M_startAlone_55 : decode b_M_startAlone 55 = .ok (.iastore, 1) := by decide +kernel
theorem d_M_startAlone_56 : decode b_M_startAlone 56 = .ok (.iconst 0, 1) := by decide +kernel
theorem d_M_startAlone_57 : decode b_M_startAlone 57 = .ok (.istore_n 2, 1) := by decide +kernel
theorem d_M_startAlone_58 : decode b_M_startAlone 58 = .ok (.iload_n 2, 1) := by decide +kernel
theorem d_M_startAlone_59 : decode b_M_startAlone 59 = .ok (.bipush 6, 2) := by decide +kernel
theorem d_M_startAlone_61 : decode b_M_startAlone 61 = .ok (.if_icmp .ge 30, 3) := by decide +kernel
theorem d_M_startAlone_64 : decode b_M_startAlone 64 = .ok (.aload_n 0, 1) := by decide +kernel
theorem d_M_startAlone_65 : decode b_M_startAlone 65 = .ok (.getfield 53, 3) := by decide +kernel
theorem d_M_startAlone_68 : decode b_M_startAlone 68 = .ok (.bipush 6, 2) := by decide +kernel
theorem d_M_startAlone_70 : decode b_M_startAlone 70 = .ok (.iload_n 1, 1) := by decide +kernel
theorem d_M_startAlone_71 : decode b_M_startAlone 71 = .ok (.imul, 1) := by decide +kernel
theorem d_M_startAlone_72 : decode b_M_startAlone 72 = .ok (.iload_n 2, 1) := by decide +kernel
theorem d_M_startAlone_73 : decode b_M_startAlone 73 = .ok (.iadd, 1) := by decide +kernel
theorem d_M_startAlone_74 : decode b_M_startAlone 74 = .ok (.iload_n 2, 1) := by decide +kernel
theorem d_M_startAlone_75 : decode b_M_startAlone 75 = .ok (.iload_n 1, 1) := by decide +kernel
theorem d_M_startAlone_76 : decode b_M_startAlone 76 = .ok (.if_icmp .ne 7, 3) := by decide +kernel
theorem d_M_startAlone_79 : decode b_M_startAlone 79 = .ok (.iconst 1, 1) := by decide +kernel
theorem d_M_startAlone_80 : decode b_M_startAlone 80 = .ok (.goto 4, 3) := by decide +kernel
theorem d_M_startAlone_83 : decode b_M_startAlone 83 = .ok (.iconst 0, 1) := by decide +kernel
theorem d_M_startAlone_84 : decode b_M_startAlone 84 = .ok (.bastore, 1) := by decide +kernel
theorem d_M_startAlone_85 : decode b_M_startAlone 85 = .ok (.iinc 2 1, 3) := by decide +kernel
theorem d_M_startAlone_88 : decode b_M_startAlone 88 = .ok (.goto (-30), 3) := by decide +kernel
theorem d_M_startAlone_91 : decode b_M_startAlone 91 = .ok (.aload_n 0, 1) := by decide +kernel
theorem d_M_startAlone_92 : decode b_M_startAlone 92 = .ok (.getfield 69, 3) := by decide +kernel
theorem d_M_startAlone_95 : decode b_M_startAlone 95 = .ok (.iload_n 1, 1) := by decide +kernel
theorem d_M_startAlone_96 : decode b_M_startAlone 96 = .ok (.iconst 1, 1) := by decide +kernel
theorem d_M_startAlone_97 : decode b_M_startAlone 97 = .ok (.bastore, 1) := by decide +kernel
theorem d_M_startAlone_98 : decode b_M_startAlone 98 = .ok (.return_, 1) := by decide +kernel
theorem d_M_ownTurn_0 : decode b_M_ownTurn 0 = .ok (.aload_n 0, 1) := by decide +kernel
theorem d_M_ownTurn_1 : decode b_M_ownTurn 1 = .ok (.getfield 7, 3) := by decide +kernel
theorem d_M_ownTurn_4 : decode b_M_ownTurn 4 = .ok (.iload_n 1, 1) := by decide +kernel
theorem d_M_ownTurn_5 : decode b_M_ownTurn 5 = .ok (.iaload, 1) := by decide +kernel
theorem d_M_ownTurn_6 : decode b_M_ownTurn 6 = .ok (.iconst 2, 1) := by decide +kernel
theorem d_M_ownTurn_7 : decode b_M_ownTurn 7 = .ok (.if_icmp .ne 30, 3) := by decide +kernel
theorem d_M_ownTurn_10 : decode b_M_ownTurn 10 = .ok (.aload_n 0, 1) := by decide +kernel
theorem d_M_ownTurn_11 : decode b_M_ownTurn 11 = .ok (.getfield 19, 3) := by decide +kernel
theorem d_M_ownTurn_14 : decode b_M_ownTurn 14 = .ok (.iload_n 1, 1) := by decide +kernel
theorem d_M_ownTurn_15 : decode b_M_ownTurn 15 = .ok (.iaload, 1) := by decide +kernel
theorem d_M_ownTurn_16 : decode b_M_ownTurn 16 = .ok (.iconst 1, 1) := by decide +kernel
theorem d_M_ownTurn_17 : decode b_M_ownTurn 17 = .ok (.if_icmp .ne 20, 3) := by decide +kernel
theorem d_M_ownTurn_20 : decode b_M_ownTurn 20 = .ok (.aload_n 0, 1) := by decide +kernel
theorem d_M_ownTurn_21 : decode b_M_ownTurn 21 = .ok (.getfield 22, 3) := by decide +kernel
theorem d_M_ownTurn_24 : decode b_M_ownTurn 24 = .ok (.iload_n 1, 1) := by decide +kernel
theorem d_M_ownTurn_25 : decode b_M_ownTurn 25 = .ok (.iaload, 1) := by decide +kernel
theorem d_M_ownTurn_26 : decode b_M_ownTurn 26 = .ok (.ifCond .ne 11, 3) := by decide +kernel
theorem d_M_ownTurn_29 : decode b_M_ownTurn 29 = .ok (.aload_n 0, 1) := by decide +kernel
theorem d_M_ownTurn_30 : decode b_M_ownTurn 30 = .ok (.iload_n 1, 1) := by decide +kernel
theorem d_M_ownTurn_31 : decode b_M_ownTurn 31 = .ok (.invokevirtual 79, 3) := by decide +kernel
theorem d_M_ownTurn_34 : decode b_M_ownTurn 34 = .ok (.goto 75, 3) := by decide +kernel
theorem d_M_ownTurn_37 : decode b_M_ownTurn 37 = .ok (.aload_n 0, 1) := by decide +kernel
theorem d_M_ownTurn_38 : decode b_M_ownTurn 38 = .ok (.getfield 19, 3) := by decide +kernel
theorem d_M_ownTurn_41 : decode b_M_ownTurn 41 = .ok (.iload_n 1, 1) := by decide +kernel
theorem d_M_ownTurn_42 : decode b_M_ownTurn 42 = .ok (.iaload, 1) := by decide +kernel
theorem d_M_ownTurn_43 : decode b_M_ownTurn 43 = .ok (.aload_n 0, 1) := by decide +kernel
theorem d_M_ownTurn_44 : decode b_M_ownTurn 44 = .ok (.getfield 22, 3) := by decide +kernel
theorem d_M_ownTurn_47 : decode b_M_ownTurn 47 = .ok (.iload_n 1, 1) := by decide +kernel
theorem d_M_ownTurn_48 : decode b_M_ownTurn 48 = .ok (.iaload, 1) := by decide +kernel
theorem d_M_ownTurn_49 : decode b_M_ownTurn 49 = .ok (.if_icmp .gt 13, 3) := by decide +kernel
theorem d_M_ownTurn_52 : decode b_M_ownTurn 52 = .ok (.aload_n 0, 1) := by decide +kernel
theorem d_M_ownTurn_53 : decode b_M_ownTurn 53 = .ok (.getfield 7, 3) := by decide +kernel
theorem d_M_ownTurn_56 : decode b_M_ownTurn 56 = .ok (.iload_n 1, 1) := by decide +kernel
theorem d_M_ownTurn_57 : decode b_M_ownTurn 57 = .ok (.iconst 5, 1) := by decide +kernel
theorem d_M_ownTurn_58 : decode b_M_ownTurn 58 = .ok (.iastore, 1) := by decide +kernel
theorem d_M_ownTurn_59 : decode b_M_ownTurn 59 = .ok (.goto 50, 3) := by decide +kernel
theorem d_M_ownTurn_62 : decode b_M_ownTurn 62 = .ok (.aload_n 0, 1) := by decide +kernel
theorem d_M_ownTurn_63 : decode b_M_ownTurn 63 = .ok (.getfield 7, 3) := by decide +kernel
theorem d_M_ownTurn_66 : decode b_M_ownTurn 66 = .ok (.iload_n 1, 1) := by decide +kernel
theorem d_M_ownTurn_67 : decode b_M_ownTurn 67 = .ok (.iconst 3, 1) := by decide +kernel
theorem d_M_ownTurn_68 : decode b_M_ownTurn 68 = .ok (.iastore, 1) := by decide +kernel
theorem d_M_ownTurn_69 : decode b_M_ownTurn 69 = .ok (.aload_n 0, 1) := by decide +kernel
theorem d_M_ownTurn_70 : decode b_M_ownTurn 70 = .ok (.getfield 53, 3) := by decide +kernel
theorem d_M_ownTurn_73 : decode b_M_ownTurn 73 = .ok (.bipush 6, 2) := by decide +kernel
theorem d_M_ownTurn_75 : decode b_M_ownTurn 75 = .ok (.iload_n 1, 1) := by decide +kernel
theorem d_M_ownTurn_76 : decode b_M_ownTurn 76 = .ok (.imul, 1) := by decide +kernel
theorem d_M_ownTurn_77 : decode b_M_ownTurn 77 = .ok (.iload_n 1, 1) := by decide +kernel
theorem d_M_ownTurn_78 : decode b_M_ownTurn 78 = .ok (.iadd, 1) := by decide +kernel
theorem d_M_ownTurn_79 : decode b_M_ownTurn 79 = .ok (.iconst 1, 1) := by decide +kernel
theorem d_M_ownTurn_80 : decode b_M_ownTurn 80 = .ok (.bastore, 1) := by decide +kernel
theorem d_M_ownTurn_81 : decode b_M_ownTurn 81 = .ok (.aload_n 0, 1) := by decide +kernel
theorem d_M_ownTurn_82 : decode b_M_ownTurn 82 = .ok (.getfield 19, 3) := by decide +kernel
theorem d_M_ownTurn_85 : decode b_M_ownTurn 85 = .ok (.iload_n 1, 1) := by decide +kernel
theorem d_M_ownTurn_86 : decode b_M_ownTurn 86 = .ok (.iconst 1, 1) := by decide +kernel
theorem d_M_ownTurn_87 : decode b_M_ownTurn 87 = .ok (.iastore, 1) := by decide +kernel
theorem d_M_ownTurn_88 : decode b_M_ownTurn 88 = .ok (.aload_n 0, 1) := by decide +kernel
theorem d_M_ownTurn_89 : decode b_M_ownTurn 89 = .ok (.getfield 22, 3) := by decide +kernel
theorem d_M_ownTurn_92 : decode b_M_ownTurn 92 = .ok (.iload_n 1, 1) := by decide +kernel
theorem d_M_ownTurn_93 : decode b_M_ownTurn 93 = .ok (.iconst 0, 1) := by decide +kernel
theorem d_M_ownTurn_94 : decode b_M_ownTurn 94 = .ok (.iastore, 1) := by decide +kernel
theorem d_M_ownTurn_95 : decode b_M_ownTurn 95 = .ok (.aload_n 0, 1) := by decide +kernel
theorem d_M_ownTurn_96 : decode b_M_ownTurn 96 = .ok (.getfield 35, 3) := by decide +kernel
theorem d_M_ownTurn_99 : decode b_M_ownTurn 99 = .ok (.iload_n 1, 1) := by decide +kernel
theorem d_M_ownTurn_100 : decode b_M_ownTurn 100 = .ok (.iconst 1, 1) := by decide +kernel
theorem d_M_ownTurn_101 : decode b_M_ownTurn 101 = .ok (.iastore, 1) := by decide +kernel
theorem d_M_ownTurn_102 : decode b_M_ownTurn 102 = .ok (.aload_n 0, 1) := by decide +kernel
theorem d_M_ownTurn_103 : decode b_M_ownTurn 103 = .ok (.getfield 69, 3) := by decide +kernel
theorem d_M_ownTurn_106 : decode b_M_ownTurn 106 = .ok (.iload_n 1, 1) := by decide +kernel
theorem d_M_ownTurn_107 : decode b_M_ownTurn 107 = .ok (.iconst 1, 1) := by decide +kernel
theorem d_M_ownTurn_108 : decode b_M_ownTurn 108 = .ok (.bastore, 1) := by decide +kernel
theorem d_M_ownTurn_109 : decode b_M_ownTurn 109 = .ok (.return_, 1) := by decide +kernel
theorem d_M_decide_0 : decode b_M_decide 0 = .ok (.aload_n 0, 1) := by decide +kernel
theorem d_M_decide_1 : decode b_M_decide 1 = .ok (.getfield 69, 3) := by decide +kernel
theorem d_M_decide_4 : decode b_M_decide 4 = .ok (.iload_n 1, 1) := by decide +kernel
theorem d_M_decide_5 : decode b_M_decide 5 = .ok (.iconst 0, 1) := by decide +kernel
theorem d_M_decide_6 : decode b_M_decide 6 = .ok (.bastore, 1) := by decide +kernel
theorem d_M_decide_7 : decode b_M_decide 7 = .ok (.aload_n 0, 1) := by decide +kernel
theorem d_M_decide_8 : decode b_M_decide 8 = .ok (.getfield 7, 3) := by decide +kernel
theorem d_M_decide_11 : decode b_M_decide 11 = .ok (.iload_n 1, 1) := by decide +kernel
theorem d_M_decide_12 : decode b_M_decide 12 = .ok (.iaload, 1) := by decide +kernel
theorem d_M_decide_13 : decode b_M_decide 13 = .ok (.iconst 1, 1) := by decide +kernel
theorem d_M_decide_14 : decode b_M_decide 14 = .ok (.if_icmp .ne 62, 3) := by decide +kernel
theorem d_M_decide_17 : decode b_M_decide 17 = .ok (.aload_n 0, 1) := by decide +kernel
theorem d_M_decide_18 : decode b_M_decide 18 = .ok (.getfield 25, 3) := by decide +kernel
theorem d_M_decide_21 : decode b_M_decide 21 = .ok (.iload_n 1, 1) := by decide +kernel
theorem d_M_decide_22 : decode b_M_decide 22 = .ok (.aload_n 0, 1) := by decide +kernel
theorem d_M_decide_23 : decode b_M_decide 23 = .ok (.getfield 25, 3) := by decide +kernel
theorem d_M_decide_26 : decode b_M_decide 26 = .ok (.iload_n 1, 1) := by decide +kernel
theorem d_M_decide_27 : decode b_M_decide 27 = .ok (.iaload, 1) := by decide +kernel
theorem d_M_decide_28 : decode b_M_decide 28 = .ok (.iconst 1, 1) := by decide +kernel
theorem d_M_decide_29 : decode b_M_decide 29 = .ok (.isub, 1) := by decide +kernel
theorem d_M_decide_30 : decode b_M_decide 30 = .ok (.iastore, 1) := by decide +kernel
theorem d_M_decide_31 : decode b_M_decide 31 = .ok (.aload_n 0, 1) := by decide +kernel
theorem d_M_decide_32 : decode b_M_decide 32 = .ok (.getfield 25, 3) := by decide +kernel
theorem d_M_decide_35 : decode b_M_decide 35 = .ok (.iload_n 1, 1) := by decide +kernel
theorem d_M_decide_36 : decode b_M_decide 36 = .ok (.iaload, 1) := by decide +kernel
theorem d_M_decide_37 : decode b_M_decide 37 = .ok (.ifCond .ne 22, 3) := by decide +kernel
theorem d_M_decide_40 : decode b_M_decide 40 = .ok (.aload_n 0, 1) := by decide +kernel
theorem d_M_decide_41 : decode b_M_decide 41 = .ok (.getfield 32, 3) := by decide +kernel
theorem d_M_decide_44 : decode b_M_decide 44 = .ok (.iload_n 1, 1) := by decide +kernel
theorem d_M_decide_45 : decode b_M_decide 45 = .ok (.iaload, 1) := by decide +kernel
theorem d_M_decide_46 : decode b_M_decide 46 = .ok (.ifCond .ne 13, 3) := by decide +kernel
theorem d_M_decide_49 : decode b_M_decide 49 = .ok (.aload_n 0, 1) := by decide +kernel
theorem d_M_decide_50 : decode b_M_decide 50 = .ok (.getfield 7, 3) := by decide +kernel
theorem d_M_decide_53 : decode b_M_decide 53 = .ok (.iload_n 1, 1) := by decide +kernel
theorem d_M_decide_54 : decode b_M_decide 54 = .ok (.iconst 5, 1) := by decide +kernel
theorem d_M_decide_55 : decode b_M_decide 55 = .ok (.iastore, 1) := by decide +kernel
theorem d_M_decide_56 : decode b_M_decide 56 = .ok (.goto 43, 3) := by decide +kernel
theorem d_M_decide_59 : decode b_M_decide 59 = .ok (.aload_n 0, 1) := by decide +kernel
theorem d_M_decide_60 : decode b_M_decide 60 = .ok (.getfield 25, 3) := by decide +kernel
theorem d_M_decide_63 : decode b_M_decide 63 = .ok (.iload_n 1, 1) := by decide +kernel
theorem d_M_decide_64 : decode b_M_decide 64 = .ok (.iaload, 1) := by decide +kernel
theorem d_M_decide_65 : decode b_M_decide 65 = .ok (.ifCond .ne 34, 3) := by decide +kernel
theorem d_M_decide_68 : decode b_M_decide 68 = .ok (.aload_n 0, 1) := by decide +kernel
theorem d_M_decide_69 : decode b_M_decide 69 = .ok (.iload_n 1, 1) := by decide +kernel
theorem d_M_decide_70 : decode b_M_decide 70 = .ok (.invokevirtual 90, 3) := by decide +kernel
theorem d_M_decide_73 : decode b_M_decide 73 = .ok (.goto 26, 3) := by decide +kernel
theorem d_M_decide_76 : decode b_M_decide 76 = .ok (.aload_n 0, 1) := by decide +kernel
theorem d_M_decide_77 : decode b_M_decide 77 = .ok (.iload_n 1, 1) := by decide +kernel
theorem d_M_decide_78 : decode b_M_decide 78 = .ok (.invokevirtual 86, 3) := by decide +kernel
theorem d_M_decide_81 : decode b_M_decide 81 = .ok (.ifCond .eq 18, 3) := by decide +kernel
theorem d_M_decide_84 : decode b_M_decide 84 = .ok (.aload_n 0, 1) := by decide +kernel
theorem d_M_decide_85 : decode b_M_decide 85 = .ok (.getfield 13, 3) := by decide +kernel
theorem d_M_decide_88 : decode b_M_decide 88 = .ok (.iload_n 1, 1) := by decide +kernel
theorem d_M_decide_89 : decode b_M_decide 89 = .ok (.iaload, 1) := by decide +kernel
theorem d_M_decide_90 : decode b_M_decide 90 = .ok (.iload_n 1, 1) := by decide +kernel
theorem d_M_decide_91 : decode b_M_decide 91 = .ok (.if_icmp .ne 8, 3) := by decide +kernel
theorem d_M_decide_94 : decode b_M_decide 94 = .ok (.aload_n 0, 1) := by decide +kernel
theorem d_M_decide_95 : decode b_M_decide 95 = .ok (.iload_n 1, 1) := by decide +kernel
theorem d_M_decide_96 : decode b_M_decide 96 = .ok (.invokevirtual 93, 3) := by decide +kernel
theorem d_M_decide_99 : decode b_M_decide 99 = .ok (.return_, 1) := by decide +kernel
theorem d_M_gather_0 : decode b_M_gather 0 = .ok (.iconst 0, 1) := by decide +kernel
theorem d_M_gather_1 : decode b_M_gather 1 = .ok (.istore_n 1, 1) := by decide +kernel
theorem d_M_gather_2 : decode b_M_gather 2 = .ok (.iconst 0, 1) := by decide +kernel
theorem d_M_gather_3 : decode b_M_gather 3 = .ok (.istore_n 2, 1) := by decide +kernel
theorem d_M_gather_4 : decode b_M_gather 4 = .ok (.iload_n 2, 1) := by decide +kernel
theorem d_M_gather_5 : decode b_M_gather 5 = .ok (.aload_n 0, 1) := by decide +kernel
theorem d_M_gather_6 : decode b_M_gather 6 = .ok (.getfield 72, 3) := by decide +kernel
theorem d_M_gather_9 : decode b_M_gather 9 = .ok (.if_icmp .ge 26, 3) := by decide +kernel
theorem d_M_gather_12 : decode b_M_gather 12 = .ok (.aload_n 0, 1) := by decide +kernel
theorem d_M_gather_13 : decode b_M_gather 13 = .ok (.getfield 69, 3) := by decide +kernel
theorem d_M_gather_16 : decode b_M_gather 16 = .ok (.iload_n 2, 1) := by decide +kernel
theorem d_M_gather_17 : decode b_M_gather 17 = .ok (.baload, 1) := by decide +kernel
theorem d_M_gather_18 : decode b_M_gather 18 = .ok (.ifCond .eq 11, 3) := by decide +kernel
theorem d_M_gather_21 : decode b_M_gather 21 = .ok (.iinc 1 1, 3) := by decide +kernel
theorem d_M_gather_24 : decode b_M_gather 24 = .ok (.aload_n 0, 1) := by decide +kernel
theorem d_M_gather_25 : decode b_M_gather 25 = .ok (.iload_n 2, 1) := by decide +kernel
theorem d_M_gather_26 : decode b_M_gather 26 = .ok (.putfield 96, 3) := by decide +kernel
theorem d_M_gather_29 : decode b_M_gather 29 = .ok (.iinc 2 1, 3) := by decide +kernel
theorem d_M_gather_32 : decode b_M_gather 32 = .ok (.goto (-28), 3) := by decide +kernel
theorem d_M_gather_35 : decode b_M_gather 35 = .ok (.aload_n 0, 1) := by decide +kernel
theorem d_M_gather_36 : decode b_M_gather 36 = .ok (.iload_n 1, 1) := by decide +kernel
theorem d_M_gather_37 : decode b_M_gather 37 = .ok (.ifCond .ne 7, 3) := by decide +kernel
theorem d_M_gather_40 : decode b_M_gather 40 = .ok (.iconst 0, 1) := by decide +kernel
theorem d_M_gather_41 : decode b_M_gather 41 = .ok (.goto 30, 3) := by decide +kernel
theorem d_M_gather_44 : decode b_M_gather 44 = .ok (.iload_n 1, 1) := by decide +kernel
theorem d_M_gather_45 : decode b_M_gather 45 = .ok (.iconst 1, 1) := by decide +kernel
theorem d_M_gather_46 : decode b_M_gather 46 = .ok (.if_icmp .le 7, 3) := by decide +kernel
theorem d_M_gather_49 : decode b_M_gather 49 = .ok (.iconst 1, 1) := by decide +kernel
theorem d_M_gather_50 : decode b_M_gather 50 = .ok (.goto 21, 3) := by decide +kernel
theorem d_M_gather_53 : decode b_M_gather 53 = .ok (.aload_n 0, 1) := by decide +kernel
theorem d_M_gather_54 : decode b_M_gather 54 = .ok (.getfield 7, 3) := by decide +kernel
theorem d_M_gather_57 : decode b_M_gather 57 = .ok (.aload_n 0, 1) := by decide +kernel
theorem d_M_gather_58 : decode b_M_gather 58 = .ok (.getfield 96, 3) := by decide +kernel
theorem d_M_gather_61 : decode b_M_gather 61 = .ok (.iaload, 1) := by decide +kernel
theorem d_M_gather_62 : decode b_M_gather 62 = .ok (.iconst 2, 1) := by decide +kernel
theorem d_M_gather_63 : decode b_M_gather 63 = .ok (.if_icmp .ne 7, 3) := by decide +kernel
theorem d_M_gather_66 : decode b_M_gather 66 = .ok (.iconst 2, 1) := by decide +kernel
theorem d_M_gather_67 : decode b_M_gather 67 = .ok (.goto 4, 3) := by decide +kernel
theorem d_M_gather_70 : decode b_M_gather 70 = .ok (.iconst 3, 1) := by decide +kernel
theorem d_M_gather_71 : decode b_M_gather 71 = .ok (.putfield 99, 3) := by decide +kernel
theorem d_M_gather_74 : decode b_M_gather 74 = .ok (.iload_n 1, 1) := by decide +kernel
theorem d_M_gather_75 : decode b_M_gather 75 = .ok (.iconst 1, 1) := by decide +kernel
theorem d_M_gather_76 : decode b_M_gather 76 = .ok (.if_icmp .ne 30, 3) := by decide +kernel
theorem d_M_gather_79 : decode b_M_gather 79 = .ok (.aload_n 0, 1) := by decide +kernel
theorem d_M_gather_80 : decode b_M_gather 80 = .ok (.getfield 47, 3) := by decide +kernel
theorem d_M_gather_83 : decode b_M_gather 83 = .ok (.aload_n 0, 1) := by decide +kernel
theorem d_M_gather_84 : decode b_M_gather 84 = .ok (.getfield 96, 3) := by decide +kernel
theorem d_M_gather_87 : decode b_M_gather 87 = .ok (.baload, 1) := by decide +kernel
theorem d_M_gather_88 : decode b_M_gather 88 = .ok (.ifCond .eq 18, 3) := by decide +kernel
theorem d_M_gather_91 : decode b_M_gather 91 = .ok (.aload_n 0, 1) := by decide +kernel
theorem d_M_gather_92 : decode b_M_gather 92 = .ok (.getfield 47, 3) := by decide +kernel
theorem d_M_gather_95 : decode b_M_gather 95 = .ok (.aload_n 0, 1) := by decide +kernel
theorem d_M_gather_96 : decode b_M_gather 96 = .ok (.getfield 96, 3) := by decide +kernel
theorem d_M_gather_99 : decode b_M_gather 99 = .ok (.iconst 0, 1) := by decide +kernel
theorem d_M_gather_100 : decode b_M_gather 100 = .ok (.bastore, 1) := by decide +kernel
theorem d_M_gather_101 : decode b_M_gather 101 = .ok (.aload_n 0, 1) := by decide +kernel
theorem d_M_gather_102 : decode b_M_gather 102 = .ok (.iconst 0, 1) := by decide +kernel
theorem d_M_gather_103 : decode b_M_gather 103 = .ok (.putfield 99, 3) := by decide +kernel
theorem d_M_gather_106 : decode b_M_gather 106 = .ok (.iload_n 1, 1) := by decide +kernel
theorem d_M_gather_107 : decode b_M_gather 107 = .ok (.iconst 1, 1) := by decide +kernel
theorem d_M_gather_108 : decode b_M_gather 108 = .ok (.if_icmp .ne 63, 3) := by decide +kernel
theorem d_M_gather_111 : decode b_M_gather 111 = .ok (.aload_n 0, 1) := by decide +kernel
theorem d_M_gather_112 : decode b_M_gather 112 = .ok (.aload_n 0, 1) := by decide +kernel
theorem d_M_gather_113 : decode b_M_gather 113 = .ok (.getfield 16, 3) := by decide +kernel
theorem d_M_gather_116 : decode b_M_gather 116 = .ok (.aload_n 0, 1) := by decide +kernel
theorem d_M_gather_117 : decode b_M_gather 117 = .ok (.getfield 96, 3) := by decide +kernel
theorem d_M_gather_120 : decode b_M_gather 120 = .ok (.iaload, 1) := by decide +kernel
theorem d_M_gather_121 : decode b_M_gather 121 = .ok (.putfield 102, 3) := by decide +kernel
theorem d_M_gather_124 : decode b_M_gather 124 = .ok (.aload_n 0, 1) := by decide +kernel
theorem d_M_gather_125 : decode b_M_gather 125 = .ok (.aload_n 0, 1) := by decide +kernel
theorem d_M_gather_126 : decode b_M_gather 126 = .ok (.getfield 41, 3) := by decide +kernel
theorem d_M_gather_129 : decode b_M_gather 129 = .ok (.aload_n 0, 1) := by decide +kernel
theorem d_M_gather_130 : decode b_M_gather 130 = .ok (.getfield 96, 3) := by decide +kernel
theorem d_M_gather_133 : decode b_M_gather 133 = .ok (.iaload, 1) := by decide +kernel
theorem d_M_gather_134 : decode b_M_gather 134 = .ok (.putfield 105, 3) := by decide +kernel
theorem d_M_gather_137 : decode b_M_gather 137 = .ok (.iconst 0, 1) := by decide +kernel
theorem d_M_gather_138 : decode b_M_gather 138 = .ok (.istore_n 2, 1) := by decide +kernel
theorem d_M_gather_139 : decode b_M_gather 139 = .ok (.iload_n 2, 1) := by decide +kernel
theorem d_M_gather_140 : decode b_M_gather 140 = .ok (.bipush 6, 2) := by decide +kernel
theorem d_M_gather_142 : decode b_M_gather 142 = .ok (.if_icmp .ge 29, 3) := by decide +kernel
theorem d_M_gather_145 : decode b_M_gather 145 = .ok (.aload_n 0, 1) := by decide +kernel
theorem d_M_gather_146 : decode b_M_gather 146 = .ok (.getfield 66, 3) := by decide +kernel
theorem d_M_gather_149 : decode b_M_gather 149 = .ok (.iload_n 2, 1) := by decide +kernel
theorem d_M_gather_150 : decode b_M_gather 150 = .ok (.aload_n 0, 1) := by decide +kernel
theorem d_M_gather_151 : decode b_M_gather 151 = .ok (.getfield 53, 3) := by decide +kernel
theorem d_M_gather_154 : decode b_M_gather 154 = .ok (.bipush 6, 2) := by decide +kernel
theorem d_M_gather_156 : decode b_M_gather 156 = .ok (.aload_n 0, 1) := by decide +kernel
theorem d_M_gather_157 : decode b_M_gather 157 = .ok (.getfield 96, 3) := by decide +kernel
theorem d_M_gather_160 : decode b_M_gather 160 = .ok (.imul, 1) := by decide +kernel
theorem d_M_gather_161 : decode b_M_gather 161 = .ok (.iload_n 2, 1) := by decide +kernel
theorem d_M_gather_162 : decode b_M_gather 162 = .ok (.iadd, 1) := by decide +kernel
theorem d_M_gather_163 : decode b_M_gather 163 = .ok (.baload, 1) := by decide +kernel
theorem d_M_gather_164 : decode b_M_gather 164 = .ok (.bastore, 1) := by decide +kernel
theorem d_M_gather_165 : decode b_M_gather 165 = .ok (.iinc 2 1, 3) := by decide +kernel
theorem d_M_gather_168 : decode b_M_gather 168 = .ok (.goto (-29), 3) := by decide +kernel
theorem d_M_gather_171 : decode b_M_gather 171 = .ok (.aload_n 0, 1) := by decide +kernel
theorem d_M_gather_172 : decode b_M_gather 172 = .ok (.aload_n 0, 1) := by decide +kernel
theorem d_M_gather_173 : decode b_M_gather 173 = .ok (.getfield 99, 3) := by decide +kernel
theorem d_M_gather_176 : decode b_M_gather 176 = .ok (.ifCond .ne 7, 3) := by decide +kernel
theorem d_M_gather_179 : decode b_M_gather 179 = .ok (.iconst (-1), 1) := by decide +kernel
theorem d_M_gather_180 : decode b_M_gather 180 = .ok (.goto 38, 3) := by decide +kernel
theorem d_M_gather_183 : decode b_M_gather 183 = .ok (.aload_n 0, 1) := by decide +kernel
theorem d_M_gather_184 : decode b_M_gather 184 = .ok (.getfield 99, 3) := by decide +kernel
theorem d_M_gather_187 : decode b_M_gather 187 = .ok (.iconst 1, 1) := by decide +kernel
theorem d_M_gather_188 : decode b_M_gather 188 = .ok (.if_icmp .ne 8, 3) := by decide +kernel
theorem d_M_gather_191 : decode b_M_gather 191 = .ok (.bipush (-2), 2) := by decide +kernel
theorem d_M_gather_193 : decode b_M_gather 193 = .ok (.goto 25, 3) := by decide +kernel
theorem d_M_gather_196 : decode b_M_gather 196 = .ok (.aload_n 0, 1) := by decide +kernel
theorem d_M_gather_197 : decode b_M_gather 197 = .ok (.getfield 99, 3) := by decide +kernel
theorem d_M_gather_200 : decode b_M_gather 200 = .ok (.iconst 2, 1) := by decide +kernel
theorem d_M_gather_201 : decode b_M_gather 201 = .ok (.if_icmp .ne 10, 3) := by decide +kernel
theorem d_M_gather_204 : decode b_M_gather 204 = .ok (.aload_n 0, 1) := by decide +kernel
theorem d_M_gather_205 : decode b_M_gather 205 = .ok (.getfield 96, 3) := by decide +kernel
theorem d_M_gather_208 : decode b_M_gather 208 = .ok (.goto 10, 3) := by decide +kernel
theorem d_M_gather_211 : decode b_M_gather 211 = .ok (.aload_n 0, 1) := by decide +kernel
theorem d_M_gather_212 : decode b_M_gather 212 = .ok (.getfield 96, 3) := by decide +kernel
theorem d_M_gather_215 : decode b_M_gather 215 = .ok (.bipush 8, 2) := by decide +kernel
theorem d_M_gather_217 : decode b_M_gather 217 = .ok (.iadd, 1) := by decide +kernel
theorem d_M_gather_218 : decode b_M_gather 218 = .ok (.putfield 62, 3) := by decide +kernel
theorem d_M_gather_221 : decode b_M_gather 221 = .ok (.return_, 1) := by decide +kernel
theorem d_M_comeIn_0 : decode b_M_comeIn 0 = .ok (.aload_n 0, 1) := by decide +kernel
theorem d_M_comeIn_1 : decode b_M_comeIn 1 = .ok (.getfield 7, 3) := by decide +kernel
theorem d_M_comeIn_4 : decode b_M_comeIn 4 = .ok (.iload_n 1, 1) := by decide +kernel
theorem d_M_comeIn_5 : decode b_M_comeIn 5 = .ok (.iconst 4, 1) := by decide +kernel
theorem d_M_comeIn_6 : decode b_M_comeIn 6 = .ok (.iastore, 1) := by decide +kernel
theorem d_M_comeIn_7 : decode b_M_comeIn 7 = .ok (.aload_n 0, 1) := by decide +kernel
theorem d_M_comeIn_8 : decode b_M_comeIn 8 = .ok (.getfield 13, 3) := by decide +kernel
theorem d_M_comeIn_11 : decode b_M_comeIn 11 = .ok (.iload_n 1, 1) := by decide +kernel
theorem d_M_comeIn_12 : decode b_M_comeIn 12 = .ok (.aload_n 0, 1) := by decide +kernel
theorem d_M_comeIn_13 : decode b_M_comeIn 13 = .ok (.getfield 96, 3) := by decide +kernel
theorem d_M_comeIn_16 : decode b_M_comeIn 16 = .ok (.iastore, 1) := by decide +kernel
theorem d_M_comeIn_17 : decode b_M_comeIn 17 = .ok (.aload_n 0, 1) := by decide +kernel
theorem d_M_comeIn_18 : decode b_M_comeIn 18 = .ok (.getfield 16, 3) := by decide +kernel
theorem d_M_comeIn_21 : decode b_M_comeIn 21 = .ok (.iload_n 1, 1) := by decide +kernel
theorem d_M_comeIn_22 : decode b_M_comeIn 22 = .ok (.aload_n 0, 1) := by decide +kernel
theorem d_M_comeIn_23 : decode b_M_comeIn 23 = .ok (.getfield 102, 3) := by decide +kernel
theorem d_M_comeIn_26 : decode b_M_comeIn 26 = .ok (.iastore, 1) := by decide +kernel
theorem d_M_comeIn_27 : decode b_M_comeIn 27 = .ok (.aload_n 0, 1) := by decide +kernel
theorem d_M_comeIn_28 : decode b_M_comeIn 28 = .ok (.getfield 41, 3) := by decide +kernel
theorem d_M_comeIn_31 : decode b_M_comeIn 31 = .ok (.iload_n 1, 1) := by decide +kernel
theorem d_M_comeIn_32 : decode b_M_comeIn 32 = .ok (.aload_n 0, 1) := by decide +kernel
theorem d_M_comeIn_33 : decode b_M_comeIn 33 = .ok (.getfield 105, 3) := by decide +kernel
theorem d_M_comeIn_36 : decode b_M_comeIn 36 = .ok (.iastore, 1) := by decide +kernel
theorem d_M_comeIn_37 : decode b_M_comeIn 37 = .ok (.aload_n 0, 1) := by decide +kernel
theorem d_M_comeIn_38 : decode b_M_comeIn 38 = .ok (.getfield 19, 3) := by decide +kernel
theorem d_M_comeIn_41 : decode b_M_comeIn 41 = .ok (.iload_n 1, 1) := by decide +kernel
theorem d_M_comeIn_42 : decode b_M_comeIn 42 = .ok (.iconst 1, 1) := by decide +kernel
theorem d_M_comeIn_43 : decode b_M_comeIn 43 = .ok (.iastore, 1) := by decide +kernel
theorem d_M_comeIn_44 : decode b_M_comeIn 44 = .ok (.aload_n 0, 1) := by decide +kernel
theorem d_M_comeIn_45 : decode b_M_comeIn 45 = .ok (.getfield 22, 3) := by decide +kernel
theorem d_M_comeIn_48 : decode b_M_comeIn 48 = .ok (.iload_n 1, 1) := by decide +kernel
theorem d_M_comeIn_49 : decode b_M_comeIn 49 = .ok (.iconst 0, 1) := by decide +kernel
theorem d_M_comeIn_50 : decode b_M_comeIn 50 = .ok (.iastore, 1) := by decide +kernel
theorem d_M_comeIn_51 : decode b_M_comeIn 51 = .ok (.aload_n 0, 1) := by decide +kernel
theorem d_M_comeIn_52 : decode b_M_comeIn 52 = .ok (.getfield 35, 3) := by decide +kernel
theorem d_M_comeIn_55 : decode b_M_comeIn 55 = .ok (.iload_n 1, 1) := by decide +kernel
theorem d_M_comeIn_56 : decode b_M_comeIn 56 = .ok (.iconst 0, 1) := by decide +kernel
theorem d_M_comeIn_57 : decode b_M_comeIn 57 = .ok (.iastore, 1) := by decide +kernel
theorem d_M_comeIn_58 : decode b_M_comeIn 58 = .ok (.iconst 0, 1) := by decide +kernel
theorem d_M_comeIn_59 : decode b_M_comeIn 59 = .ok (.istore_n 2, 1) := by decide +kernel
theorem d_M_comeIn_60 : decode b_M_comeIn 60 = .ok (.iload_n 2, 1) := by decide +kernel
theorem d_M_comeIn_61 : decode b_M_comeIn 61 = .ok (.bipush 6, 2) := by decide +kernel
theorem d_M_comeIn_63 : decode b_M_comeIn 63 = .ok (.if_icmp .ge 26, 3) := by decide +kernel
theorem d_M_comeIn_66 : decode b_M_comeIn 66 = .ok (.aload_n 0, 1) := by decide +kernel
theorem d_M_comeIn_67 : decode b_M_comeIn 67 = .ok (.getfield 53, 3) := by decide +kernel
theorem d_M_comeIn_70 : decode b_M_comeIn 70 = .ok (.bipush 6, 2) := by decide +kernel
theorem d_M_comeIn_72 : decode b_M_comeIn 72 = .ok (.iload_n 1, 1) := by decide +kernel
theorem d_M_comeIn_73 : decode b_M_comeIn 73 = .ok (.imul, 1) := by decide +kernel
theorem d_M_comeIn_74 : decode b_M_comeIn 74 = .ok (.iload_n 2, 1) := by decide +kernel
theorem d_M_comeIn_75 : decode b_M_comeIn 75 = .ok (.iadd, 1) := by decide +kernel
theorem d_M_comeIn_76 : decode b_M_comeIn 76 = .ok (.aload_n 0, 1) := by decide +kernel
theorem d_M_comeIn_77 : decode b_M_comeIn 77 = .ok (.getfield 66, 3) := by decide +kernel
theorem d_M_comeIn_80 : decode b_M_comeIn 80 = .ok (.iload_n 2, 1) := by decide +kernel
theorem d_M_comeIn_81 : decode b_M_comeIn 81 = .ok (.baload, 1) := by decide +kernel
theorem d_M_comeIn_82 : decode b_M_comeIn 82 = .ok (.bastore, 1) := by decide +kernel
theorem d_M_comeIn_83 : decode b_M_comeIn 83 = .ok (.iinc 2 1, 3) := by decide +kernel
theorem d_M_comeIn_86 : decode b_M_comeIn 86 = .ok (.goto (-26), 3) := by decide +kernel
theorem d_M_comeIn_89 : decode b_M_comeIn 89 = .ok (.return_, 1) := by decide +kernel
theorem d_M_listens_0 : decode b_M_listens 0 = .ok (.iload_n 2, 1) := by decide +kernel
theorem d_M_listens_1 : decode b_M_listens 1 = .ok (.iconst 3, 1) := by decide +kernel
theorem d_M_listens_2 : decode b_M_listens 2 = .ok (.if_icmp .eq 17, 3) := by decide +kernel
theorem d_M_listens_5 : decode b_M_listens 5 = .ok (.iload_n 2, 1) := by decide +kernel
theorem d_M_listens_6 : decode b_M_listens 6 = .ok (.iconst 2, 1) := by decide +kernel
theorem d_M_listens_7 : decode b_M_listens 7 = .ok (.if_icmp .ne 20, 3) := by decide +kernel
theorem d_M_listens_10 : decode b_M_listens 10 = .ok (.aload_n 0, 1) := by decide +kernel
theorem d_M_listens_11 : decode b_M_listens 11 = .ok (.getfield 28, 3) := by decide +kernel
theorem d_M_listens_14 : decode b_M_listens 14 = .ok (.iload_n 1, 1) := by decide +kernel
theorem d_M_listens_15 : decode b_M_listens 15 = .ok (.baload, 1) := by decide +kernel
theorem d_M_listens_16 : decode b_M_listens 16 = .ok (.ifCond .eq 11, 3) := by decide +kernel
theorem d_M_listens_19 : decode b_M_listens 19 = .ok (.aload_n 0, 1) := by decide +kernel
theorem d_M_listens_20 : decode b_M_listens 20 = .ok (.iload_n 1, 1) := by decide +kernel
theorem d_M_listens_21 : decode b_M_listens 21 = .ok (.invokevirtual 108, 3) := by decide +kernel
theorem d_M_listens_24 : decode b_M_listens 24 = .ok (.goto 29, 3) := by decide +kernel
theorem d_M_listens_27 : decode b_M_listens 27 = .ok (.iload_n 2, 1) := by decide +kernel
theorem d_M_listens_28 : decode b_M_listens 28 = .ok (.iconst 2, 1) := by decide +kernel
theorem d_M_listens_29 : decode b_M_listens 29 = .ok (.if_icmp .ne 24, 3) := by decide +kernel
theorem d_M_listens_32 : decode b_M_listens 32 = .ok (.aload_n 0, 1) := by decide +kernel
theorem d_M_listens_33 : decode b_M_listens 33 = .ok (.getfield 28, 3) := by decide +kernel
theorem d_M_listens_36 : decode b_M_listens 36 = .ok (.iload_n 1, 1) := by decide +kernel
theorem d_M_listens_37 : decode b_M_listens 37 = .ok (.iconst 1, 1) := by decide +kernel
theorem d_M_listens_38 : decode b_M_listens 38 = .ok (.bastore, 1) := by decide +kernel
theorem d_M_listens_39 : decode b_M_listens 39 = .ok (.aload_n 0, 1) := by decide +kernel
theorem d_M_listens_40 : decode b_M_listens 40 = .ok (.getfield 25, 3) := by decide +kernel
theorem d_M_listens_43 : decode b_M_listens 43 = .ok (.iload_n 1, 1) := by decide +kernel
theorem d_M_listens_44 : decode b_M_listens 44 = .ok (.iconst 2, 1) := by decide +kernel
theorem d_M_listens_45 : decode b_M_listens 45 = .ok (.aload_n 0, 1) := by decide +kernel
theorem d_M_listens_46 : decode b_M_listens 46 = .ok (.getfield 72, 3) := by decide +kernel
theorem d_M_listens_49 : decode b_M_listens 49 = .ok (.imul, 1) := by decide +kernel
theorem d_M_listens_50 : decode b_M_listens 50 = .ok (.iload_n 1, 1) := by decide +kernel
theorem d_M_listens_51 : decode b_M_listens 51 = .ok (.iadd, 1) := by decide +kernel
theorem d_M_listens_52 : decode b_M_listens 52 = .ok (.iastore, 1) := by decide +kernel
theorem d_M_listens_53 : decode b_M_listens 53 = .ok (.return_, 1) := by decide +kernel
theorem d_M_matches_0 : decode b_M_matches 0 = .ok (.iconst 1, 1) := by decide +kernel
theorem d_M_matches_1 : decode b_M_matches 1 = .ok (.istore_n 3, 1) := by decide +kernel
theorem d_M_matches_2 : decode b_M_matches 2 = .ok (.iconst 0, 1) := by decide +kernel
theorem d_M_matches_3 : decode b_M_matches 3 = .ok (.istore 4, 2) := by decide +kernel
theorem d_M_matches_5 : decode b_M_matches 5 = .ok (.iload 4, 2) := by decide +kernel
theorem d_M_matches_7 : decode b_M_matches 7 = .ok (.aload_n 0, 1) := by decide +kernel
theorem d_M_matches_8 : decode b_M_matches 8 = .ok (.getfield 72, 3) := by decide +kernel
theorem d_M_matches_11 : decode b_M_matches 11 = .ok (.if_icmp .ge 70, 3) := by decide +kernel
theorem d_M_matches_14 : decode b_M_matches 14 = .ok (.aload_n 0, 1) := by decide +kernel
theorem d_M_matches_15 : decode b_M_matches 15 = .ok (.getfield 53, 3) := by decide +kernel
theorem d_M_matches_18 : decode b_M_matches 18 = .ok (.bipush 6, 2) := by decide +kernel
theorem d_M_matches_20 : decode b_M_matches 20 = .ok (.iload_n 1, 1) := by decide +kernel
theorem d_M_matches_21 : decode b_M_matches 21 = .ok (.imul, 1) := by decide +kernel
theorem d_M_matches_22 : decode b_M_matches 22 = .ok (.iload 4, 2) := by decide +kernel
theorem d_M_matches_24 : decode b_M_matches 24 = .ok (.iadd, 1) := by decide +kernel
theorem d_M_matches_25 : decode b_M_matches 25 = .ok (.baload, 1) := by decide +kernel
theorem d_M_matches_26 : decode b_M_matches 26 = .ok (.ifCond .ne 14, 3) := by decide +kernel
theorem d_M_matches_29 : decode b_M_matches 29 = .ok (.iload 4, 2) := by decide +kernel
theorem d_M_matches_31 : decode b_M_matches 31 = .ok (.aload_n 0, 1) := by decide +kernel
theorem d_M_matches_32 : decode b_M_matches 32 = .ok (.getfield 13, 3) := by decide +kernel
theorem d_M_matches_35 : decode b_M_matches 35 = .ok (.iload_n 1, 1) := by decide +kernel
theorem d_M_matches_36 : decode b_M_matches 36 = .ok (.iaload, 1) := by decide +kernel
theorem d_M_matches_37 : decode b_M_matches 37 = .ok (.if_icmp .ne 13, 3) := by decide +kernel
theorem d_M_matches_40 : decode b_M_matches 40 = .ok (.iload 4, 2) := by decide +kernel
theorem d_M_matches_42 : decode b_M_matches 42 = .ok (.iload_n 2, 1) := by decide +kernel
theorem d_M_matches_43 : decode b_M_matches 43 = .ok (.if_icmp .eq 7, 3) := by decide +kernel
theorem d_M_matches_46 : decode b_M_matches 46 = .ok (.iconst 1, 1) := by decide +kernel
theorem d_M_matches_47 : decode b_M_matches 47 = .ok (.goto 4, 3) := by decide +kernel
theorem d_M_matches_50 : decode b_M_matches 50 = .ok (.iconst 0, 1) := by decide +kernel
theorem d_M_matches_51 : decode b_M_matches 51 = .ok (.istore 5, 2) := by decide +kernel
theorem d_M_matches_53 : decode b_M_matches 53 = .ok (.iload_n 3, 1) := by decide +kernel
theorem d_M_matches_54 : decode b_M_matches 54 = .ok (.ifCond .eq 19, 3) := by decide +kernel
theorem d_M_matches_57 : decode b_M_matches 57 = .ok (.iload 5, 2) := by decide +kernel
theorem d_M_matches_59 : decode b_M_matches 59 = .ok (.aload_n 0, 1) := by decide +kernel
theorem d_M_matches_60 : decode b_M_matches 60 = .ok (.getfield 66, 3) := by decide +kernel
theorem d_M_matches_63 : decode b_M_matches 63 = .ok (.iload 4, 2) := by decide +kernel
theorem d_M_matches_65 : decode b_M_matches 65 = .ok (.baload, 1) := by decide +kernel
theorem d_M_matches_66 : decode b_M_matches 66 = .ok (.if_icmp .ne 7, 3) := by decide +kernel
theorem d_M_matches_69 : decode b_M_matches 69 = .ok (.iconst 1, 1) := by decide +kernel
theorem d_M_matches_70 : decode b_M_matches 70 = .ok (.goto 4, 3) := by decide +kernel
theorem d_M_matches_73 : decode b_M_matches 73 = .ok (.iconst 0, 1) := by decide +kernel
theorem d_M_matches_74 : decode b_M_matches 74 = .ok (.istore_n 3, 1) := by decide +kernel
theorem d_M_matches_75 : decode b_M_matches 75 = .ok (.iinc 4 1, 3) := by decide +kernel
theorem d_M_matches_78 : decode b_M_matches 78 = .ok (.goto (-73), 3) := by decide +kernel
theorem d_M_matches_81 : decode b_M_matches 81 = .ok (.iload_n 3, 1) := by decide +kernel
theorem d_M_matches_82 : decode b_M_matches 82 = .ok (.ireturn, 1) := by decide +kernel
theorem d_M_bad_0 : decode b_M_bad 0 = .ok (.aload_n 0, 1) := by decide +kernel
theorem d_M_bad_1 : decode b_M_bad 1 = .ok (.getfield 53, 3) := by decide +kernel
theorem d_M_bad_4 : decode b_M_bad 4 = .ok (.bipush 6, 2) := by decide +kernel
theorem d_M_bad_6 : decode b_M_bad 6 = .ok (.iload_n 1, 1) := by decide +kernel
theorem d_M_bad_7 : decode b_M_bad 7 = .ok (.imul, 1) := by decide +kernel
theorem d_M_bad_8 : decode b_M_bad 8 = .ok (.aload_n 0, 1) := by decide +kernel
theorem d_M_bad_9 : decode b_M_bad 9 = .ok (.getfield 13, 3) := by decide +kernel
theorem d_M_bad_12 : decode b_M_bad 12 = .ok (.iload_n 1, 1) := by decide +kernel
theorem d_M_bad_13 : decode b_M_bad 13 = .ok (.iaload, 1) := by decide +kernel
theorem d_M_bad_14 : decode b_M_bad 14 = .ok (.iadd, 1) := by decide +kernel
theorem d_M_bad_15 : decode b_M_bad 15 = .ok (.iconst 0, 1) := by decide +kernel
theorem d_M_bad_16 : decode b_M_bad 16 = .ok (.bastore, 1) := by decide +kernel
theorem d_M_bad_17 : decode b_M_bad 17 = .ok (.aload_n 0, 1) := by decide +kernel
theorem d_M_bad_18 : decode b_M_bad 18 = .ok (.getfield 22, 3) := by decide +kernel
theorem d_M_bad_21 : decode b_M_bad 21 = .ok (.iload_n 1, 1) := by decide +kernel
theorem d_M_bad_22 : decode b_M_bad 22 = .ok (.aload_n 0, 1) := by decide +kernel
theorem d_M_bad_23 : decode b_M_bad 23 = .ok (.getfield 22, 3) := by decide +kernel
theorem d_M_bad_26 : decode b_M_bad 26 = .ok (.iload_n 1, 1) := by decide +kernel
theorem d_M_bad_27 : decode b_M_bad 27 = .ok (.iaload, 1) := by decide +kernel
theorem d_M_bad_28 : decode b_M_bad 28 = .ok (.iconst 1, 1) := by decide +kernel
theorem d_M_bad_29 : decode b_M_bad 29 = .ok (.iadd, 1) := by decide +kernel
theorem d_M_bad_30 : decode b_M_bad 30 = .ok (.iastore, 1) := by decide +kernel
theorem d_M_bad_31 : decode b_M_bad 31 = .ok (.return_, 1) := by decide +kernel
theorem d_M_good_0 : decode b_M_good 0 = .ok (.aload_n 0, 1) := by decide +kernel
theorem d_M_good_1 : decode b_M_good 1 = .ok (.getfield 53, 3) := by decide +kernel
theorem d_M_good_4 : decode b_M_good 4 = .ok (.bipush 6, 2) := by decide +kernel
theorem d_M_good_6 : decode b_M_good 6 = .ok (.iload_n 1, 1) := by decide +kernel
theorem d_M_good_7 : decode b_M_good 7 = .ok (.imul, 1) := by decide +kernel
theorem d_M_good_8 : decode b_M_good 8 = .ok (.aload_n 0, 1) := by decide +kernel
theorem d_M_good_9 : decode b_M_good 9 = .ok (.getfield 13, 3) := by decide +kernel
theorem d_M_good_12 : decode b_M_good 12 = .ok (.iload_n 1, 1) := by decide +kernel
theorem d_M_good_13 : decode b_M_good 13 = .ok (.iaload, 1) := by decide +kernel
theorem d_M_good_14 : decode b_M_good 14 = .ok (.iadd, 1) := by decide +kernel
theorem d_M_good_15 : decode b_M_good 15 = .ok (.iconst 1, 1) := by decide +kernel
theorem d_M_good_16 : decode b_M_good 16 = .ok (.bastore, 1) := by decide +kernel
theorem d_M_good_17 : decode b_M_good 17 = .ok (.aload_n 0, 1) := by decide +kernel
theorem d_M_good_18 : decode b_M_good 18 = .ok (.getfield 19, 3) := by decide +kernel
theorem d_M_good_21 : decode b_M_good 21 = .ok (.iload_n 1, 1) := by decide +kernel
theorem d_M_good_22 : decode b_M_good 22 = .ok (.aload_n 0, 1) := by decide +kernel
theorem d_M_good_23 : decode b_M_good 23 = .ok (.getfield 19, 3) := by decide +kernel
theorem d_M_good_26 : decode b_M_good 26 = .ok (.iload_n 1, 1) := by decide +kernel
theorem d_M_good_27 : decode b_M_good 27 = .ok (.iaload, 1) := by decide +kernel
theorem d_M_good_28 : decode b_M_good 28 = .ok (.iconst 1, 1) := by decide +kernel
theorem d_M_good_29 : decode b_M_good 29 = .ok (.iadd, 1) := by decide +kernel
theorem d_M_good_30 : decode b_M_good 30 = .ok (.iastore, 1) := by decide +kernel
theorem d_M_good_31 : decode b_M_good 31 = .ok (.aload_n 0, 1) := by decide +kernel
theorem d_M_good_32 : decode b_M_good 32 = .ok (.getfield 59, 3) := by decide +kernel
theorem d_M_good_35 : decode b_M_good 35 = .ok (.iload_n 1, 1) := by decide +kernel
theorem d_M_good_36 : decode b_M_good 36 = .ok (.iaload, 1) := by decide +kernel
theorem d_M_good_37 : decode b_M_good 37 = .ok (.iconst 4, 1) := by decide +kernel
theorem d_M_good_38 : decode b_M_good 38 = .ok (.if_icmp .ne 45, 3) := by decide +kernel
theorem d_M_good_41 : decode b_M_good 41 = .ok (.iconst 0, 1) := by decide +kernel
theorem d_M_good_42 : decode b_M_good 42 = .ok (.istore_n 2, 1) := by decide +kernel
theorem d_M_good_43 : decode b_M_good 43 = .ok (.iload_n 2, 1) := by decide +kernel
theorem d_M_good_44 : decode b_M_good 44 = .ok (.iconst 3, 1) := by decide +kernel
theorem d_M_good_45 : decode b_M_good 45 = .ok (.if_icmp .ge 31, 3) := by decide +kernel
theorem d_M_good_48 : decode b_M_good 48 = .ok (.aload_n 0, 1) := by decide +kernel
theorem d_M_good_49 : decode b_M_good 49 = .ok (.getfield 56, 3) := by decide +kernel
theorem d_M_good_52 : decode b_M_good 52 = .ok (.iconst 4, 1) := by decide +kernel
theorem d_M_good_53 : decode b_M_good 53 = .ok (.iload_n 1, 1) := by decide +kernel
theorem d_M_good_54 : decode b_M_good 54 = .ok (.imul, 1) := by decide +kernel
theorem d_M_good_55 : decode b_M_good 55 = .ok (.iload_n 2, 1) := by decide +kernel
theorem d_M_good_56 : decode b_M_good 56 = .ok (.iadd, 1) := by decide +kernel
theorem d_M_good_57 : decode b_M_good 57 = .ok (.aload_n 0, 1) := by decide +kernel
theorem d_M_good_58 : decode b_M_good 58 = .ok (.getfield 56, 3) := by decide +kernel
theorem d_M_good_61 : decode b_M_good 61 = .ok (.iconst 4, 1) := by decide +kernel
theorem d_M_good_62 : decode b_M_good 62 = .ok (.iload_n 1, 1) := by decide +kernel
theorem d_M_good_63 : decode b_M_good 63 = .ok (.imul, 1) := by decide +kernel
theorem d_M_good_64 : decode b_M_good 64 = .ok (.iload_n 2, 1) := by decide +kernel
theorem d_M_good_65 : decode b_M_good 65 = .ok (.iadd, 1) := by decide +kernel
theorem d_M_good_66 : decode b_M_good 66 = .ok (.iconst 1, 1) := by decide +kernel
theorem d_M_good_67 : decode b_M_good 67 = .ok (.iadd, 1) := by decide +kernel
theorem d_M_good_68 : decode b_M_good 68 = .ok (.iaload, 1) := by decide +kernel
theorem d_M_good_69 : decode b_M_good 69 = .ok (.iastore, 1) := by decide +kernel
theorem d_M_good_70 : decode b_M_good 70 = .ok (.iinc 2 1, 3) := by decide +kernel
theorem d_M_good_73 : decode b_M_good 73 = .ok (.goto (-30), 3) := by decide +kernel
theorem d_M_good_76 : decode b_M_good 76 = .ok (.aload_n 0, 1) := by decide +kernel
theorem d_M_good_77 : decode b_M_good 77 = .ok (.getfield 59, 3) := by decide +kernel
theorem d_M_good_80 : decode b_M_good 80 = .ok (.iload_n 1, 1) := by decide +kernel
theorem d_M_good_81 : decode b_M_good 81 = .ok (.iconst 3, 1) := by decide +kernel
theorem d_M_good_82 : decode b_M_good 82 = .ok (.iastore, 1) := by decide +kernel
theorem d_M_good_83 : decode b_M_good 83 = .ok (.aload_n 0, 1) := by decide +kernel
theorem d_M_good_84 : decode b_M_good 84 = .ok (.getfield 56, 3) := by decide +kernel
theorem d_M_good_87 : decode b_M_good 87 = .ok (.iconst 4, 1) := by decide +kernel
theorem d_M_good_88 : decode b_M_good 88 = .ok (.iload_n 1, 1) := by decide +kernel
theorem d_M_good_89 : decode b_M_good 89 = .ok (.imul, 1) := by decide +kernel
theorem d_M_good_90 : decode b_M_good 90 = .ok (.aload_n 0, 1) := by decide +kernel
theorem d_M_good_91 : decode b_M_good 91 = .ok (.getfield 59, 3) := by decide +kernel
theorem d_M_good_94 : decode b_M_good 94 = .ok (.iload_n 1, 1) := by decide +kernel
theorem d_M_good_95 : decode b_M_good 95 = .ok (.iaload, 1) := by decide +kernel
theorem d_M_good_96 : decode b_M_good 96 = .ok (.iadd, 1) := by decide +kernel
theorem d_M_good_97 : decode b_M_good 97 = .ok (.aload_n 0, 1) := by decide +kernel
theorem d_M_good_98 : decode b_M_good 98 = .ok (.getfield 105, 3) := by decide +kernel
theorem d_M_good_101 : decode b_M_good 101 = .ok (.aload_n 0, 1) := by decide +kernel
theorem d_M_good_102 : decode b_M_good 102 = .ok (.getfield 41, 3) := by decide +kernel
theorem d_M_good_105 : decode b_M_good 105 = .ok (.iload_n 1, 1) := by decide +kernel
theorem d_M_good_106 : decode b_M_good 106 = .ok (.iaload, 1) := by decide +kernel
theorem d_M_good_107 : decode b_M_good 107 = .ok (.isub, 1) := by decide +kernel
theorem d_M_good_108 : decode b_M_good 108 = .ok (.iastore, 1) := by decide +kernel
theorem d_M_good_109 : decode b_M_good 109 = .ok (.aload_n 0, 1) := by decide +kernel
theorem d_M_good_110 : decode b_M_good 110 = .ok (.getfield 59, 3) := by decide +kernel
theorem d_M_good_113 : decode b_M_good 113 = .ok (.iload_n 1, 1) := by decide +kernel
theorem d_M_good_114 : decode b_M_good 114 = .ok (.aload_n 0, 1) := by decide +kernel
theorem d_M_good_115 : decode b_M_good 115 = .ok (.getfield 59, 3) := by decide +kernel
theorem d_M_good_118 : decode b_M_good 118 = .ok (.iload_n 1, 1) := by decide +kernel
theorem d_M_good_119 : decode b_M_good 119 = .ok (.iaload, 1) := by decide +kernel
theorem d_M_good_120 : decode b_M_good 120 = .ok (.iconst 1, 1) := by decide +kernel
theorem d_M_good_121 : decode b_M_good 121 = .ok (.iadd, 1) := by decide +kernel
theorem d_M_good_122 : decode b_M_good 122 = .ok (.iastore, 1) := by decide +kernel
theorem d_M_good_123 : decode b_M_good 123 = .ok (.return_, 1) := by decide +kernel
theorem d_M_compared_0 : decode b_M_compared 0 = .ok (.aload_n 0, 1) := by decide +kernel
theorem d_M_compared_1 : decode b_M_compared 1 = .ok (.getfield 35, 3) := by decide +kernel
theorem d_M_compared_4 : decode b_M_compared 4 = .ok (.iload_n 1, 1) := by decide +kernel
theorem d_M_compared_5 : decode b_M_compared 5 = .ok (.iaload, 1) := by decide +kernel
theorem d_M_compared_6 : decode b_M_compared 6 = .ok (.istore_n 2, 1) := by decide +kernel
theorem d_M_compared_7 : decode b_M_compared 7 = .ok (.iload_n 2, 1) := by decide +kernel
theorem d_M_compared_8 : decode b_M_compared 8 = .ok (.iconst 2, 1) := by decide +kernel
theorem d_M_compared_9 : decode b_M_compared 9 = .ok (.if_icmp .ne 128, 3) := by decide +kernel
theorem d_M_compared_12 : decode b_M_compared 12 = .ok (.aload_n 0, 1) := by decide +kernel
theorem d_M_compared_13 : decode b_M_compared 13 = .ok (.iload_n 1, 1) := by decide +kernel
theorem d_M_compared_14 : decode b_M_compared 14 = .ok (.aload_n 0, 1) := by decide +kernel
theorem d_M_compared_15 : decode b_M_compared 15 = .ok (.getfield 38, 3) := by decide +kernel
theorem d_M_compared_18 : decode b_M_compared 18 = .ok (.iload_n 1, 1) := by decide +kernel
theorem d_M_compared_19 : decode b_M_compared 19 = .ok (.iaload, 1) := by decide +kernel
theorem d_M_compared_20 : decode b_M_compared 20 = .ok (.invokevirtual 111, 3) := by decide +kernel
theorem d_M_compared_23 : decode b_M_compared 23 = .ok (.ifCond .eq 49, 3) := by decide +kernel
theorem d_M_compared_26 : decode b_M_compared 26 = .ok (.aload_n 0, 1) := by decide +kernel
theorem d_M_compared_27 : decode b_M_compared 27 = .ok (.getfield 53, 3) := by decide +kernel
theorem d_M_compared_30 : decode b_M_compared 30 = .ok (.bipush 6, 2) := by decide +kernel
theorem d_M_compared_32 : decode b_M_compared 32 = .ok (.iload_n 1, 1) := by decide +kernel
theorem d_M_compared_33 : decode b_M_compared 33 = .ok (.imul, 1) := by decide +kernel
theorem d_M_compared_34 : decode b_M_compared 34 = .ok (.aload_n 0, 1) := by decide +kernel
theorem d_M_compared_35 : decode b_M_compared 35 = .ok (.getfield 38, 3) := by decide +kernel
theorem d_M_compared_38 : decode b_M_compared 38 = .ok (.iload_n 1, 1) := by decide +kernel
theorem d_M_compared_39 : decode b_M_compared 39 = .ok (.iaload, 1) := by decide +kernel
theorem d_M_compared_40 : decode b_M_compared 40 = .ok (.iadd, 1) := by decide +kernel
theorem d_M_compared_41 : decode b_M_compared 41 = .ok (.iconst 0, 1) := by decide +kernel
theorem d_M_compared_42 : decode b_M_compared 42 = .ok (.bastore, 1) := by decide +kernel
theorem d_M_compared_43 : decode b_M_compared 43 = .ok (.aload_n 0, 1) := by decide +kernel
theorem d_M_compared_44 : decode b_M_compared 44 = .ok (.getfield 22, 3) := by decide +kernel
theorem d_M_compared_47 : decode b_M_compared 47 = .ok (.iload_n 1, 1) := by decide +kernel
theorem d_M_compared_48 : decode b_M_compared 48 = .ok (.aload_n 0, 1) := by decide +kernel
theorem d_M_compared_49 : decode b_M_compared 49 = .ok (.getfield 22, 3) := by decide +kernel
theorem d_M_compared_52 : decode b_M_compared 52 = .ok (.iload_n 1, 1) := by decide +kernel
theorem d_M_compared_53 : decode b_M_compared 53 = .ok (.iaload, 1) := by decide +kernel
theorem d_M_compared_54 : decode b_M_compared 54 = .ok (.iconst 1, 1) := by decide +kernel
theorem d_M_compared_55 : decode b_M_compared 55 = .ok (.iadd, 1) := by decide +kernel
theorem d_M_compared_56 : decode b_M_compared 56 = .ok (.iastore, 1) := by decide +kernel
theorem d_M_compared_57 : decode b_M_compared 57 = .ok (.aload_n 0, 1) := by decide +kernel
theorem d_M_compared_58 : decode b_M_compared 58 = .ok (.getfield 35, 3) := by decide +kernel
theorem d_M_compared_61 : decode b_M_compared 61 = .ok (.iload_n 1, 1) := by decide +kernel
theorem d_M_compared_62 : decode b_M_compared 62 = .ok (.iconst 0, 1) := by decide +kernel
theorem d_M_compared_63 : decode b_M_compared 63 = .ok (.iastore, 1) := by decide +kernel
theorem d_M_compared_64 : decode b_M_compared 64 = .ok (.aload_n 0, 1) := by decide +kernel
theorem d_M_compared_65 : decode b_M_compared 65 = .ok (.iload_n 1, 1) := by decide +kernel
theorem d_M_compared_66 : decode b_M_compared 66 = .ok (.invokevirtual 115, 3) := by decide +kernel
theorem d_M_compared_69 : decode b_M_compared 69 = .ok (.goto 150, 3) := by decide +kernel
theorem d_M_compared_72 : decode b_M_compared 72 = .ok (.aload_n 0, 1) := by decide +kernel
theorem d_M_compared_73 : decode b_M_compared 73 = .ok (.iload_n 1, 1) := by decide +kernel
theorem d_M_compared_74 : decode b_M_compared 74 = .ok (.iload_n 1, 1) := by decide +kernel
theorem d_M_compared_75 : decode b_M_compared 75 = .ok (.invokevirtual 111, 3) := by decide +kernel
theorem d_M_compared_78 : decode b_M_compared 78 = .ok (.ifCond .eq 51, 3) := by decide +kernel
theorem d_M_compared_81 : decode b_M_compared 81 = .ok (.aload_n 0, 1) := by decide +kernel
theorem d_M_compared_82 : decode b_M_compared 82 = .ok (.getfield 53, 3) := by decide +kernel
theorem d_M_compared_85 : decode b_M_compared 85 = .ok (.bipush 6, 2) := by decide +kernel
theorem d_M_compared_87 : decode b_M_compared 87 = .ok (.iload_n 1, 1) := by decide +kernel
theorem d_M_compared_88 : decode b_M_compared 88 = .ok (.imul, 1) := by decide +kernel
theorem d_M_compared_89 : decode b_M_compared 89 = .ok (.iload_n 1, 1) := by decide +kernel
theorem d_M_compared_90 : decode b_M_compared 90 = .ok (.iadd, 1) := by decide +kernel
theorem d_M_compared_91 : decode b_M_compared 91 = .ok (.iconst 0, 1) := by decide +kernel
theorem d_M_compared_92 : decode b_M_compared 92 = .ok (.bastore, 1) := by decide +kernel
theorem d_M_compared_93 : decode b_M_compared 93 = .ok (.aload_n 0, 1) := by decide +kernel
theorem d_M_compared_94 : decode b_M_compared 94 = .ok (.getfield 7, 3) := by decide +kernel
theorem d_M_compared_97 : decode b_M_compared 97 = .ok (.iload_n 1, 1) := by decide +kernel
theorem d_M_compared_98 : decode b_M_compared 98 = .ok (.iconst 4, 1) := by decide +kernel
theorem d_M_compared_99 : decode b_M_compared 99 = .ok (.iastore, 1) := by decide +kernel
theorem d_M_compared_100 : decode b_M_compared 100 = .ok (.aload_n 0, 1) := by decide +kernel
theorem d_M_compared_101 : decode b_M_compared 101 = .ok (.getfield 19, 3) := by decide +kernel
theorem d_M_compared_104 : decode b_M_compared 104 = .ok (.iload_n 1, 1) := by decide +kernel
theorem d_M_compared_105 : decode b_M_compared 105 = .ok (.aload_n 0, 1) := by decide +kernel
theorem d_M_compared_106 : decode b_M_compared 106 = .ok (.getfield 19, 3) := by decide +kernel
theorem d_M_compared_109 : decode b_M_compared 109 = .ok (.iload_n 1, 1) := by decide +kernel
theorem d_M_compared_110 : decode b_M_compared 110 = .ok (.iaload, 1) := by decide +kernel
theorem d_M_compared_111 : decode b_M_compared 111 = .ok (.iconst 1, 1) := by decide +kernel
theorem d_M_compared_112 : decode b_M_compared 112 = .ok (.iadd, 1) := by decide +kernel
theorem d_M_compared_113 : decode b_M_compared 113 = .ok (.iastore, 1) := by decide +kernel
theorem d_M_compared_114 : decode b_M_compared 114 = .ok (.aload_n 0, 1) := by decide +kernel
theorem d_M_compared_115 : decode b_M_compared 115 = .ok (.getfield 35, 3) := by decide +kernel
theorem d_M_compared_118 : decode b_M_compared 118 = .ok (.iload_n 1, 1) := by decide +kernel
theorem d_M_compared_119 : decode b_M_compared 119 = .ok (.iconst 0, 1) := by decide +kernel
theorem d_M_compared_120 : decode b_M_compared 120 = .ok (.iastore, 1) := by decide +kernel
theorem d_M_compared_121 : decode b_M_compared 121 = .ok (.aload_n 0, 1) := by decide +kernel
theorem d_M_compared_122 : decode b_M_compared 122 = .ok (.iload_n 1, 1) := by decide +kernel
theorem d_M_compared_123 : decode b_M_compared 123 = .ok (.invokevirtual 115, 3) := by decide +kernel
theorem d_M_compared_126 : decode b_M_compared 126 = .ok (.goto 93, 3) := by decide +kernel
theorem d_M_compared_129 : decode b_M_compared 129 = .ok (.aload_n 0, 1) := by decide +kernel
theorem d_M_compared_130 : decode b_M_compared 130 = .ok (.iload_n 1, 1) := by decide +kernel
theorem d_M_compared_131 : decode b_M_compared 131 = .ok (.invokevirtual 118, 3) := by decide +kernel
theorem d_M_compared_134 : decode b_M_compared 134 = .ok (.goto 85, 3) := by decide +kernel
theorem d_M_compared_137 : decode b_M_compared 137 = .ok (.aload_n 0, 1) := by decide +kernel
theorem d_M_compared_138 : decode b_M_compared 138 = .ok (.iload_n 1, 1) := by decide +kernel
theorem d_M_compared_139 : decode b_M_compared 139 = .ok (.iconst (-1), 1) := by decide +kernel
theorem d_M_compared_140 : decode b_M_compared 140 = .ok (.invokevirtual 111, 3) := by decide +kernel
theorem d_M_compared_143 : decode b_M_compared 143 = .ok (.ifCond .eq 18, 3) := by decide +kernel
theorem d_M_compared_146 : decode b_M_compared 146 = .ok (.aload_n 0, 1) := by decide +kernel
theorem d_M_compared_147 : decode b_M_compared 147 = .ok (.getfield 35, 3) := by decide +kernel
theorem d_M_compared_150 : decode b_M_compared 150 = .ok (.iload_n 1, 1) := by decide +kernel
theorem d_M_compared_151 : decode b_M_compared 151 = .ok (.iconst 0, 1) := by decide +kernel
theorem d_M_compared_152 : decode b_M_compared 152 = .ok (.iastore, 1) := by decide +kernel
theorem d_M_compared_153 : decode b_M_compared 153 = .ok (.aload_n 0, 1) := by decide +kernel
theorem d_M_compared_154 : decode b_M_compared 154 = .ok (.iload_n 1, 1) := by decide +kernel
theorem d_M_compared_155 : decode b_M_compared 155 = .ok (.invokevirtual 115, 3) := by decide +kernel
theorem d_M_compared_158 : decode b_M_compared 158 = .ok (.goto 61, 3) := by decide +kernel
theorem d_M_compared_161 : decode b_M_compared 161 = .ok (.iload_n 2, 1) := by decide +kernel
theorem d_M_compared_162 : decode b_M_compared 162 = .ok (.iconst 1, 1) := by decide +kernel
theorem d_M_compared_163 : decode b_M_compared 163 = .ok (.if_icmp .ne 51, 3) := by decide +kernel
theorem d_M_compared_166 : decode b_M_compared 166 = .ok (.aload_n 0, 1) := by decide +kernel
theorem d_M_compared_167 : decode b_M_compared 167 = .ok (.iload_n 1, 1) := by decide +kernel
theorem d_M_compared_168 : decode b_M_compared 168 = .ok (.iload_n 1, 1) := by decide +kernel
theorem d_M_compared_169 : decode b_M_compared 169 = .ok (.invokevirtual 111, 3) := by decide +kernel
theorem d_M_compared_172 : decode b_M_compared 172 = .ok (.ifCond .eq 42, 3) := by decide +kernel
theorem d_M_compared_175 : decode b_M_compared 175 = .ok (.aload_n 0, 1) := by decide +kernel
theorem d_M_compared_176 : decode b_M_compared 176 = .ok (.getfield 35, 3) := by decide +kernel
theorem d_M_compared_179 : decode b_M_compared 179 = .ok (.iload_n 1, 1) := by decide +kernel
theorem d_M_compared_180 : decode b_M_compared 180 = .ok (.iconst 2, 1) := by decide +kernel
theorem d_M_compared_181 : decode b_M_compared 181 = .ok (.iastore, 1) := by decide +kernel
theorem d_M_compared_182 : decode b_M_compared 182 = .ok (.aload_n 0, 1) := by decide +kernel
theorem d_M_compared_183 : decode b_M_compared 183 = .ok (.getfield 38, 3) := by decide +kernel
theorem d_M_compared_186 : decode b_M_compared 186 = .ok (.iload_n 1, 1) := by decide +kernel
theorem d_M_compared_187 : decode b_M_compared 187 = .ok (.aload_n 0, 1) := by decide +kernel
theorem d_M_compared_188 : decode b_M_compared 188 = .ok (.getfield 13, 3) := by decide +kernel
theorem d_M_compared_191 : decode b_M_compared 191 = .ok (.iload_n 1, 1) := by decide +kernel
theorem d_M_compared_192 : decode b_M_compared 192 = .ok (.iaload, 1) := by decide +kernel
theorem d_M_compared_193 : decode b_M_compared 193 = .ok (.iastore, 1) := by decide +kernel
theorem d_M_compared_194 : decode b_M_compared 194 = .ok (.aload_n 0, 1) := by decide +kernel
theorem d_M_compared_195 : decode b_M_compared 195 = .ok (.getfield 53, 3) := by decide +kernel
theorem d_M_compared_198 : decode b_M_compared 198 = .ok (.bipush 6, 2) := by decide +kernel
theorem d_M_compared_200 : decode b_M_compared 200 = .ok (.iload_n 1, 1) := by decide +kernel
theorem d_M_compared_201 : decode b_M_compared 201 = .ok (.imul, 1) := by decide +kernel
theorem d_M_compared_202 : decode b_M_compared 202 = .ok (.aload_n 0, 1) := by decide +kernel
theorem d_M_compared_203 : decode b_M_compared 203 = .ok (.getfield 13, 3) := by decide +kernel
theorem d_M_compared_206 : decode b_M_compared 206 = .ok (.iload_n 1, 1) := by decide +kernel
theorem d_M_compared_207 : decode b_M_compared 207 = .ok (.iaload, 1) := by decide +kernel
theorem d_M_compared_208 : decode b_M_compared 208 = .ok (.iadd, 1) := by decide +kernel
theorem d_M_compared_209 : decode b_M_compared 209 = .ok (.iconst 1, 1) := by decide +kernel
theorem d_M_compared_210 : decode b_M_compared 210 = .ok (.bastore, 1) := by decide +kernel
theorem d_M_compared_211 : decode b_M_compared 211 = .ok (.goto 8, 3) := by decide +kernel
theorem d_M_compared_214 : decode b_M_compared 214 = .ok (.aload_n 0, 1) := by decide +kernel
theorem d_M_compared_215 : decode b_M_compared 215 = .ok (.iload_n 1, 1) := by decide +kernel
theorem d_M_compared_216 : decode b_M_compared 216 = .ok (.invokevirtual 118, 3) := by decide +kernel
theorem d_M_compared_219 : decode b_M_compared 219 = .ok (.return_, 1) := by decide +kernel
theorem d_M_insides_0 : decode b_M_insides 0 = .ok (.aload_n 0, 1) := by decide +kernel
theorem d_M_insides_1 : decode b_M_insides 1 = .ok (.getfield 105, 3) := by decide +kernel
theorem d_M_insides_4 : decode b_M_insides 4 = .ok (.aload_n 0, 1) := by decide +kernel
theorem d_M_insides_5 : decode b_M_insides 5 = .ok (.getfield 41, 3) := by decide +kernel
theorem d_M_insides_8 : decode b_M_insides 8 = .ok (.iload_n 1, 1) := by decide +kernel
theorem d_M_insides_9 : decode b_M_insides 9 = .ok (.iaload, 1) := by decide +kernel
theorem d_M_insides_10 : decode b_M_insides 10 = .ok (.isub, 1) := by decide +kernel
theorem d_M_insides_11 : decode b_M_insides 11 = .ok (.istore_n 3, 1) := by decide +kernel
theorem d_M_insides_12 : decode b_M_insides 12 = .ok (.iload_n 2, 1) := by decide +kernel
theorem d_M_insides_13 : decode b_M_insides 13 = .ok (.ifCond .ne 23, 3) := by decide +kernel
theorem d_M_insides_16 : decode b_M_insides 16 = .ok (.aload_n 0, 1) := by decide +kernel
theorem d_M_insides_17 : decode b_M_insides 17 = .ok (.getfield 53, 3) := by decide +kernel
theorem d_M_insides_20 : decode b_M_insides 20 = .ok (.bipush 6, 2) := by decide +kernel
theorem d_M_insides_22 : decode b_M_insides 22 = .ok (.iload_n 1, 1) := by decide +kernel
theorem d_M_insides_23 : decode b_M_insides 23 = .ok (.imul, 1) := by decide +kernel
theorem d_M_insides_24 : decode b_M_insides 24 = .ok (.aload_n 0, 1) := by decide +kernel
theorem d_M_insides_25 : decode b_M_insides 25 = .ok (.getfield 13, 3) := by decide +kernel
theorem d_M_insides_28 : decode b_M_insides 28 = .ok (.iload_n 1, 1) := by decide +kernel
theorem d_M_insides_29 : decode b_M_insides 29 = .ok (.iaload, 1) := by decide +kernel
theorem d_M_insides_30 : decode b_M_insides 30 = .ok (.iadd, 1) := by decide +kernel
theorem d_M_insides_31 : decode b_M_insides 31 = .ok (.iconst 0, 1) := by decide +kernel
theorem d_M_insides_32 : decode b_M_insides 32 = .ok (.bastore, 1) := by decide +kernel
theorem d_M_insides_33 : decode b_M_insides 33 = .ok (.goto 59, 3) := by decide +kernel
theorem d_M_insides_36 : decode b_M_insides 36 = .ok (.iload_n 2, 1) := by decide +kernel
theorem d_M_insides_37 : decode b_M_insides 37 = .ok (.iconst 3, 1) := by decide +kernel
theorem d_M_insides_38 : decode b_M_insides 38 = .ok (.if_icmp .lt 41, 3) := by decide +kernel
theorem d_M_insides_41 : decode b_M_insides 41 = .ok (.aload_n 0, 1) := by decide +kernel
theorem d_M_insides_42 : decode b_M_insides 42 = .ok (.getfield 96, 3) := by decide +kernel
theorem d_M_insides_45 : decode b_M_insides 45 = .ok (.aload_n 0, 1) := by decide +kernel
theorem d_M_insides_46 : decode b_M_insides 46 = .ok (.getfield 13, 3) := by decide +kernel
theorem d_M_insides_49 : decode b_M_insides 49 = .ok (.iload_n 1, 1) := by decide +kernel
theorem d_M_insides_50 : decode b_M_insides 50 = .ok (.iaload, 1) := by decide +kernel
theorem d_M_insides_51 : decode b_M_insides 51 = .ok (.if_icmp .ne 28, 3) := by decide +kernel
theorem d_M_insides_54 : decode b_M_insides 54 = .ok (.aload_n 0, 1) := by decide +kernel
theorem d_M_insides_55 : decode b_M_insides 55 = .ok (.getfield 102, 3) := by decide +kernel
theorem d_M_insides_58 : decode b_M_insides 58 = .ok (.aload_n 0, 1) := by decide +kernel
theorem d_M_insides_59 : decode b_M_insides 59 = .ok (.getfield 16, 3) := by decide +kernel
theorem d_M_insides_62 : decode b_M_insides 62 = .ok (.iload_n 1, 1) := by decide +kernel
theorem d_M_insides_63 : decode b_M_insides 63 = .ok (.iaload, 1) := by decide +kernel
theorem d_M_insides_64 : decode b_M_insides 64 = .ok (.if_icmp .ne 15, 3) := by decide +kernel
theorem d_M_insides_67 : decode b_M_insides 67 = .ok (.iload_n 3, 1) := by decide +kernel
theorem d_M_insides_68 : decode b_M_insides 68 = .ok (.bipush (-60), 2) := by decide +kernel
theorem d_M_insides_70 : decode b_M_insides 70 = .ok (.if_icmp .lt 9, 3) := by decide +kernel
theorem d_M_insides_73 : decode b_M_insides 73 = .ok (.iload_n 3, 1) := by decide +kernel
theorem d_M_insides_74 : decode b_M_insides 74 = .ok (.bipush 60, 2) := by decide +kernel
theorem d_M_insides_76 : decode b_M_insides 76 = .ok (.if_icmp .le 11, 3) := by decide +kernel
theorem d_M_insides_79 : decode b_M_insides 79 = .ok (.aload_n 0, 1) := by decide +kernel
theorem d_M_insides_80 : decode b_M_insides 80 = .ok (.iload_n 1, 1) := by decide +kernel
theorem d_M_insides_81 : decode b_M_insides 81 = .ok (.invokevirtual 118, 3) := by decide +kernel
theorem d_M_insides_84 : decode b_M_insides 84 = .ok (.goto 8, 3) := by decide +kernel
theorem d_M_insides_87 : decode b_M_insides 87 = .ok (.aload_n 0, 1) := by decide +kernel
theorem d_M_insides_88 : decode b_M_insides 88 = .ok (.iload_n 1, 1) := by decide +kernel
theorem d_M_insides_89 : decode b_M_insides 89 = .ok (.invokevirtual 121, 3) := by decide +kernel
theorem d_M_insides_92 : decode b_M_insides 92 = .ok (.return_, 1) := by decide +kernel
theorem d_M_hear_0 : decode b_M_hear 0 = .ok (.aload_n 0, 1) := by decide +kernel
theorem d_M_hear_1 : decode b_M_hear 1 = .ok (.getfield 69, 3) := by decide +kernel
theorem d_M_hear_4 : decode b_M_hear 4 = .ok (.iload_n 1, 1) := by decide +kernel
theorem d_M_hear_5 : decode b_M_hear 5 = .ok (.baload, 1) := by decide +kernel
theorem d_M_hear_6 : decode b_M_hear 6 = .ok (.ifCond .ne 21, 3) := by decide +kernel
theorem d_M_hear_9 : decode b_M_hear 9 = .ok (.aload_n 0, 1) := by decide +kernel
theorem d_M_hear_10 : decode b_M_hear 10 = .ok (.getfield 7, 3) := by decide +kernel
theorem d_M_hear_13 : decode b_M_hear 13 = .ok (.iload_n 1, 1) := by decide +kernel
theorem d_M_hear_14 : decode b_M_hear 14 = .ok (.iaload, 1) := by decide +kernel
theorem d_M_hear_15 : decode b_M_hear 15 = .ok (.iconst 1, 1) := by decide +kernel
theorem d_M_hear_16 : decode b_M_hear 16 = .ok (.if_icmp .eq 12, 3) := by decide +kernel
theorem d_M_hear_19 : decode b_M_hear 19 = .ok (.aload_n 0, 1) := by decide +kernel
theorem d_M_hear_20 : decode b_M_hear 20 = .ok (.iload_n 1, 1) := by decide +kernel
theorem d_M_hear_21 : decode b_M_hear 21 = .ok (.invokevirtual 86, 3) := by decide +kernel
theorem d_M_hear_24 : decode b_M_hear 24 = .ok (.ifCond .ne 4, 3) := by decide +kernel
theorem d_M_hear_27 : decode b_M_hear 27 = .ok (.return_, 1) := by decide +kernel
theorem d_M_hear_28 : decode b_M_hear 28 = .ok (.aload_n 0, 1) := by decide +kernel
theorem d_M_hear_29 : decode b_M_hear 29 = .ok (.getfield 99, 3) := by decide +kernel
theorem d_M_hear_32 : decode b_M_hear 32 = .ok (.istore_n 2, 1) := by decide +kernel
theorem d_M_hear_33 : decode b_M_hear 33 = .ok (.aload_n 0, 1) := by decide +kernel
theorem d_M_hear_34 : decode b_M_hear 34 = .ok (.getfield 99, 3) := by decide +kernel
theorem d_M_hear_37 : decode b_M_hear 37 = .ok (.ifCond .eq 21, 3) := by decide +kernel
theorem d_M_hear_40 : decode b_M_hear 40 = .ok (.aload_n 0, 1) := by decide +kernel
theorem d_M_hear_41 : decode b_M_hear 41 = .ok (.getfield 50, 3) := by decide +kernel
theorem d_M_hear_44 : decode b_M_hear 44 = .ok (.iload_n 1, 1) := by decide +kernel
theorem d_M_hear_45 : decode b_M_hear 45 = .ok (.baload, 1) := by decide +kernel
theorem d_M_hear_46 : decode b_M_hear 46 = .ok (.ifCond .eq 12, 3) := by decide +kernel
theorem d_M_hear_49 : decode b_M_hear 49 = .ok (.aload_n 0, 1) := by decide +kernel
theorem d_M_hear_50 : decode b_M_hear 50 = .ok (.getfield 50, 3) := by decide +kernel
theorem d_M_hear_53 : decode b_M_hear 53 = .ok (.iload_n 1, 1) := by decide +kernel
theorem d_M_hear_54 : decode b_M_hear 54 = .ok (.iconst 0, 1) := by decide +kernel
theorem d_M_hear_55 : decode b_M_hear 55 = .ok (.bastore, 1) := by decide +kernel
theorem d_M_hear_56 : decode b_M_hear 56 = .ok (.iconst 1, 1) := by decide +kernel
theorem d_M_hear_57 : decode b_M_hear 57 = .ok (.istore_n 2, 1) := by decide +kernel
theorem d_M_hear_58 : decode b_M_hear 58 = .ok (.aload_n 0, 1) := by decide +kernel
theorem d_M_hear_59 : decode b_M_hear 59 = .ok (.getfield 7, 3) := by decide +kernel
theorem d_M_hear_62 : decode b_M_hear 62 = .ok (.iload_n 1, 1) := by decide +kernel
theorem d_M_hear_63 : decode b_M_hear 63 = .ok (.iaload, 1) := by decide +kernel
theorem d_M_hear_64 : decode b_M_hear 64 = .ok (.iconst 1, 1) := by decide +kernel
theorem d_M_hear_65 : decode b_M_hear 65 = .ok (.if_icmp .ne 12, 3) := by decide +kernel
theorem d_M_hear_68 : decode b_M_hear 68 = .ok (.aload_n 0, 1) := by decide +kernel
theorem d_M_hear_69 : decode b_M_hear 69 = .ok (.iload_n 1, 1) := by decide +kernel
theorem d_M_hear_70 : decode b_M_hear 70 = .ok (.iload_n 2, 1) := by decide +kernel
theorem d_M_hear_71 : decode b_M_hear 71 = .ok (.invokevirtual 124, 3) := by decide +kernel
theorem d_M_hear_74 : decode b_M_hear 74 = .ok (.goto 9, 3) := by decide +kernel
theorem d_M_hear_77 : decode b_M_hear 77 = .ok (.aload_n 0, 1) := by decide +kernel
theorem d_M_hear_78 : decode b_M_hear 78 = .ok (.iload_n 1, 1) := by decide +kernel
theorem d_M_hear_79 : decode b_M_hear 79 = .ok (.iload_n 2, 1) := by decide +kernel
theorem d_M_hear_80 : decode b_M_hear 80 = .ok (.invokevirtual 128, 3) := by decide +kernel
theorem d_M_hear_83 : decode b_M_hear 83 = .ok (.return_, 1) := by decide +kernel
theorem d_M_set_0 : decode b_M_set 0 = .ok (.aload_n 0, 1) := by decide +kernel
theorem d_M_set_1 : decode b_M_set 1 = .ok (.iload_n 1, 1) := by decide +kernel
theorem d_M_set_2 : decode b_M_set 2 = .ok (.invokevirtual 86, 3) := by decide +kernel
theorem d_M_set_5 : decode b_M_set 5 = .ok (.ifCond .eq 28, 3) := by decide +kernel
theorem d_M_set_8 : decode b_M_set 8 = .ok (.aload_n 0, 1) := by decide +kernel
theorem d_M_set_9 : decode b_M_set 9 = .ok (.getfield 13, 3) := by decide +kernel
theorem d_M_set_12 : decode b_M_set 12 = .ok (.iload_n 1, 1) := by decide +kernel
theorem d_M_set_13 : decode b_M_set 13 = .ok (.iaload, 1) := by decide +kernel
theorem d_M_set_14 : decode b_M_set 14 = .ok (.aload_n 0, 1) := by decide +kernel
theorem d_M_set_15 : decode b_M_set 15 = .ok (.getfield 72, 3) := by decide +kernel
theorem d_M_set_18 : decode b_M_set 18 = .ok (.iconst 1, 1) := by decide +kernel
theorem d_M_set_19 : decode b_M_set 19 = .ok (.isub, 1) := by decide +kernel
theorem d_M_set_20 : decode b_M_set 20 = .ok (.if_icmp .ne 13, 3) := by decide +kernel
theorem d_M_set_23 : decode b_M_set 23 = .ok (.aload_n 0, 1) := by decide +kernel
theorem d_M_set_24 : decode b_M_set 24 = .ok (.getfield 59, 3) := by decide +kernel
theorem d_M_set_27 : decode b_M_set 27 = .ok (.iload_n 1, 1) := by decide +kernel
theorem d_M_set_28 : decode b_M_set 28 = .ok (.iaload, 1) := by decide +kernel
theorem d_M_set_29 : decode b_M_set 29 = .ok (.iconst 4, 1) := by decide +kernel
theorem d_M_set_30 : decode b_M_set 30 = .ok (.if_icmp .ge 4, 3) := by decide +kernel
theorem d_M_set_33 : decode b_M_set 33 = .ok (.return_, 1) := by decide +kernel
theorem d_M_set_34 : decode b_M_set 34 = .ok (.iconst 0, 1) := by decide +kernel
theorem d_M_set_35 : decode b_M_set 35 = .ok (.istore_n 2, 1) := by decide +kernel
theorem d_M_set_36 : decode b_M_set 36 = .ok (.aload_n 0, 1) := by decide +kernel
theorem d_M_set_37 : decode b_M_set 37 = .ok (.getfield 56, 3) := by decide +kernel
theorem d_M_set_40 : decode b_M_set 40 = .ok (.iconst 4, 1) := by decide +kernel
theorem d_M_set_41 : decode b_M_set 41 = .ok (.iload_n 1, 1) := by decide +kernel
theorem d_M_set_42 : decode b_M_set 42 = .ok (.imul, 1) := by decide +kernel
theorem d_M_set_43 : decode b_M_set 43 = .ok (.iaload, 1) := by decide +kernel
theorem d_M_set_44 : decode b_M_set 44 = .ok (.istore_n 3, 1) := by decide +kernel
theorem d_M_set_45 : decode b_M_set 45 = .ok (.aload_n 0, 1) := by decide +kernel
theorem d_M_set_46 : decode b_M_set 46 = .ok (.getfield 56, 3) := by decide +kernel
theorem d_M_set_49 : decode b_M_set 49 = .ok (.iconst 4, 1) := by decide +kernel
theorem d_M_set_50 : decode b_M_set 50 = .ok (.iload_n 1, 1) := by decide +kernel
theorem d_M_set_51 : decode b_M_set 51 = .ok (.imul, 1) := by decide +kernel
theorem d_M_set_52 : decode b_M_set 52 = .ok (.iaload, 1) := by decide +kernel
theorem d_M_set_53 : decode b_M_set 53 = .ok (.istore 4, 2) := by decide +kernel
theorem d_M_set_55 : decode b_M_set 55 = .ok (.iconst 0, 1) := by decide +kernel
theorem d_M_set_56 : decode b_M_set 56 = .ok (.istore 5, 2) := by decide +kernel
theorem d_M_set_58 : decode b_M_set 58 = .ok (.iload 5, 2) := by decide +kernel
theorem d_M_set_60 : decode b_M_set 60 = .ok (.iconst 4, 1) := by decide +kernel
theorem d_M_set_61 : decode b_M_set 61 = .ok (.if_icmp .ge 56, 3) := by decide +kernel
theorem d_M_set_64 : decode b_M_set 64 = .ok (.aload_n 0, 1) := by decide +kernel
theorem d_M_set_65 : decode b_M_set 65 = .ok (.getfield 56, 3) := by decide +kernel
theorem d_M_set_68 : decode b_M_set 68 = .ok (.iconst 4, 1) := by decide +kernel
theorem d_M_set_69 : decode b_M_set 69 = .ok (.iload_n 1, 1) := by decide +kernel
theorem d_M_set_70 : decode b_M_set 70 = .ok (.imul, 1) := by decide +kernel
theorem d_M_set_71 : decode b_M_set 71 = .ok (.iload 5, 2) := by decide +kernel
theorem d_M_set_73 : decode b_M_set 73 = .ok (.iadd, 1) := by decide +kernel
theorem d_M_set_74 : decode b_M_set 74 = .ok (.iaload, 1) := by decide +kernel
theorem d_M_set_75 : decode b_M_set 75 = .ok (.istore 6, 2) := by decide +kernel
theorem d_M_set_77 : decode b_M_set 77 = .ok (.iload_n 2, 1) := by decide +kernel
theorem d_M_set_78 : decode b_M_set 78 = .ok (.iload 6, 2) := by decide +kernel
theorem d_M_set_80 : decode b_M_set 80 = .ok (.iadd, 1) := by decide +kernel
theorem d_M_set_81 : decode b_M_set 81 = .ok (.istore_n 2, 1) := by decide +kernel
theorem d_M_set_82 : decode b_M_set 82 = .ok (.iload 6, 2) := by decide +kernel
theorem d_M_set_84 : decode b_M_set 84 = .ok (.iload_n 3, 1) := by decide +kernel
theorem d_M_set_85 : decode b_M_set 85 = .ok (.if_icmp .ge 8, 3) := by decide +kernel
theorem d_M_set_88 : decode b_M_set 88 = .ok (.iload 6, 2) := by decide +kernel
theorem d_M_set_90 : decode b_M_set 90 = .ok (.goto 4, 3) := by decide +kernel
theorem d_M_set_93 : decode b_M_set 93 = .ok (.iload_n 3, 1) := by decide +kernel
theorem d_M_set_94 : decode b_M_set 94 = .ok (.istore_n 3, 1) := by decide +kernel
theorem d_M_set_95 : decode b_M_set 95 = .ok (.iload 6, 2) := by decide +kernel
theorem d_M_set_97 : decode b_M_set 97 = .ok (.iload 4, 2) := by decide +kernel
theorem d_M_set_99 : decode b_M_set 99 = .ok (.if_icmp .le 8, 3) := by decide +kernel
theorem d_M_set_102 : decode b_M_set 102 = .ok (.iload 6, 2) := by decide +kernel
theorem d_M_set_104 : decode b_M_set 104 = .ok (.goto 5, 3) := by decide +kernel
theorem d_M_set_107 : decode b_M_set 107 = .ok (.iload 4, 2) := by decide +kernel
theorem d_M_set_109 : decode b_M_set 109 = .ok (.istore 4, 2) := by decide +kernel
theorem d_M_set_111 : decode b_M_set 111 = .ok (.iinc 5 1, 3) := by decide +kernel
theorem d_M_set_114 : decode b_M_set 114 = .ok (.goto (-56), 3) := by decide +kernel
theorem d_M_set_117 : decode b_M_set 117 = .ok (.aload_n 0, 1) := by decide +kernel
theorem d_M_set_118 : decode b_M_set 118 = .ok (.getfield 41, 3) := by decide +kernel
theorem d_M_set_121 : decode b_M_set 121 = .ok (.iload_n 1, 1) := by decide +kernel
theorem d_M_set_122 : decode b_M_set 122 = .ok (.aload_n 0, 1) := by decide +kernel
theorem d_M_set_123 : decode b_M_set 123 = .ok (.getfield 41, 3) := by decide +kernel
theorem d_M_set_126 : decode b_M_set 126 = .ok (.iload_n 1, 1) := by decide +kernel
theorem d_M_set_127 : decode b_M_set 127 = .ok (.iaload, 1) := by decide +kernel
theorem d_M_set_128 : decode b_M_set 128 = .ok (.iload_n 2, 1) := by decide +kernel
theorem d_M_set_129 : decode b_M_set 129 = .ok (.iload_n 3, 1) := by decide +kernel
theorem d_M_set_130 : decode b_M_set 130 = .ok (.isub, 1) := by decide +kernel
theorem d_M_set_131 : decode b_M_set 131 = .ok (.iload 4, 2) := by decide +kernel
theorem d_M_set_133 : decode b_M_set 133 = .ok (.isub, 1) := by decide +kernel
theorem d_M_set_134 : decode b_M_set 134 = .ok (.iconst 2, 1) := by decide +kernel
theorem d_M_set_135 : decode b_M_set 135 = .ok (.idiv, 1) := by decide +kernel
theorem d_M_set_136 : decode b_M_set 136 = .ok (.iadd, 1) := by decide +kernel
theorem d_M_set_137 : decode b_M_set 137 = .ok (.iastore, 1) := by decide +kernel
theorem d_M_set_138 : decode b_M_set 138 = .ok (.return_, 1) := by decide +kernel
theorem d_M_slot_0 : decode b_M_slot 0 = .ok (.iconst 0, 1) := by decide +kernel
theorem d_M_slot_1 : decode b_M_slot 1 = .ok (.istore_n 1, 1) := by decide +kernel
theorem d_M_slot_2 : decode b_M_slot 2 = .ok (.iload_n 1, 1) := by decide +kernel
theorem d_M_slot_3 : decode b_M_slot 3 = .ok (.aload_n 0, 1) := by decide +kernel
theorem d_M_slot_4 : decode b_M_slot 4 = .ok (.getfield 72, 3) := by decide +kernel
theorem d_M_slot_7 : decode b_M_slot 7 = .ok (.if_icmp .ge 14, 3) := by decide +kernel
theorem d_M_slot_10 : decode b_M_slot 10 = .ok (.aload_n 0, 1) := by decide +kernel
theorem d_M_slot_11 : decode b_M_slot 11 = .ok (.iload_n 1, 1) := by decide +kernel
theorem d_M_slot_12 : decode b_M_slot 12 = .ok (.invokevirtual 131, 3) := by decide +kernel
theorem d_M_slot_15 : decode b_M_slot 15 = .ok (.iinc 1 1, 3) := by decide +kernel
theorem d_M_slot_18 : decode b_M_slot 18 = .ok (.goto (-16), 3) := by decide +kernel
theorem d_M_slot_21 : decode b_M_slot 21 = .ok (.iconst 0, 1) := by decide +kernel
theorem d_M_slot_22 : decode b_M_slot 22 = .ok (.istore_n 1, 1) := by decide +kernel
theorem d_M_slot_23 : decode b_M_slot 23 = .ok (.iload_n 1, 1) := by decide +kernel
theorem d_M_slot_24 : decode b_M_slot 24 = .ok (.aload_n 0, 1) := by decide +kernel
theorem d_M_slot_25 : decode b_M_slot 25 = .ok (.getfield 72, 3) := by decide +kernel
theorem d_M_slot_28 : decode b_M_slot 28 = .ok (.if_icmp .ge 14, 3) := by decide +kernel
theorem d_M_slot_31 : decode b_M_slot 31 = .ok (.aload_n 0, 1) := by decide +kernel
theorem d_M_slot_32 : decode b_M_slot 32 = .ok (.iload_n 1, 1) := by decide +kernel
theorem d_M_slot_33 : decode b_M_slot 33 = .ok (.invokevirtual 134, 3) := by decide +kernel
theorem d_M_slot_36 : decode b_M_slot 36 = .ok (.iinc 1 1, 3) := by decide +kernel
theorem d_M_slot_39 : decode b_M_slot 39 = .ok (.goto (-16), 3) := by decide +kernel
theorem d_M_slot_42 : decode b_M_slot 42 = .ok (.aload_n 0, 1) := by decide +kernel
theorem d_M_slot_43 : decode b_M_slot 43 = .ok (.invokevirtual 137, 3) := by decide +kernel
theorem d_M_slot_46 : decode b_M_slot 46 = .ok (.iconst 0, 1) := by decide +kernel
theorem d_M_slot_47 : decode b_M_slot 47 = .ok (.istore_n 1, 1) := by decide +kernel
theorem d_M_slot_48 : decode b_M_slot 48 = .ok (.iload_n 1, 1) := by decide +kernel
theorem d_M_slot_49 : decode b_M_slot 49 = .ok (.aload_n 0, 1) := by decide +kernel
theorem d_M_slot_50 : decode b_M_slot 50 = .ok (.getfield 72, 3) := by decide +kernel
theorem d_M_slot_53 : decode b_M_slot 53 = .ok (.if_icmp .ge 14, 3) := by decide +kernel
theorem d_M_slot_56 : decode b_M_slot 56 = .ok (.aload_n 0, 1) := by decide +kernel
theorem d_M_slot_57 : decode b_M_slot 57 = .ok (.iload_n 1, 1) := by decide +kernel
theorem d_M_slot_58 : decode b_M_slot 58 = .ok (.invokevirtual 140, 3) := by decide +kernel
theorem d_M_slot_61 : decode b_M_slot 61 = .ok (.iinc 1 1, 3) := by decide +kernel
theorem d_M_slot_64 : decode b_M_slot 64 = .ok (.goto (-16), 3) := by decide +kernel
theorem d_M_slot_67 : decode b_M_slot 67 = .ok (.iconst 0, 1) := by decide +kernel
theorem d_M_slot_68 : decode b_M_slot 68 = .ok (.istore_n 1, 1) := by decide +kernel
theorem d_M_slot_69 : decode b_M_slot 69 = .ok (.iload_n 1, 1) := by decide +kernel
theorem d_M_slot_70 : decode b_M_slot 70 = .ok (.aload_n 0, 1) := by decide +kernel
theorem d_M_slot_71 : decode b_M_slot 71 = .ok (.getfield 72, 3) := by decide +kernel
theorem d_M_slot_74 : decode b_M_slot 74 = .ok (.if_icmp .ge 14, 3) := by decide +kernel
theorem d_M_slot_77 : decode b_M_slot 77 = .ok (.aload_n 0, 1) := by decide +kernel
theorem d_M_slot_78 : decode b_M_slot 78 = .ok (.iload_n 1, 1) := by decide +kernel
theorem d_M_slot_79 : decode b_M_slot 79 = .ok (.invokevirtual 143, 3) := by decide +kernel
theorem d_M_slot_82 : decode b_M_slot 82 = .ok (.iinc 1 1, 3) := by decide +kernel
theorem d_M_slot_85 : decode b_M_slot 85 = .ok (.goto (-16), 3) := by decide +kernel
theorem d_M_slot_88 : decode b_M_slot 88 = .ok (.aload_n 0, 1) := by decide +kernel
theorem d_M_slot_89 : decode b_M_slot 89 = .ok (.dup, 1) := by decide +kernel
theorem d_M_slot_90 : decode b_M_slot 90 = .ok (.getfield 146, 3) := by decide +kernel
theorem d_M_slot_93 : decode b_M_slot 93 = .ok (.iconst 1, 1) := by decide +kernel
theorem d_M_slot_94 : decode b_M_slot 94 = .ok (.iadd, 1) := by decide +kernel
theorem d_M_slot_95 : decode b_M_slot 95 = .ok (.putfield 146, 3) := by decide +kernel
theorem d_M_slot_98 : decode b_M_slot 98 = .ok (.return_, 1) := by decide +kernel
theorem d_M_run_0 : decode b_M_run 0 = .ok (.iload_n 1, 1) := by decide +kernel
theorem d_M_run_1 : decode b_M_run 1 = .ok (.ifCond .lt 9, 3) := by decide +kernel
theorem d_M_run_4 : decode b_M_run 4 = .ok (.iload_n 1, 1) := by decide +kernel
theorem d_M_run_5 : decode b_M_run 5 = .ok (.bipush 40, 2) := by decide +kernel
theorem d_M_run_7 : decode b_M_run 7 = .ok (.if_icmp .le 5, 3) := by decide +kernel
theorem d_M_run_10 : decode b_M_run 10 = .ok (.iconst (-1), 1) := by decide +kernel
theorem d_M_run_11 : decode b_M_run 11 = .ok (.ireturn, 1) := by decide +kernel
theorem d_M_run_12 : decode b_M_run 12 = .ok (.iconst 0, 1) := by decide +kernel
theorem d_M_run_13 : decode b_M_run 13 = .ok (.istore_n 2, 1) := by decide +kernel
theorem d_M_run_14 : decode b_M_run 14 = .ok (.iconst 0, 1) := by decide +kernel
theorem d_M_run_15 : decode b_M_run 15 = .ok (.istore_n 3, 1) := by decide +kernel
theorem d_M_run_16 : decode b_M_run 16 = .ok (.iload_n 3, 1) := by decide +kernel
theorem d_M_run_17 : decode b_M_run 17 = .ok (.iload_n 1, 1) := by decide +kernel
theorem d_M_run_18 : decode b_M_run 18 = .ok (.if_icmp .ge 29, 3) := by decide +kernel
theorem d_M_run_21 : decode b_M_run 21 = .ok (.aload_n 0, 1) := by decide +kernel
theorem d_M_run_22 : decode b_M_run 22 = .ok (.invokevirtual 149, 3) := by decide +kernel
theorem d_M_run_25 : decode b_M_run 25 = .ok (.aload_n 0, 1) := by decide +kernel
theorem d_M_run_26 : decode b_M_run 26 = .ok (.getfield 99, 3) := by decide +kernel
theorem d_M_run_29 : decode b_M_run 29 = .ok (.iconst 1, 1) := by decide +kernel
theorem d_M_run_30 : decode b_M_run 30 = .ok (.if_icmp .le 9, 3) := by decide +kernel
theorem d_M_run_33 : decode b_M_run 33 = .ok (.iload_n 2, 1) := by decide +kernel
theorem d_M_run_34 : decode b_M_run 34 = .ok (.iconst 1, 1) := by decide +kernel
theorem d_M_run_35 : decode b_M_run 35 = .ok (.iadd, 1) := by decide +kernel
theorem d_M_run_36 : decode b_M_run 36 = .ok (.goto 4, 3) := by decide +kernel
theorem d_M_run_39 : decode b_M_run 39 = .ok (.iload_n 2, 1) := by decide +kernel
theorem d_M_run_40 : decode b_M_run 40 = .ok (.istore_n 2, 1) := by decide +kernel
theorem d_M_run_41 : decode b_M_run 41 = .ok (.iinc 3 1, 3) := by decide +kernel
theorem d_M_run_44 : decode b_M_run 44 = .ok (.goto (-28), 3) := by decide +kernel
theorem d_M_run_47 : decode b_M_run 47 = .ok (.iload_n 2, 1) := by decide +kernel
theorem d_M_run_48 : decode b_M_run 48 = .ok (.ireturn, 1) := by decide +kernel
theorem d_M_slots_0 : decode b_M_slots 0 = .ok (.aload_n 0, 1) := by decide +kernel
theorem d_M_slots_1 : decode b_M_slots 1 = .ok (.getfield 146, 3) := by decide +kernel
theorem d_M_slots_4 : decode b_M_slots 4 = .ok (.ireturn, 1) := by decide +kernel
theorem d_M_bus_0 : decode b_M_bus 0 = .ok (.aload_n 0, 1) := by decide +kernel
theorem d_M_bus_1 : decode b_M_bus 1 = .ok (.getfield 62, 3) := by decide +kernel
theorem d_M_bus_4 : decode b_M_bus 4 = .ok (.ireturn, 1) := by decide +kernel
theorem d_M_mode_0 : decode b_M_mode 0 = .ok (.aload_n 0, 1) := by decide +kernel
theorem d_M_mode_1 : decode b_M_mode 1 = .ok (.iload_n 1, 1) := by decide +kernel
theorem d_M_mode_2 : decode b_M_mode 2 = .ok (.invokevirtual 75, 3) := by decide +kernel
theorem d_M_mode_5 : decode b_M_mode 5 = .ok (.ifCond .eq 12, 3) := by decide +kernel
theorem d_M_mode_8 : decode b_M_mode 8 = .ok (.aload_n 0, 1) := by decide +kernel
theorem d_M_mode_9 : decode b_M_mode 9 = .ok (.getfield 7, 3) := by decide +kernel
theorem d_M_mode_12 : decode b_M_mode 12 = .ok (.iload_n 1, 1) := by decide +kernel
theorem d_M_mode_13 : decode b_M_mode 13 = .ok (.iaload, 1) := by decide +kernel
theorem d_M_mode_14 : decode b_M_mode 14 = .ok (.goto 4, 3) := by decide +kernel
theorem d_M_mode_17 : decode b_M_mode 17 = .ok (.iconst (-1), 1) := by decide +kernel
theorem d_M_mode_18 : decode b_M_mode 18 = .ok (.ireturn, 1) := by decide +kernel
theorem d_M_members_0 : decode b_M_members 0 = .ok (.aload_n 0, 1) := by decide +kernel
theorem d_M_members_1 : decode b_M_members 1 = .ok (.iload_n 1, 1) := by decide +kernel
theorem d_M_members_2 : decode b_M_members 2 = .ok (.invokevirtual 75, 3) := by decide +kernel
theorem d_M_members_5 : decode b_M_members 5 = .ok (.ifCond .eq 11, 3) := by decide +kernel
theorem d_M_members_8 : decode b_M_members 8 = .ok (.aload_n 0, 1) := by decide +kernel
theorem d_M_members_9 : decode b_M_members 9 = .ok (.iload_n 1, 1) := by decide +kernel
theorem d_M_members_10 : decode b_M_members 10 = .ok (.invokevirtual 86, 3) := by decide +kernel
theorem d_M_members_13 : decode b_M_members 13 = .ok (.ifCond .ne 5, 3) := by decide +kernel
theorem d_M_members_16 : decode b_M_members 16 = .ok (.iconst (-1), 1) := by decide +kernel
theorem d_M_members_17 : decode b_M_members 17 = .ok (.ireturn, 1) := by decide +kernel
theorem d_M_members_18 : decode b_M_members 18 = .ok (.iconst 0, 1) := by decide +kernel
theorem d_M_members_19 : decode b_M_members 19 = .ok (.istore_n 2, 1) := by decide +kernel
theorem d_M_members_20 : decode b_M_members 20 = .ok (.aload_n 0, 1) := by decide +kernel
theorem d_M_members_21 : decode b_M_members 21 = .ok (.getfield 72, 3) := by decide +kernel
theorem d_M_members_24 : decode b_M_members 24 = .ok (.iconst 1, 1) := by decide +kernel
theorem d_M_members_25 : decode b_M_members 25 = .ok (.isub, 1) := by decide +kernel
theorem d_M_members_26 : decode b_M_members 26 = .ok (.istore_n 3, 1) := by decide +kernel
theorem d_M_members_27 : decode b_M_members 27 = .ok (.iload_n 3, 1) := by decide +kernel
theorem d_M_members_28 : decode b_M_members 28 = .ok (.ifCond .lt 33, 3) := by decide +kernel
theorem d_M_members_31 : decode b_M_members 31 = .ok (.iconst 2, 1) := by decide +kernel
theorem d_M_members_32 : decode b_M_members 32 = .ok (.iload_n 2, 1) := by decide +kernel
theorem d_M_members_33 : decode b_M_members 33 = .ok (.imul, 1) := by decide +kernel
theorem d_M_members_34 : decode b_M_members 34 = .ok (.aload_n 0, 1) := by decide +kernel
theorem d_M_members_35 : decode b_M_members 35 = .ok (.getfield 53, 3) := by decide +kernel
theorem d_M_members_38 : decode b_M_members 38 = .ok (.bipush 6, 2) := by decide +kernel
theorem d_M_members_40 : decode b_M_members 40 = .ok (.iload_n 1, 1) := by decide +kernel
theorem d_M_members_41 : decode b_M_members 41 = .ok (.imul, 1) := by decide +kernel
theorem d_M_members_42 : decode b_M_members 42 = .ok (.iload_n 3, 1) := by decide +kernel
theorem d_M_members_43 : decode b_M_members 43 = .ok (.iadd, 1) := by decide +kernel
theorem d_M_members_44 : decode b_M_members 44 = .ok (.baload, 1) := by decide +kernel
theorem d_M_members_45 : decode b_M_members 45 = .ok (.ifCond .eq 7, 3) := by decide +kernel
theorem d_M_members_48 : decode b_M_members 48 = .ok (.iconst 1, 1) := by decide +kernel
theorem d_M_members_49 : decode b_M_members 49 = .ok (.goto 4, 3) := by decide +kernel
theorem d_M_members_52 : decode b_M_members 52 = .ok (.iconst 0, 1) := by decide +kernel
theorem d_M_members_53 : decode b_M_members 53 = .ok (.iadd, 1) := by decide +kernel
theorem d_M_members_54 : decode b_M_members 54 = .ok (.istore_n 2, 1) := by decide +kernel
theorem d_M_members_55 : decode b_M_members 55 = .ok (.iinc 3 (-1), 3) := by decide +kernel
theorem d_M_members_58 : decode b_M_members 58 = .ok (.goto (-31), 3) := by decide +kernel
theorem d_M_members_61 : decode b_M_members 61 = .ok (.iload_n 2, 1) := by decide +kernel
theorem d_M_members_62 : decode b_M_members 62 = .ok (.ireturn, 1) := by decide +kernel
theorem d_M_time_0 : decode b_M_time 0 = .ok (.aload_n 0, 1) := by decide +kernel
theorem d_M_time_1 : decode b_M_time 1 = .ok (.iload_n 1, 1) := by decide +kernel
theorem d_M_time_2 : decode b_M_time 2 = .ok (.invokevirtual 75, 3) := by decide +kernel
theorem d_M_time_5 : decode b_M_time 5 = .ok (.ifCond .eq 30, 3) := by decide +kernel
theorem d_M_time_8 : decode b_M_time 8 = .ok (.aload_n 0, 1) := by decide +kernel
theorem d_M_time_9 : decode b_M_time 9 = .ok (.iload_n 1, 1) := by decide +kernel
theorem d_M_time_10 : decode b_M_time 10 = .ok (.invokevirtual 86, 3) := by decide +kernel
theorem d_M_time_13 : decode b_M_time 13 = .ok (.ifCond .eq 22, 3) := by decide +kernel
theorem d_M_time_16 : decode b_M_time 16 = .ok (.aload_n 0, 1) := by decide +kernel
theorem d_M_time_17 : decode b_M_time 17 = .ok (.getfield 16, 3) := by decide +kernel
theorem d_M_time_20 : decode b_M_time 20 = .ok (.iload_n 1, 1) := by decide +kernel
theorem d_M_time_21 : decode b_M_time 21 = .ok (.iaload, 1) := by decide +kernel
theorem d_M_time_22 : decode b_M_time 22 = .ok (.bipush 8, 2) := by decide +kernel
theorem d_M_time_24 : decode b_M_time 24 = .ok (.imul, 1) := by decide +kernel
theorem d_M_time_25 : decode b_M_time 25 = .ok (.aload_n 0, 1) := by decide +kernel
theorem d_M_time_26 : decode b_M_time 26 = .ok (.getfield 13, 3) := by decide +kernel
theorem d_M_time_29 : decode b_M_time 29 = .ok (.iload_n 1, 1) := by decide +kernel
theorem d_M_time_30 : decode b_M_time 30 = .ok (.iaload, 1) := by decide +kernel
theorem d_M_time_31 : decode b_M_time 31 = .ok (.iadd, 1) := by decide +kernel
theorem d_M_time_32 : decode b_M_time 32 = .ok (.goto 4, 3) := by decide +kernel
theorem d_M_time_35 : decode b_M_time 35 = .ok (.iconst (-1), 1) := by decide +kernel
theorem d_M_time_36 : decode b_M_time 36 = .ok (.ireturn, 1) := by decide +kernel
theorem d_M_counts_0 : decode b_M_counts 0 = .ok (.aload_n 0, 1) := by decide +kernel
theorem d_M_counts_1 : decode b_M_counts 1 = .ok (.iload_n 1, 1) := by decide +kernel
theorem d_M_counts_2 : decode b_M_counts 2 = .ok (.invokevirtual 75, 3) := by decide +kernel
theorem d_M_counts_5 : decode b_M_counts 5 = .ok (.ifCond .eq 40, 3) := by decide +kernel
theorem d_M_counts_8 : decode b_M_counts 8 = .ok (.aload_n 0, 1) := by decide +kernel
theorem d_M_counts_9 : decode b_M_counts 9 = .ok (.iload_n 1, 1) := by decide +kernel
theorem d_M_counts_10 : decode b_M_counts 10 = .ok (.invokevirtual 86, 3) := by decide +kernel
theorem d_M_counts_13 : decode b_M_counts 13 = .ok (.ifCond .eq 32, 3) := by decide +kernel
theorem d_M_counts_16 : decode b_M_counts 16 = .ok (.aload_n 0, 1) := by decide +kernel
theorem d_M_counts_17 : decode b_M_counts 17 = .ok (.getfield 19, 3) := by decide +kernel
theorem d_M_counts_20 : decode b_M_counts 20 = .ok (.iload_n 1, 1) := by decide +kernel
theorem d_M_counts_21 : decode b_M_counts 21 = .ok (.iaload, 1) := by decide +kernel
theorem d_M_counts_22 : decode b_M_counts 22 = .ok (.sipush 1024, 3) := by decide +kernel
theorem d_M_counts_25 : decode b_M_counts 25 = .ok (.imul, 1) := by decide +kernel
theorem d_M_counts_26 : decode b_M_counts 26 = .ok (.aload_n 0, 1) := by decide +kernel
theorem d_M_counts_27 : decode b_M_counts 27 = .ok (.getfield 22, 3) := by decide +kernel
theorem d_M_counts_30 : decode b_M_counts 30 = .ok (.iload_n 1, 1) := by decide +kernel
theorem d_M_counts_31 : decode b_M_counts 31 = .ok (.iaload, 1) := by decide +kernel
theorem d_M_counts_32 : decode b_M_counts 32 = .ok (.iconst 4, 1) := by decide +kernel
theorem d_M_counts_33 : decode b_M_counts 33 = .ok (.imul, 1) := by decide +kernel
theorem d_M_counts_34 : decode b_M_counts 34 = .ok (.iadd, 1) := by decide +kernel
theorem d_M_counts_35 : decode b_M_counts 35 = .ok (.aload_n 0, 1) := by decide +kernel
theorem d_M_counts_36 : decode b_M_counts 36 = .ok (.getfield 35, 3) := by decide +kernel
theorem d_M_counts_39 : decode b_M_counts 39 = .ok (.iload_n 1, 1) := by decide +kernel
theorem d_M_counts_40 : decode b_M_counts 40 = .ok (.iaload, 1) := by decide +kernel
theorem d_M_counts_41 : decode b_M_counts 41 = .ok (.iadd, 1) := by decide +kernel
theorem d_M_counts_42 : decode b_M_counts 42 = .ok (.goto 4, 3) := by decide +kernel
theorem d_M_counts_45 : decode b_M_counts 45 = .ok (.iconst (-1), 1) := by decide +kernel
theorem d_M_counts_46 : decode b_M_counts 46 = .ok (.ireturn, 1) := by decide +kernel
theorem d_M_patience_0 : decode b_M_patience 0 = .ok (.aload_n 0, 1) := by decide +kernel
theorem d_M_patience_1 : decode b_M_patience 1 = .ok (.iload_n 1, 1) := by decide +kernel
theorem d_M_patience_2 : decode b_M_patience 2 = .ok (.invokevirtual 75, 3) := by decide +kernel
theorem d_M_patience_5 : decode b_M_patience 5 = .ok (.ifCond .eq 31, 3) := by decide +kernel
theorem d_M_patience_8 : decode b_M_patience 8 = .ok (.aload_n 0, 1) := by decide +kernel
theorem d_M_patience_9 : decode b_M_patience 9 = .ok (.getfield 7, 3) := by decide +kernel
theorem d_M_patience_12 : decode b_M_patience 12 = .ok (.iload_n 1, 1) := by decide +kernel
theorem d_M_patience_13 : decode b_M_patience 13 = .ok (.iaload, 1) := by decide +kernel
theorem d_M_patience_14 : decode b_M_patience 14 = .ok (.iconst 1, 1) := by decide +kernel
theorem d_M_patience_15 : decode b_M_patience 15 = .ok (.if_icmp .ne 21, 3) := by decide +kernel
theorem d_M_patience_18 : decode b_M_patience 18 = .ok (.aload_n 0, 1) := by decide +kernel
theorem d_M_patience_19 : decode b_M_patience 19 = .ok (.getfield 25, 3) := by decide +kernel
theorem d_M_patience_22 : decode b_M_patience 22 = .ok (.iload_n 1, 1) := by decide +kernel
theorem d_M_patience_23 : decode b_M_patience 23 = .ok (.iaload, 1) := by decide +kernel
theorem d_M_patience_24 : decode b_M_patience 24 = .ok (.iconst 4, 1) := by decide +kernel
theorem d_M_patience_25 : decode b_M_patience 25 = .ok (.imul, 1) := by decide +kernel
theorem d_M_patience_26 : decode b_M_patience 26 = .ok (.aload_n 0, 1) := by decide +kernel
theorem d_M_patience_27 : decode b_M_patience 27 = .ok (.getfield 32, 3) := by decide +kernel
theorem d_M_patience_30 : decode b_M_patience 30 = .ok (.iload_n 1, 1) := by decide +kernel
theorem d_M_patience_31 : decode b_M_patience 31 = .ok (.iaload, 1) := by decide +kernel
theorem d_M_patience_32 : decode b_M_patience 32 = .ok (.iadd, 1) := by decide +kernel
theorem d_M_patience_33 : decode b_M_patience 33 = .ok (.goto 4, 3) := by decide +kernel
theorem d_M_patience_36 : decode b_M_patience 36 = .ok (.iconst (-1), 1) := by decide +kernel
theorem d_M_patience_37 : decode b_M_patience 37 = .ok (.ireturn, 1) := by decide +kernel
theorem d_M_gap_0 : decode b_M_gap 0 = .ok (.aload_n 0, 1) := by decide +kernel
theorem d_M_gap_1 : decode b_M_gap 1 = .ok (.iload_n 1, 1) := by decide +kernel
theorem d_M_gap_2 : decode b_M_gap 2 = .ok (.invokevirtual 83, 3) := by decide +kernel
theorem d_M_gap_5 : decode b_M_gap 5 = .ok (.ifCond .eq 27, 3) := by decide +kernel
theorem d_M_gap_8 : decode b_M_gap 8 = .ok (.aload_n 0, 1) := by decide +kernel
theorem d_M_gap_9 : decode b_M_gap 9 = .ok (.iload_n 2, 1) := by decide +kernel
theorem d_M_gap_10 : decode b_M_gap 10 = .ok (.invokevirtual 83, 3) := by decide +kernel
theorem d_M_gap_13 : decode b_M_gap 13 = .ok (.ifCond .eq 19, 3) := by decide +kernel
theorem d_M_gap_16 : decode b_M_gap 16 = .ok (.aload_n 0, 1) := by decide +kernel
theorem d_M_gap_17 : decode b_M_gap 17 = .ok (.getfield 41, 3) := by decide +kernel
theorem d_M_gap_20 : decode b_M_gap 20 = .ok (.iload_n 1, 1) := by decide +kernel
theorem d_M_gap_21 : decode b_M_gap 21 = .ok (.iaload, 1) := by decide +kernel
theorem d_M_gap_22 : decode b_M_gap 22 = .ok (.aload_n 0, 1) := by decide +kernel
theorem d_M_gap_23 : decode b_M_gap 23 = .ok (.getfield 41, 3) := by decide +kernel
theorem d_M_gap_26 : decode b_M_gap 26 = .ok (.iload_n 2, 1) := by decide +kernel
theorem d_M_gap_27 : decode b_M_gap 27 = .ok (.iaload, 1) := by decide +kernel
theorem d_M_gap_28 : decode b_M_gap 28 = .ok (.isub, 1) := by decide +kernel
theorem d_M_gap_29 : decode b_M_gap 29 = .ok (.goto 4, 3) := by decide +kernel
theorem d_M_gap_32 : decode b_M_gap 32 = .ok (.iconst 0, 1) := by decide +kernel
theorem d_M_gap_33 : decode b_M_gap 33 = .ok (.ireturn, 1) := by decide +kernel
theorem d_M_united_0 : decode b_M_united 0 = .ok (.iconst 0, 1) := by decide +kernel
theorem d_M_united_1 : decode b_M_united 1 = .ok (.istore_n 1, 1) := by decide +kernel
theorem d_M_united_2 : decode b_M_united 2 = .ok (.iconst (-1), 1) := by decide +kernel
theorem d_M_united_3 : decode b_M_united 3 = .ok (.istore_n 2, 1) := by decide +kernel
theorem d_M_united_4 : decode b_M_united 4 = .ok (.iconst 1, 1) := by decide +kernel
theorem d_M_united_5 : decode b_M_united 5 = .ok (.istore_n 3, 1) := by decide +kernel
theorem d_M_united_6 : decode b_M_united 6 = .ok (.iconst 0, 1) := by decide +kernel
theorem d_M_united_7 : decode b_M_united 7 = .ok (.istore 4, 2) := by decide +kernel
theorem d_M_united_9 : decode b_M_united 9 = .ok (.iload 4, 2) := by decide +kernel
theorem d_M_united_11 : decode b_M_united 11 = .ok (.aload_n 0, 1) := by decide +kernel
theorem d_M_united_12 : decode b_M_united 12 = .ok (.getfield 72, 3) := by decide +kernel
theorem d_M_united_15 : decode b_M_united 15 = .ok (.if_icmp .ge 72, 3) := by decide +kernel
theorem d_M_united_18 : decode b_M_united 18 = .ok (.aload_n 0, 1) := by decide +kernel
theorem d_M_united_19 : decode b_M_united 19 = .ok (.getfield 7, 3) := by decide +kernel
theorem d_M_united_22 : decode b_M_united 22 = .ok (.iload 4, 2) := by decide +kernel
theorem d_M_united_24 : decode b_M_united 24 = .ok (.iaload, 1) := by decide +kernel
theorem d_M_united_25 : decode b_M_united 25 = .ok (.iconst 3, 1) := by decide +kernel
theorem d_M_united_26 : decode b_M_united 26 = .ok (.if_icmp .ne 55, 3) := by decide +kernel
theorem d_M_united_29 : decode b_M_united 29 = .ok (.iinc 1 1, 3) := by decide +kernel
theorem d_M_united_32 : decode b_M_united 32 = .ok (.iload_n 2, 1) := by decide +kernel
theorem d_M_united_33 : decode b_M_united 33 = .ok (.ifCond .ge 8, 3) := by decide +kernel
theorem d_M_united_36 : decode b_M_united 36 = .ok (.iload 4, 2) := by decide +kernel
theorem d_M_united_38 : decode b_M_united 38 = .ok (.goto 4, 3) := by decide +kernel
theorem d_M_united_41 : decode b_M_united 41 = .ok (.iload_n 2, 1) := by decide +kernel
theorem d_M_united_42 : decode b_M_united 42 = .ok (.istore_n 2, 1) := by decide +kernel
theorem d_M_united_43 : decode b_M_united 43 = .ok (.iload_n 3, 1) := by decide +kernel
theorem d_M_united_44 : decode b_M_united 44 = .ok (.ifCond .eq 35, 3) := by decide +kernel
theorem d_M_united_47 : decode b_M_united 47 = .ok (.aload_n 0, 1) := by decide +kernel
theorem d_M_united_48 : decode b_M_united 48 = .ok (.iload 4, 2) := by decide +kernel
theorem d_M_united_50 : decode b_M_united 50 = .ok (.invokevirtual 152, 3) := by decide +kernel
theorem d_M_united_53 : decode b_M_united 53 = .ok (.aload_n 0, 1) := by decide +kernel
theorem d_M_united_54 : decode b_M_united 54 = .ok (.iload_n 2, 1) := by decide +kernel
theorem d_M_united_55 : decode b_M_united 55 = .ok (.invokevirtual 152, 3) := by decide +kernel
theorem d_M_united_58 : decode b_M_united 58 = .ok (.if_icmp .ne 21, 3) := by decide +kernel
theorem d_M_united_61 : decode b_M_united 61 = .ok (.aload_n 0, 1) := by decide +kernel
theorem d_M_united_62 : decode b_M_united 62 = .ok (.iload 4, 2) := by decide +kernel
theorem d_M_united_64 : decode b_M_united 64 = .ok (.invokevirtual 155, 3) := by decide +kernel
theorem d_M_united_67 : decode b_M_united 67 = .ok (.aload_n 0, 1) := by decide +kernel
theorem d_M_united_68 : decode b_M_united 68 = .ok (.iload_n 2, 1) := by decide +kernel
theorem d_M_united_69 : decode b_M_united 69 = .ok (.invokevirtual 155, 3) := by decide +kernel
theorem d_M_united_72 : decode b_M_united 72 = .ok (.if_icmp .ne 7, 3) := by decide +kernel
theorem d_M_united_75 : decode b_M_united 75 = .ok (.iconst 1, 1) := by decide +kernel
theorem d_M_united_76 : decode b_M_united 76 = .ok (.goto 4, 3) := by decide +kernel
theorem d_M_united_79 : decode b_M_united 79 = .ok (.iconst 0, 1) := by decide +kernel
theorem d_M_united_80 : decode b_M_united 80 = .ok (.istore_n 3, 1) := by decide +kernel
theorem d_M_united_81 : decode b_M_united 81 = .ok (.iinc 4 1, 3) := by decide +kernel
theorem d_M_united_84 : decode b_M_united 84 = .ok (.goto (-75), 3) := by decide +kernel
theorem d_M_united_87 : decode b_M_united 87 = .ok (.iload_n 1, 1) := by decide +kernel
theorem d_M_united_88 : decode b_M_united 88 = .ok (.iconst 2, 1) := by decide +kernel
theorem d_M_united_89 : decode b_M_united 89 = .ok (.if_icmp .lt 11, 3) := by decide +kernel
theorem d_M_united_92 : decode b_M_united 92 = .ok (.iload_n 3, 1) := by decide +kernel
theorem d_M_united_93 : decode b_M_united 93 = .ok (.ifCond .eq 7, 3) := by decide +kernel
theorem d_M_united_96 : decode b_M_united 96 = .ok (.iconst 1, 1) := by decide +kernel
theorem d_M_united_97 : decode b_M_united 97 = .ok (.goto 4, 3) := by decide +kernel
theorem d_M_united_100 : decode b_M_united 100 = .ok (.iconst 0, 1) := by decide +kernel
theorem d_M_united_101 : decode b_M_united 101 = .ok (.ireturn, 1) := by decide +kernel
