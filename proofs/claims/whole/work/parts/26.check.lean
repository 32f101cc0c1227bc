/-! THE CHECKS -/
set_option maxRecDepth 100000 in
theorem ck_0 : okPy pI pKf pStrs pThr pNcs f_0 bl_0 g_0 = true := by decide +kernel
set_option maxRecDepth 100000 in
theorem ck_1 : okPy pI pKf pStrs pThr pNcs f_1 bl_1 g_1 = true := by decide +kernel
set_option maxRecDepth 100000 in
theorem ck_2 : okPy pI pKf pStrs pThr pNcs f_2 bl_2 g_2 = true := by decide +kernel
set_option maxRecDepth 100000 in
theorem ck_3 : okPy pI pKf pStrs pThr pNcs f_3 bl_3 g_3 = true := by decide +kernel
set_option maxRecDepth 100000 in
theorem ck_4 : okPy pI pKf pStrs pThr pNcs f_4 bl_4 g_4 = true := by decide +kernel
set_option maxRecDepth 100000 in
theorem ck_5 : okPy pI pKf pStrs pThr pNcs f_5 bl_5 g_5 = true := by decide +kernel
set_option maxRecDepth 100000 in
theorem ck_6 : okPy pI pKf pStrs pThr pNcs f_6 bl_6 g_6 = true := by decide +kernel
set_option maxRecDepth 100000 in
theorem ck_7 : okPy pI pKf pStrs pThr pNcs f_7 bl_7 g_7 = true := by decide +kernel
set_option maxRecDepth 100000 in
theorem ck_8 : okPy pI pKf pStrs pThr pNcs f_8 bl_8 g_8 = true := by decide +kernel
set_option maxRecDepth 100000 in
theorem ck_9 : okPy pI pKf pStrs pThr pNcs f_9 bl_9 g_9 = true := by decide +kernel
set_option maxRecDepth 100000 in
theorem ck_10 : okPy pI pKf pStrs pThr pNcs f_10 bl_10 g_10 = true := by decide +kernel
set_option maxRecDepth 100000 in
theorem ck_11 : okPy pI pKf pStrs pThr pNcs f_11 bl_11 g_11 = true := by decide +kernel
set_option maxRecDepth 100000 in
theorem ck_12 : okPy pI pKf pStrs pThr pNcs f_12 bl_12 g_12 = true := by decide +kernel
set_option maxRecDepth 100000 in
theorem ck_13 : okPy pI pKf pStrs pThr pNcs f_13 bl_13 g_13 = true := by decide +kernel
set_option maxRecDepth 100000 in
theorem ck_14 : okPy pI pKf pStrs pThr pNcs f_14 bl_14 g_14 = true := by decide +kernel
set_option maxRecDepth 100000 in
theorem ck_15 : okPy pI pKf pStrs pThr pNcs f_15 bl_15 g_15 = true := by decide +kernel
set_option maxRecDepth 100000 in
theorem ck_16 : okPy pI pKf pStrs pThr pNcs f_16 bl_16 g_16 = true := by decide +kernel
set_option maxRecDepth 100000 in
theorem ck_17 : okPy pI pKf pStrs pThr pNcs f_17 bl_17 g_17 = true := by decide +kernel
set_option maxRecDepth 100000 in
theorem ck_18 : okPy pI pKf pStrs pThr pNcs f_18 bl_18 g_18 = true := by decide +kernel
set_option maxRecDepth 100000 in
theorem ck_19 : okPy pI pKf pStrs pThr pNcs f_19 bl_19 g_19 = true := by decide +kernel
set_option maxRecDepth 100000 in
theorem ck_20 : okPy pI pKf pStrs pThr pNcs f_20 bl_20 g_20 = true := by decide +kernel
set_option maxRecDepth 100000 in
theorem ck_21 : okPy pI pKf pStrs pThr pNcs f_21 bl_21 g_21 = true := by decide +kernel
set_option maxRecDepth 100000 in
theorem ck_22 : okPy pI pKf pStrs pThr pNcs f_22 bl_22 g_22 = true := by decide +kernel
set_option maxRecDepth 100000 in
theorem ck_23 : okPy pI pKf pStrs pThr pNcs f_23 bl_23 g_23 = true := by decide +kernel
set_option maxRecDepth 100000 in
theorem ck_24 : okPy pI pKf pStrs pThr pNcs f_24 bl_24 g_24 = true := by decide +kernel
set_option maxRecDepth 100000 in
theorem ck_25 : okPy pI pKf pStrs pThr pNcs f_25 bl_25 g_25 = true := by decide +kernel
set_option maxRecDepth 100000 in
theorem ck_26 : okPy pI pKf pStrs pThr pNcs f_26 bl_26 g_26 = true := by decide +kernel
set_option maxRecDepth 100000 in
theorem ck_27 : okPy pI pKf pStrs pThr pNcs f_27 bl_27 g_27 = true := by decide +kernel
set_option maxRecDepth 100000 in
theorem ck_28 : okPy pI pKf pStrs pThr pNcs f_28 bl_28 g_28 = true := by decide +kernel
set_option maxRecDepth 100000 in
theorem ck_29 : okPy pI pKf pStrs pThr pNcs f_29 bl_29 g_29 = true := by decide +kernel
set_option maxRecDepth 100000 in
theorem ck_30 : okPy pI pKf pStrs pThr pNcs f_30 bl_30 g_30 = true := by decide +kernel
set_option maxRecDepth 100000 in
theorem ck_31 : okPy pI pKf pStrs pThr pNcs f_31 bl_31 g_31 = true := by decide +kernel
set_option maxRecDepth 100000 in
theorem ck_32 : okPy pI pKf pStrs pThr pNcs f_32 bl_32 g_32 = true := by decide +kernel
set_option maxRecDepth 100000 in
theorem ck_33 : okPy pI pKf pStrs pThr pNcs f_33 bl_33 g_33 = true := by decide +kernel
set_option maxRecDepth 100000 in
theorem ck_34 : okPy pI pKf pStrs pThr pNcs f_34 bl_34 g_34 = true := by decide +kernel
set_option maxRecDepth 100000 in
theorem ck_35 : okPy pI pKf pStrs pThr pNcs f_35 bl_35 g_35 = true := by decide +kernel
set_option maxRecDepth 100000 in
theorem ck_36 : okPy pI pKf pStrs pThr pNcs f_36 bl_36 g_36 = true := by decide +kernel
set_option maxRecDepth 100000 in
theorem ck_37 : okPy pI pKf pStrs pThr pNcs f_37 bl_37 g_37 = true := by decide +kernel
set_option maxRecDepth 100000 in
theorem ck_38 : okPy pI pKf pStrs pThr pNcs f_38 bl_38 g_38 = true := by decide +kernel
set_option maxRecDepth 100000 in
theorem ck_39 : okPy pI pKf pStrs pThr pNcs f_39 bl_39 g_39 = true := by decide +kernel
set_option maxRecDepth 100000 in
theorem ck_40 : okPy pI pKf pStrs pThr pNcs f_40 bl_40 g_40 = true := by decide +kernel
set_option maxRecDepth 100000 in
theorem ck_41 : okPy pI pKf pStrs pThr pNcs f_41 bl_41 g_41 = true := by decide +kernel
set_option maxRecDepth 100000 in
theorem ck_42 : okPy pI pKf pStrs pThr pNcs f_42 bl_42 g_42 = true := by decide +kernel
set_option maxRecDepth 100000 in
theorem ck_43 : okPy pI pKf pStrs pThr pNcs f_43 bl_43 g_43 = true := by decide +kernel
set_option maxRecDepth 100000 in
theorem ck_44 : okPy pI pKf pStrs pThr pNcs f_44 bl_44 g_44 = true := by decide +kernel
set_option maxRecDepth 100000 in
theorem ck_45 : okPy pI pKf pStrs pThr pNcs f_45 bl_45 g_45 = true := by decide +kernel
set_option maxRecDepth 100000 in
theorem ck_46 : okPy pI pKf pStrs pThr pNcs f_46 bl_46 g_46 = true := by decide +kernel
set_option maxRecDepth 100000 in
theorem ck_47 : okPy pI pKf pStrs pThr pNcs f_47 bl_47 g_47 = true := by decide +kernel
set_option maxRecDepth 100000 in
theorem ck_48 : okPy pI pKf pStrs pThr pNcs f_48 bl_48 g_48 = true := by decide +kernel
set_option maxRecDepth 100000 in
theorem ck_49 : okPy pI pKf pStrs pThr pNcs f_49 bl_49 g_49 = true := by decide +kernel
set_option maxRecDepth 100000 in
theorem ck_50 : okPy pI pKf pStrs pThr pNcs f_50 bl_50 g_50 = true := by decide +kernel
set_option maxRecDepth 100000 in
theorem ck_51 : okPy pI pKf pStrs pThr pNcs f_51 bl_51 g_51 = true := by decide +kernel
set_option maxRecDepth 100000 in
theorem ck_52 : okPy pI pKf pStrs pThr pNcs f_52 bl_52 g_52 = true := by decide +kernel
set_option maxRecDepth 100000 in
theorem ck_53 : okPy pI pKf pStrs pThr pNcs f_53 bl_53 g_53 = true := by decide +kernel
set_option maxRecDepth 100000 in
theorem ck_54 : okPy pI pKf pStrs pThr pNcs f_54 bl_54 g_54 = true := by decide +kernel
set_option maxRecDepth 100000 in
theorem ck_55 : okPy pI pKf pStrs pThr pNcs f_55 bl_55 g_55 = true := by decide +kernel
set_option maxRecDepth 100000 in
theorem ck_56 : okPy pI pKf pStrs pThr pNcs f_56 bl_56 g_56 = true := by decide +kernel
set_option maxRecDepth 100000 in
theorem ck_57 : okPy pI pKf pStrs pThr pNcs f_57 bl_57 g_57 = true := by decide +kernel
set_option maxRecDepth 100000 in
theorem ck_58 : okPy pI pKf pStrs pThr pNcs f_58 bl_58 g_58 = true := by decide +kernel
set_option maxRecDepth 100000 in
theorem ck_59 : okPy pI pKf pStrs pThr pNcs f_59 bl_59 g_59 = true := by decide +kernel
set_option maxRecDepth 100000 in
theorem ck_60 : okPy pI pKf pStrs pThr pNcs f_60 bl_60 g_60 = true := by decide +kernel
set_option maxRecDepth 100000 in
theorem ck_61 : okPy pI pKf pStrs pThr pNcs f_61 bl_61 g_61 = true := by decide +kernel
set_option maxRecDepth 100000 in
theorem ck_62 : okPy pI pKf pStrs pThr pNcs f_62 bl_62 g_62 = true := by decide +kernel
set_option maxRecDepth 100000 in
theorem ck_63 : okPy pI pKf pStrs pThr pNcs f_63 bl_63 g_63 = true := by decide +kernel
set_option maxRecDepth 100000 in
theorem ck_64 : okPy pI pKf pStrs pThr pNcs f_64 bl_64 g_64 = true := by decide +kernel
set_option maxRecDepth 100000 in
theorem ck_65 : okPy pI pKf pStrs pThr pNcs f_65 bl_65 g_65 = true := by decide +kernel
set_option maxRecDepth 100000 in
theorem ck_66 : okPy pI pKf pStrs pThr pNcs f_66 bl_66 g_66 = true := by decide +kernel
set_option maxRecDepth 100000 in
theorem ck_67 : okPy pI pKf pStrs pThr pNcs f_67 bl_67 g_67 = true := by decide +kernel
set_option maxRecDepth 100000 in
theorem ck_68 : okPy pI pKf pStrs pThr pNcs f_68 bl_68 g_68 = true := by decide +kernel
set_option maxRecDepth 100000 in
theorem ck_69 : okPy pI pKf pStrs pThr pNcs f_69 bl_69 g_69 = true := by decide +kernel
set_option maxRecDepth 100000 in
theorem ck_70 : okPy pI pKf pStrs pThr pNcs f_70 bl_70 g_70 = true := by decide +kernel
set_option maxRecDepth 100000 in
theorem ck_71 : okPy pI pKf pStrs pThr pNcs f_71 bl_71 g_71 = true := by decide +kernel
set_option maxRecDepth 100000 in
theorem ck_72 : okPy pI pKf pStrs pThr pNcs f_72 bl_72 g_72 = true := by decide +kernel
set_option maxRecDepth 100000 in
theorem ck_73 : okPy pI pKf pStrs pThr pNcs f_73 bl_73 g_73 = true := by decide +kernel
set_option maxRecDepth 100000 in
theorem ck_74 : okPy pI pKf pStrs pThr pNcs f_74 bl_74 g_74 = true := by decide +kernel
set_option maxRecDepth 100000 in
theorem ck_75 : okPy pI pKf pStrs pThr pNcs f_75 bl_75 g_75 = true := by decide +kernel
set_option maxRecDepth 100000 in
theorem ck_76 : okPy pI pKf pStrs pThr pNcs f_76 bl_76 g_76 = true := by decide +kernel
set_option maxRecDepth 100000 in
theorem ck_77 : okPy pI pKf pStrs pThr pNcs f_77 bl_77 g_77 = true := by decide +kernel
set_option maxRecDepth 100000 in
theorem ck_78 : okPy pI pKf pStrs pThr pNcs f_78 bl_78 g_78 = true := by decide +kernel
set_option maxRecDepth 100000 in
theorem ck_79 : okPy pI pKf pStrs pThr pNcs f_79 bl_79 g_79 = true := by decide +kernel
set_option maxRecDepth 100000 in
theorem ck_80 : okPy pI pKf pStrs pThr pNcs f_80 bl_80 g_80 = true := by decide +kernel
set_option maxRecDepth 100000 in
theorem ck_81 : okPy pI pKf pStrs pThr pNcs f_81 bl_81 g_81 = true := by decide +kernel
set_option maxRecDepth 100000 in
theorem ck_82 : okPy pI pKf pStrs pThr pNcs f_82 bl_82 g_82 = true := by decide +kernel
set_option maxRecDepth 100000 in
theorem ck_83 : okPy pI pKf pStrs pThr pNcs f_83 bl_83 g_83 = true := by decide +kernel
set_option maxRecDepth 100000 in
theorem ck_84 : okPy pI pKf pStrs pThr pNcs f_84 bl_84 g_84 = true := by decide +kernel
set_option maxRecDepth 100000 in
theorem ck_85 : okPy pI pKf pStrs pThr pNcs f_85 bl_85 g_85 = true := by decide +kernel
set_option maxRecDepth 100000 in
theorem ck_86 : okPy pI pKf pStrs pThr pNcs f_86 bl_86 g_86 = true := by decide +kernel
set_option maxRecDepth 100000 in
theorem ck_87 : okPy pI pKf pStrs pThr pNcs f_87 bl_87 g_87 = true := by decide +kernel
set_option maxRecDepth 100000 in
theorem ck_88 : okPy pI pKf pStrs pThr pNcs f_88 bl_88 g_88 = true := by decide +kernel
set_option maxRecDepth 100000 in
theorem ck_89 : okPy pI pKf pStrs pThr pNcs f_89 bl_89 g_89 = true := by decide +kernel
set_option maxRecDepth 100000 in
theorem ck_90 : okPy pI pKf pStrs pThr pNcs f_90 bl_90 g_90 = true := by decide +kernel
set_option maxRecDepth 100000 in
theorem ck_91 : okPy pI pKf pStrs pThr pNcs f_91 bl_91 g_91 = true := by decide +kernel
set_option maxRecDepth 100000 in
theorem ck_92 : okPy pI pKf pStrs pThr pNcs f_92 bl_92 g_92 = true := by decide +kernel
set_option maxRecDepth 100000 in
theorem ck_93 : okPy pI pKf pStrs pThr pNcs f_93 bl_93 g_93 = true := by decide +kernel
set_option maxRecDepth 100000 in
theorem ck_94 : okPy pI pKf pStrs pThr pNcs f_94 bl_94 g_94 = true := by decide +kernel
set_option maxRecDepth 100000 in
theorem ck_95 : okPy pI pKf pStrs pThr pNcs f_95 bl_95 g_95 = true := by decide +kernel
set_option maxRecDepth 100000 in
theorem ck_96 : okPy pI pKf pStrs pThr pNcs f_96 bl_96 g_96 = true := by decide +kernel
set_option maxRecDepth 100000 in
theorem ck_97 : okPy pI pKf pStrs pThr pNcs f_97 bl_97 g_97 = true := by decide +kernel
set_option maxRecDepth 100000 in
theorem ck_98 : okPy pI pKf pStrs pThr pNcs f_98 bl_98 g_98 = true := by decide +kernel
set_option maxRecDepth 100000 in
theorem ck_99 : okPy pI pKf pStrs pThr pNcs f_99 bl_99 g_99 = true := by decide +kernel
set_option maxRecDepth 100000 in
theorem ck_100 : okPy pI pKf pStrs pThr pNcs f_100 bl_100 g_100 = true := by decide +kernel
set_option maxRecDepth 100000 in
theorem ck_101 : okPy pI pKf pStrs pThr pNcs f_101 bl_101 g_101 = true := by decide +kernel
set_option maxRecDepth 100000 in
theorem ck_102 : okPy pI pKf pStrs pThr pNcs f_102 bl_102 g_102 = true := by decide +kernel
set_option maxRecDepth 100000 in
theorem ck_103 : okPy pI pKf pStrs pThr pNcs f_103 bl_103 g_103 = true := by decide +kernel
set_option maxRecDepth 100000 in
theorem ck_104 : okPy pI pKf pStrs pThr pNcs f_104 bl_104 g_104 = true := by decide +kernel
set_option maxRecDepth 100000 in
theorem ck_105 : okPy pI pKf pStrs pThr pNcs f_105 bl_105 g_105 = true := by decide +kernel
set_option maxRecDepth 100000 in
theorem ck_106 : okPy pI pKf pStrs pThr pNcs f_106 bl_106 g_106 = true := by decide +kernel
set_option maxRecDepth 100000 in
theorem ck_107 : okPy pI pKf pStrs pThr pNcs f_107 bl_107 g_107 = true := by decide +kernel
set_option maxRecDepth 100000 in
theorem ck_108 : okPy pI pKf pStrs pThr pNcs f_108 bl_108 g_108 = true := by decide +kernel
set_option maxRecDepth 100000 in
theorem ck_109 : okPy pI pKf pStrs pThr pNcs f_109 bl_109 g_109 = true := by decide +kernel
set_option maxRecDepth 100000 in
theorem ck_110 : okPy pI pKf pStrs pThr pNcs f_110 bl_110 g_110 = true := by decide +kernel
set_option maxRecDepth 100000 in
theorem ck_111 : okPy pI pKf pStrs pThr pNcs f_111 bl_111 g_111 = true := by decide +kernel
set_option maxRecDepth 100000 in
theorem ck_112 : okPy pI pKf pStrs pThr pNcs f_112 bl_112 g_112 = true := by decide +kernel
set_option maxRecDepth 100000 in
theorem ck_113 : okPy pI pKf pStrs pThr pNcs f_113 bl_113 g_113 = true := by decide +kernel
set_option maxRecDepth 100000 in
theorem ck_114 : okPy pI pKf pStrs pThr pNcs f_114 bl_114 g_114 = true := by decide +kernel
set_option maxRecDepth 100000 in
theorem ck_115 : okPy pI pKf pStrs pThr pNcs f_115 bl_115 g_115 = true := by decide +kernel
set_option maxRecDepth 100000 in
theorem ck_116 : okPy pI pKf pStrs pThr pNcs f_116 bl_116 g_116 = true := by decide +kernel
set_option maxRecDepth 100000 in
theorem ck_117 : okPy pI pKf pStrs pThr pNcs f_117 bl_117 g_117 = true := by decide +kernel
set_option maxRecDepth 100000 in
theorem ck_118 : okPy pI pKf pStrs pThr pNcs f_118 bl_118 g_118 = true := by decide +kernel
set_option maxRecDepth 100000 in
theorem ck_119 : okPy pI pKf pStrs pThr pNcs f_119 bl_119 g_119 = true := by decide +kernel
set_option maxRecDepth 100000 in
theorem ck_120 : okPy pI pKf pStrs pThr pNcs f_120 bl_120 g_120 = true := by decide +kernel
set_option maxRecDepth 100000 in
theorem ck_121 : okPy pI pKf pStrs pThr pNcs f_121 bl_121 g_121 = true := by decide +kernel
set_option maxRecDepth 100000 in
theorem ck_122 : okPy pI pKf pStrs pThr pNcs f_122 bl_122 g_122 = true := by decide +kernel
set_option maxRecDepth 100000 in
theorem ck_123 : okPy pI pKf pStrs pThr pNcs f_123 bl_123 g_123 = true := by decide +kernel
set_option maxRecDepth 100000 in
theorem ck_124 : okPy pI pKf pStrs pThr pNcs f_124 bl_124 g_124 = true := by decide +kernel
set_option maxRecDepth 100000 in
theorem ck_125 : okPy pI pKf pStrs pThr pNcs f_125 bl_125 g_125 = true := by decide +kernel
set_option maxRecDepth 100000 in
theorem ck_126 : okPy pI pKf pStrs pThr pNcs f_126 bl_126 g_126 = true := by decide +kernel
set_option maxRecDepth 100000 in
theorem ck_127 : okPy pI pKf pStrs pThr pNcs f_127 bl_127 g_127 = true := by decide +kernel
set_option maxRecDepth 100000 in
theorem ck_128 : okPy pI pKf pStrs pThr pNcs f_128 bl_128 g_128 = true := by decide +kernel
set_option maxRecDepth 100000 in
theorem ck_129 : okPy pI pKf pStrs pThr pNcs f_129 bl_129 g_129 = true := by decide +kernel
set_option maxRecDepth 100000 in
theorem ck_130 : okPy pI pKf pStrs pThr pNcs f_130 bl_130 g_130 = true := by decide +kernel
set_option maxRecDepth 100000 in
theorem ck_131 : okPy pI pKf pStrs pThr pNcs f_131 bl_131 g_131 = true := by decide +kernel
set_option maxRecDepth 100000 in
theorem ck_132 : okPy pI pKf pStrs pThr pNcs f_132 bl_132 g_132 = true := by decide +kernel
set_option maxRecDepth 100000 in
theorem ck_133 : okPy pI pKf pStrs pThr pNcs f_133 bl_133 g_133 = true := by decide +kernel
set_option maxRecDepth 100000 in
theorem ck_134 : okPy pI pKf pStrs pThr pNcs f_134 bl_134 g_134 = true := by decide +kernel
set_option maxRecDepth 100000 in
theorem ck_135 : okPy pI pKf pStrs pThr pNcs f_135 bl_135 g_135 = true := by decide +kernel
set_option maxRecDepth 100000 in
theorem ck_136 : okPy pI pKf pStrs pThr pNcs f_136 bl_136 g_136 = true := by decide +kernel
set_option maxRecDepth 100000 in
theorem ck_137 : okPy pI pKf pStrs pThr pNcs f_137 bl_137 g_137 = true := by decide +kernel
set_option maxRecDepth 100000 in
theorem ck_138 : okPy pI pKf pStrs pThr pNcs f_138 bl_138 g_138 = true := by decide +kernel
set_option maxRecDepth 100000 in
theorem ck_139 : okPy pI pKf pStrs pThr pNcs f_139 bl_139 g_139 = true := by decide +kernel
set_option maxRecDepth 100000 in
theorem ck_140 : okPy pI pKf pStrs pThr pNcs f_140 bl_140 g_140 = true := by decide +kernel
set_option maxRecDepth 100000 in
theorem ck_141 : okPy pI pKf pStrs pThr pNcs f_141 bl_141 g_141 = true := by decide +kernel
set_option maxRecDepth 100000 in
theorem ck_142 : okPy pI pKf pStrs pThr pNcs f_142 bl_142 g_142 = true := by decide +kernel
set_option maxRecDepth 100000 in
theorem ck_143 : okPy pI pKf pStrs pThr pNcs f_143 bl_143 g_143 = true := by decide +kernel
set_option maxRecDepth 100000 in
theorem ck_144 : okPy pI pKf pStrs pThr pNcs f_144 bl_144 g_144 = true := by decide +kernel
set_option maxRecDepth 100000 in
theorem ck_145 : okPy pI pKf pStrs pThr pNcs f_145 bl_145 g_145 = true := by decide +kernel
set_option maxRecDepth 100000 in
theorem ck_146 : okPy pI pKf pStrs pThr pNcs f_146 bl_146 g_146 = true := by decide +kernel
set_option maxRecDepth 100000 in
theorem ck_147 : okPy pI pKf pStrs pThr pNcs f_147 bl_147 g_147 = true := by decide +kernel
set_option maxRecDepth 100000 in
theorem ck_148 : okPy pI pKf pStrs pThr pNcs f_148 bl_148 g_148 = true := by decide +kernel
set_option maxRecDepth 100000 in
theorem ck_149 : okPy pI pKf pStrs pThr pNcs f_149 bl_149 g_149 = true := by decide +kernel
set_option maxRecDepth 100000 in
theorem ck_150 : okPy pI pKf pStrs pThr pNcs f_150 bl_150 g_150 = true := by decide +kernel
set_option maxRecDepth 100000 in
theorem ck_151 : okPy pI pKf pStrs pThr pNcs f_151 bl_151 g_151 = true := by decide +kernel
set_option maxRecDepth 100000 in
theorem ck_152 : okPy pI pKf pStrs pThr pNcs f_152 bl_152 g_152 = true := by decide +kernel
set_option maxRecDepth 100000 in
theorem ck_153 : okPy pI pKf pStrs pThr pNcs f_153 bl_153 g_153 = true := by decide +kernel
set_option maxRecDepth 100000 in
theorem ck_154 : okPy pI pKf pStrs pThr pNcs f_154 bl_154 g_154 = true := by decide +kernel
set_option maxRecDepth 100000 in
theorem ck_155 : okPy pI pKf pStrs pThr pNcs f_155 bl_155 g_155 = true := by decide +kernel
set_option maxRecDepth 100000 in
theorem ck_156 : okPy pI pKf pStrs pThr pNcs f_156 bl_156 g_156 = true := by decide +kernel
set_option maxRecDepth 100000 in
theorem ck_157 : okPy pI pKf pStrs pThr pNcs f_157 bl_157 g_157 = true := by decide +kernel
set_option maxRecDepth 100000 in
theorem ck_158 : okPy pI pKf pStrs pThr pNcs f_158 bl_158 g_158 = true := by decide +kernel
set_option maxRecDepth 100000 in
theorem ck_159 : okPy pI pKf pStrs pThr pNcs f_159 bl_159 g_159 = true := by decide +kernel
set_option maxRecDepth 100000 in
theorem ck_160 : okPy pI pKf pStrs pThr pNcs f_160 bl_160 g_160 = true := by decide +kernel
set_option maxRecDepth 100000 in
theorem ck_161 : okPy pI pKf pStrs pThr pNcs f_161 bl_161 g_161 = true := by decide +kernel
set_option maxRecDepth 100000 in
theorem ck_162 : okPy pI pKf pStrs pThr pNcs f_162 bl_162 g_162 = true := by decide +kernel
set_option maxRecDepth 100000 in
theorem ck_163 : okPy pI pKf pStrs pThr pNcs f_163 bl_163 g_163 = true := by decide +kernel
set_option maxRecDepth 100000 in
theorem ck_164 : okPy pI pKf pStrs pThr pNcs f_164 bl_164 g_164 = true := by decide +kernel
set_option maxRecDepth 100000 in
theorem ck_165 : okPy pI pKf pStrs pThr pNcs f_165 bl_165 g_165 = true := by decide +kernel
set_option maxRecDepth 100000 in
theorem ck_166 : okPy pI pKf pStrs pThr pNcs f_166 bl_166 g_166 = true := by decide +kernel
set_option maxRecDepth 100000 in
theorem ck_167 : okPy pI pKf pStrs pThr pNcs f_167 bl_167 g_167 = true := by decide +kernel
set_option maxRecDepth 100000 in
theorem ck_168 : okPy pI pKf pStrs pThr pNcs f_168 bl_168 g_168 = true := by decide +kernel
set_option maxRecDepth 100000 in
theorem ck_169 : okPy pI pKf pStrs pThr pNcs f_169 bl_169 g_169 = true := by decide +kernel
set_option maxRecDepth 100000 in
theorem ck_170 : okPy pI pKf pStrs pThr pNcs f_170 bl_170 g_170 = true := by decide +kernel
set_option maxRecDepth 100000 in
theorem ck_171 : okPy pI pKf pStrs pThr pNcs f_171 bl_171 g_171 = true := by decide +kernel
set_option maxRecDepth 100000 in
theorem ck_172 : okPy pI pKf pStrs pThr pNcs f_172 bl_172 g_172 = true := by decide +kernel
set_option maxRecDepth 100000 in
theorem ck_173 : okPy pI pKf pStrs pThr pNcs f_173 bl_173 g_173 = true := by decide +kernel
set_option maxRecDepth 100000 in
theorem ck_174 : okPy pI pKf pStrs pThr pNcs f_174 bl_174 g_174 = true := by decide +kernel
set_option maxRecDepth 100000 in
theorem ck_175 : okPy pI pKf pStrs pThr pNcs f_175 bl_175 g_175 = true := by decide +kernel
set_option maxRecDepth 100000 in
theorem ck_176 : okPy pI pKf pStrs pThr pNcs f_176 bl_176 g_176 = true := by decide +kernel
set_option maxRecDepth 100000 in
theorem ck_177 : okPy pI pKf pStrs pThr pNcs f_177 bl_177 g_177 = true := by decide +kernel
set_option maxRecDepth 100000 in
theorem ck_178 : okPy pI pKf pStrs pThr pNcs f_178 bl_178 g_178 = true := by decide +kernel
set_option maxRecDepth 100000 in
theorem ck_179 : okPy pI pKf pStrs pThr pNcs f_179 bl_179 g_179 = true := by decide +kernel
set_option maxRecDepth 100000 in
theorem ck_180 : okPy pI pKf pStrs pThr pNcs f_180 bl_180 g_180 = true := by decide +kernel
set_option maxRecDepth 100000 in
theorem ck_181 : okPy pI pKf pStrs pThr pNcs f_181 bl_181 g_181 = true := by decide +kernel
set_option maxRecDepth 100000 in
theorem ck_182 : okPy pI pKf pStrs pThr pNcs f_182 bl_182 g_182 = true := by decide +kernel
set_option maxRecDepth 100000 in
theorem ck_183 : okPy pI pKf pStrs pThr pNcs f_183 bl_183 g_183 = true := by decide +kernel
set_option maxRecDepth 100000 in
theorem ck_184 : okPy pI pKf pStrs pThr pNcs f_184 bl_184 g_184 = true := by decide +kernel
set_option maxRecDepth 100000 in
theorem ck_185 : okPy pI pKf pStrs pThr pNcs f_185 bl_185 g_185 = true := by decide +kernel
set_option maxRecDepth 100000 in
theorem ck_186 : okPy pI pKf pStrs pThr pNcs f_186 bl_186 g_186 = true := by decide +kernel
set_option maxRecDepth 100000 in
theorem ck_187 : okPy pI pKf pStrs pThr pNcs f_187 bl_187 g_187 = true := by decide +kernel
set_option maxRecDepth 100000 in
theorem ck_188 : okPy pI pKf pStrs pThr pNcs f_188 bl_188 g_188 = true := by decide +kernel
set_option maxRecDepth 100000 in
theorem ck_189 : okPy pI pKf pStrs pThr pNcs f_189 bl_189 g_189 = true := by decide +kernel
set_option maxRecDepth 100000 in
theorem ck_190 : okPy pI pKf pStrs pThr pNcs f_190 bl_190 g_190 = true := by decide +kernel
set_option maxRecDepth 100000 in
theorem ck_191 : okPy pI pKf pStrs pThr pNcs f_191 bl_191 g_191 = true := by decide +kernel
set_option maxRecDepth 100000 in
theorem ck_192 : okPy pI pKf pStrs pThr pNcs f_192 bl_192 g_192 = true := by decide +kernel
set_option maxRecDepth 100000 in
theorem ck_193 : okPy pI pKf pStrs pThr pNcs f_193 bl_193 g_193 = true := by decide +kernel
set_option maxRecDepth 100000 in
theorem ck_194 : okPy pI pKf pStrs pThr pNcs f_194 bl_194 g_194 = true := by decide +kernel
set_option maxRecDepth 100000 in
theorem ck_195 : okPy pI pKf pStrs pThr pNcs f_195 bl_195 g_195 = true := by decide +kernel
set_option maxRecDepth 100000 in
theorem ck_196 : okPy pI pKf pStrs pThr pNcs f_196 bl_196 g_196 = true := by decide +kernel
set_option maxRecDepth 100000 in
theorem ck_197 : okPy pI pKf pStrs pThr pNcs f_197 bl_197 g_197 = true := by decide +kernel
set_option maxRecDepth 100000 in
theorem ck_198 : okPy pI pKf pStrs pThr pNcs f_198 bl_198 g_198 = true := by decide +kernel
set_option maxRecDepth 100000 in
theorem ck_199 : okPy pI pKf pStrs pThr pNcs f_199 bl_199 g_199 = true := by decide +kernel
set_option maxRecDepth 100000 in
theorem ck_200 : okPy pI pKf pStrs pThr pNcs f_200 bl_200 g_200 = true := by decide +kernel
set_option maxRecDepth 100000 in
theorem ck_201 : okPy pI pKf pStrs pThr pNcs f_201 bl_201 g_201 = true := by decide +kernel
set_option maxRecDepth 100000 in
theorem ck_202 : okPy pI pKf pStrs pThr pNcs f_202 bl_202 g_202 = true := by decide +kernel
set_option maxRecDepth 100000 in
theorem ck_203 : okPy pI pKf pStrs pThr pNcs f_203 bl_203 g_203 = true := by decide +kernel
set_option maxRecDepth 100000 in
theorem ck_204 : okPy pI pKf pStrs pThr pNcs f_204 bl_204 g_204 = true := by decide +kernel
set_option maxRecDepth 100000 in
theorem ck_205 : okPy pI pKf pStrs pThr pNcs f_205 bl_205 g_205 = true := by decide +kernel
set_option maxRecDepth 100000 in
theorem ck_206 : okPy pI pKf pStrs pThr pNcs f_206 bl_206 g_206 = true := by decide +kernel
set_option maxRecDepth 100000 in
theorem ck_207 : okPy pI pKf pStrs pThr pNcs f_207 bl_207 g_207 = true := by decide +kernel
set_option maxRecDepth 100000 in
theorem ck_208 : okPy pI pKf pStrs pThr pNcs f_208 bl_208 g_208 = true := by decide +kernel
set_option maxRecDepth 100000 in
theorem ck_209 : okPy pI pKf pStrs pThr pNcs f_209 bl_209 g_209 = true := by decide +kernel
set_option maxRecDepth 100000 in
theorem ck_210 : okPy pI pKf pStrs pThr pNcs f_210 bl_210 g_210 = true := by decide +kernel
set_option maxRecDepth 100000 in
theorem ck_211 : okPy pI pKf pStrs pThr pNcs f_211 bl_211 g_211 = true := by decide +kernel
set_option maxRecDepth 100000 in
theorem ck_212 : okPy pI pKf pStrs pThr pNcs f_212 bl_212 g_212 = true := by decide +kernel
set_option maxRecDepth 100000 in
theorem ck_213 : okPy pI pKf pStrs pThr pNcs f_213 bl_213 g_213 = true := by decide +kernel
set_option maxRecDepth 100000 in
theorem ck_214 : okPy pI pKf pStrs pThr pNcs f_214 bl_214 g_214 = true := by decide +kernel
set_option maxRecDepth 100000 in
theorem ck_215 : okPy pI pKf pStrs pThr pNcs f_215 bl_215 g_215 = true := by decide +kernel
set_option maxRecDepth 100000 in
theorem ck_216 : okPy pI pKf pStrs pThr pNcs f_216 bl_216 g_216 = true := by decide +kernel
set_option maxRecDepth 100000 in
theorem ck_217 : okPy pI pKf pStrs pThr pNcs f_217 bl_217 g_217 = true := by decide +kernel
set_option maxRecDepth 100000 in
theorem ck_218 : okPy pI pKf pStrs pThr pNcs f_218 bl_218 g_218 = true := by decide +kernel
set_option maxRecDepth 100000 in
theorem ck_219 : okPy pI pKf pStrs pThr pNcs f_219 bl_219 g_219 = true := by decide +kernel
set_option maxRecDepth 100000 in
theorem ck_220 : okPy pI pKf pStrs pThr pNcs f_220 bl_220 g_220 = true := by decide +kernel
set_option maxRecDepth 100000 in
theorem ck_221 : okPy pI pKf pStrs pThr pNcs f_221 bl_221 g_221 = true := by decide +kernel
set_option maxRecDepth 100000 in
theorem ck_222 : okPy pI pKf pStrs pThr pNcs f_222 bl_222 g_222 = true := by decide +kernel
set_option maxRecDepth 100000 in
theorem ck_223 : okPy pI pKf pStrs pThr pNcs f_223 bl_223 g_223 = true := by decide +kernel
set_option maxRecDepth 100000 in
theorem ck_224 : okPy pI pKf pStrs pThr pNcs f_224 bl_224 g_224 = true := by decide +kernel
set_option maxRecDepth 100000 in
theorem ck_225 : okPy pI pKf pStrs pThr pNcs f_225 bl_225 g_225 = true := by decide +kernel
set_option maxRecDepth 100000 in
theorem ck_226 : okPy pI pKf pStrs pThr pNcs f_226 bl_226 g_226 = true := by decide +kernel
set_option maxRecDepth 100000 in
theorem ck_227 : okPy pI pKf pStrs pThr pNcs f_227 bl_227 g_227 = true := by decide +kernel
set_option maxRecDepth 100000 in
theorem ck_228 : okPy pI pKf pStrs pThr pNcs f_228 bl_228 g_228 = true := by decide +kernel
set_option maxRecDepth 100000 in
theorem ck_229 : okPy pI pKf pStrs pThr pNcs f_229 bl_229 g_229 = true := by decide +kernel
set_option maxRecDepth 100000 in
theorem ck_230 : okPy pI pKf pStrs pThr pNcs f_230 bl_230 g_230 = true := by decide +kernel
set_option maxRecDepth 100000 in
theorem ck_231 : okPy pI pKf pStrs pThr pNcs f_231 bl_231 g_231 = true := by decide +kernel
set_option maxRecDepth 100000 in
theorem ck_232 : okPy pI pKf pStrs pThr pNcs f_232 bl_232 g_232 = true := by decide +kernel
set_option maxRecDepth 100000 in
theorem ck_233 : okPy pI pKf pStrs pThr pNcs f_233 bl_233 g_233 = true := by decide +kernel
set_option maxRecDepth 100000 in
theorem ck_234 : okPy pI pKf pStrs pThr pNcs f_234 bl_234 g_234 = true := by decide +kernel
set_option maxRecDepth 100000 in
theorem ck_235 : okPy pI pKf pStrs pThr pNcs f_235 bl_235 g_235 = true := by decide +kernel
set_option maxRecDepth 100000 in
theorem ck_236 : okPy pI pKf pStrs pThr pNcs f_236 bl_236 g_236 = true := by decide +kernel
set_option maxRecDepth 100000 in
theorem ck_237 : okPy pI pKf pStrs pThr pNcs f_237 bl_237 g_237 = true := by decide +kernel
set_option maxRecDepth 100000 in
theorem ck_238 : okPy pI pKf pStrs pThr pNcs f_238 bl_238 g_238 = true := by decide +kernel
set_option maxRecDepth 100000 in
theorem ck_239 : okPy pI pKf pStrs pThr pNcs f_239 bl_239 g_239 = true := by decide +kernel
set_option maxRecDepth 100000 in
theorem ck_240 : okPy pI pKf pStrs pThr pNcs f_240 bl_240 g_240 = true := by decide +kernel
set_option maxRecDepth 100000 in
theorem ck_241 : okPy pI pKf pStrs pThr pNcs f_241 bl_241 g_241 = true := by decide +kernel
set_option maxRecDepth 100000 in
theorem ck_242 : okPy pI pKf pStrs pThr pNcs f_242 bl_242 g_242 = true := by decide +kernel
set_option maxRecDepth 100000 in
theorem ck_243 : okPy pI pKf pStrs pThr pNcs f_243 bl_243 g_243 = true := by decide +kernel
set_option maxRecDepth 100000 in
theorem ck_244 : okPy pI pKf pStrs pThr pNcs f_244 bl_244 g_244 = true := by decide +kernel
set_option maxRecDepth 100000 in
theorem ck_245 : okPy pI pKf pStrs pThr pNcs f_245 bl_245 g_245 = true := by decide +kernel
set_option maxRecDepth 100000 in
theorem ck_246 : okPy pI pKf pStrs pThr pNcs f_246 bl_246 g_246 = true := by decide +kernel
set_option maxRecDepth 100000 in
theorem ck_247 : okPy pI pKf pStrs pThr pNcs f_247 bl_247 g_247 = true := by decide +kernel
set_option maxRecDepth 100000 in
theorem ck_248 : okPy pI pKf pStrs pThr pNcs f_248 bl_248 g_248 = true := by decide +kernel
set_option maxRecDepth 100000 in
theorem ck_249 : okPy pI pKf pStrs pThr pNcs f_249 bl_249 g_249 = true := by decide +kernel
set_option maxRecDepth 100000 in
theorem ck_250 : okPy pI pKf pStrs pThr pNcs f_250 bl_250 g_250 = true := by decide +kernel
set_option maxRecDepth 100000 in
theorem ck_251 : okPy pI pKf pStrs pThr pNcs f_251 bl_251 g_251 = true := by decide +kernel
set_option maxRecDepth 100000 in
theorem ck_252 : okPy pI pKf pStrs pThr pNcs f_252 bl_252 g_252 = true := by decide +kernel
set_option maxRecDepth 100000 in
theorem ck_253 : okPy pI pKf pStrs pThr pNcs f_253 bl_253 g_253 = true := by decide +kernel
set_option maxRecDepth 100000 in
theorem ck_254 : okPy pI pKf pStrs pThr pNcs f_254 bl_254 g_254 = true := by decide +kernel
set_option maxRecDepth 100000 in
theorem ck_255 : okPy pI pKf pStrs pThr pNcs f_255 bl_255 g_255 = true := by decide +kernel
set_option maxRecDepth 100000 in
theorem ck_256 : okPy pI pKf pStrs pThr pNcs f_256 bl_256 g_256 = true := by decide +kernel
set_option maxRecDepth 100000 in
theorem ck_257 : okPy pI pKf pStrs pThr pNcs f_257 bl_257 g_257 = true := by decide +kernel
set_option maxRecDepth 100000 in
theorem ck_258 : okPy pI pKf pStrs pThr pNcs f_258 bl_258 g_258 = true := by decide +kernel
set_option maxRecDepth 100000 in
theorem ck_259 : okPy pI pKf pStrs pThr pNcs f_259 bl_259 g_259 = true := by decide +kernel
set_option maxRecDepth 100000 in
theorem ck_260 : okPy pI pKf pStrs pThr pNcs f_260 bl_260 g_260 = true := by decide +kernel
set_option maxRecDepth 100000 in
theorem ck_261 : okPy pI pKf pStrs pThr pNcs f_261 bl_261 g_261 = true := by decide +kernel
set_option maxRecDepth 100000 in
theorem ck_262 : okPy pI pKf pStrs pThr pNcs f_262 bl_262 g_262 = true := by decide +kernel
set_option maxRecDepth 100000 in
theorem ck_263 : okPy pI pKf pStrs pThr pNcs f_263 bl_263 g_263 = true := by decide +kernel
set_option maxRecDepth 100000 in
theorem ck_264 : okPy pI pKf pStrs pThr pNcs f_264 bl_264 g_264 = true := by decide +kernel
set_option maxRecDepth 100000 in
theorem ck_265 : okPy pI pKf pStrs pThr pNcs f_265 bl_265 g_265 = true := by decide +kernel
set_option maxRecDepth 100000 in
theorem ck_266 : okPy pI pKf pStrs pThr pNcs f_266 bl_266 g_266 = true := by decide +kernel
set_option maxRecDepth 100000 in
theorem ck_267 : okPy pI pKf pStrs pThr pNcs f_267 bl_267 g_267 = true := by decide +kernel
set_option maxRecDepth 100000 in
theorem ck_268 : okPy pI pKf pStrs pThr pNcs f_268 bl_268 g_268 = true := by decide +kernel
set_option maxRecDepth 100000 in
theorem ck_269 : okPy pI pKf pStrs pThr pNcs f_269 bl_269 g_269 = true := by decide +kernel
set_option maxRecDepth 100000 in
theorem ck_270 : okPy pI pKf pStrs pThr pNcs f_270 bl_270 g_270 = true := by decide +kernel
set_option maxRecDepth 100000 in
theorem ck_271 : okPy pI pKf pStrs pThr pNcs f_271 bl_271 g_271 = true := by decide +kernel
set_option maxRecDepth 100000 in
theorem ck_272 : okPy pI pKf pStrs pThr pNcs f_272 bl_272 g_272 = true := by decide +kernel
set_option maxRecDepth 100000 in
theorem ck_273 : okPy pI pKf pStrs pThr pNcs f_273 bl_273 g_273 = true := by decide +kernel
set_option maxRecDepth 100000 in
theorem ck_274 : okPy pI pKf pStrs pThr pNcs f_274 bl_274 g_274 = true := by decide +kernel
set_option maxRecDepth 100000 in
theorem ck_275 : okPy pI pKf pStrs pThr pNcs f_275 bl_275 g_275 = true := by decide +kernel
set_option maxRecDepth 100000 in
theorem ck_276 : okPy pI pKf pStrs pThr pNcs f_276 bl_276 g_276 = true := by decide +kernel
set_option maxRecDepth 100000 in
theorem ck_277 : okPy pI pKf pStrs pThr pNcs f_277 bl_277 g_277 = true := by decide +kernel
set_option maxRecDepth 100000 in
theorem ck_278 : okPy pI pKf pStrs pThr pNcs f_278 bl_278 g_278 = true := by decide +kernel
set_option maxRecDepth 100000 in
theorem ck_279 : okPy pI pKf pStrs pThr pNcs f_279 bl_279 g_279 = true := by decide +kernel
