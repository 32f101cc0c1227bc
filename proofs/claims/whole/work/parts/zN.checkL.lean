/-! THE CHECKS of the law, a block each -/
theorem cq_279_0 : okQ pI pKf pStrs pThr f_279.1.cls f_279.1.name f_279.2.2.2.1 f_279.2.1 bl_279 (cvOf f_279.2.2.2.2) 0 T_279_0 = true := by decide +kernel
theorem cq_279_1 : okQ pI pKf pStrs pThr f_279.1.cls f_279.1.name f_279.2.2.2.1 f_279.2.1 bl_279 (cvOf f_279.2.2.2.2) 23 T_279_1 = true := by decide +kernel
theorem cq_279_2 : okQ pI pKf pStrs pThr f_279.1.cls f_279.1.name f_279.2.2.2.1 f_279.2.1 bl_279 (cvOf f_279.2.2.2.2) 200 T_279_2 = true := by decide +kernel
theorem cq_279_3 : okQ pI pKf pStrs pThr f_279.1.cls f_279.1.name f_279.2.2.2.1 f_279.2.1 bl_279 (cvOf f_279.2.2.2.2) 273 T_279_3 = true := by decide +kernel
theorem cq_279_4 : okQ pI pKf pStrs pThr f_279.1.cls f_279.1.name f_279.2.2.2.1 f_279.2.1 bl_279 (cvOf f_279.2.2.2.2) 298 T_279_4 = true := by decide +kernel
theorem cq_279_5 : okQ pI pKf pStrs pThr f_279.1.cls f_279.1.name f_279.2.2.2.1 f_279.2.1 bl_279 (cvOf f_279.2.2.2.2) 322 T_279_5 = true := by decide +kernel
theorem cq_279_6 : okQ pI pKf pStrs pThr f_279.1.cls f_279.1.name f_279.2.2.2.1 f_279.2.1 bl_279 (cvOf f_279.2.2.2.2) 339 T_279_6 = true := by decide +kernel
theorem cq_279_7 : okQ pI pKf pStrs pThr f_279.1.cls f_279.1.name f_279.2.2.2.1 f_279.2.1 bl_279 (cvOf f_279.2.2.2.2) 342 T_279_7 = true := by decide +kernel
theorem cq_279_8 : okQ pI pKf pStrs pThr f_279.1.cls f_279.1.name f_279.2.2.2.1 f_279.2.1 bl_279 (cvOf f_279.2.2.2.2) 366 T_279_8 = true := by decide +kernel
theorem cq_279_9 : okQ pI pKf pStrs pThr f_279.1.cls f_279.1.name f_279.2.2.2.1 f_279.2.1 bl_279 (cvOf f_279.2.2.2.2) 383 T_279_9 = true := by decide +kernel
theorem cq_279_10 : okQ pI pKf pStrs pThr f_279.1.cls f_279.1.name f_279.2.2.2.1 f_279.2.1 bl_279 (cvOf f_279.2.2.2.2) 386 T_279_10 = true := by decide +kernel
theorem cq_279_11 : okQ pI pKf pStrs pThr f_279.1.cls f_279.1.name f_279.2.2.2.1 f_279.2.1 bl_279 (cvOf f_279.2.2.2.2) 399 T_279_11 = true := by decide +kernel
theorem cq_279_12 : okQ pI pKf pStrs pThr f_279.1.cls f_279.1.name f_279.2.2.2.1 f_279.2.1 bl_279 (cvOf f_279.2.2.2.2) 447 T_279_12 = true := by decide +kernel
theorem cq_279_13 : okQ pI pKf pStrs pThr f_279.1.cls f_279.1.name f_279.2.2.2.1 f_279.2.1 bl_279 (cvOf f_279.2.2.2.2) 464 T_279_13 = true := by decide +kernel
theorem cq_279_14 : okQ pI pKf pStrs pThr f_279.1.cls f_279.1.name f_279.2.2.2.1 f_279.2.1 bl_279 (cvOf f_279.2.2.2.2) 467 T_279_14 = true := by decide +kernel
theorem cq_279_15 : okQ pI pKf pStrs pThr f_279.1.cls f_279.1.name f_279.2.2.2.1 f_279.2.1 bl_279 (cvOf f_279.2.2.2.2) 505 T_279_15 = true := by decide +kernel
theorem cq_279_16 : okQ pI pKf pStrs pThr f_279.1.cls f_279.1.name f_279.2.2.2.1 f_279.2.1 bl_279 (cvOf f_279.2.2.2.2) 506 T_279_16 = true := by decide +kernel
theorem cq_279_17 : okQ pI pKf pStrs pThr f_279.1.cls f_279.1.name f_279.2.2.2.1 f_279.2.1 bl_279 (cvOf f_279.2.2.2.2) 550 T_279_17 = true := by decide +kernel
theorem cq_279_18 : okQ pI pKf pStrs pThr f_279.1.cls f_279.1.name f_279.2.2.2.1 f_279.2.1 bl_279 (cvOf f_279.2.2.2.2) 551 T_279_18 = true := by decide +kernel
theorem cq_279_19 : okQ pI pKf pStrs pThr f_279.1.cls f_279.1.name f_279.2.2.2.1 f_279.2.1 bl_279 (cvOf f_279.2.2.2.2) 567 T_279_19 = true := by decide +kernel
theorem cq_279_20 : okQ pI pKf pStrs pThr f_279.1.cls f_279.1.name f_279.2.2.2.1 f_279.2.1 bl_279 (cvOf f_279.2.2.2.2) 584 T_279_20 = true := by decide +kernel
theorem cq_279_21 : okQ pI pKf pStrs pThr f_279.1.cls f_279.1.name f_279.2.2.2.1 f_279.2.1 bl_279 (cvOf f_279.2.2.2.2) 587 T_279_21 = true := by decide +kernel
theorem cq_279_22 : okQ pI pKf pStrs pThr f_279.1.cls f_279.1.name f_279.2.2.2.1 f_279.2.1 bl_279 (cvOf f_279.2.2.2.2) 635 T_279_22 = true := by decide +kernel
theorem cq_279_23 : okQ pI pKf pStrs pThr f_279.1.cls f_279.1.name f_279.2.2.2.1 f_279.2.1 bl_279 (cvOf f_279.2.2.2.2) 652 T_279_23 = true := by decide +kernel
theorem cq_279_24 : okQ pI pKf pStrs pThr f_279.1.cls f_279.1.name f_279.2.2.2.1 f_279.2.1 bl_279 (cvOf f_279.2.2.2.2) 655 T_279_24 = true := by decide +kernel
theorem cq_279_25 : okQ pI pKf pStrs pThr f_279.1.cls f_279.1.name f_279.2.2.2.1 f_279.2.1 bl_279 (cvOf f_279.2.2.2.2) 691 T_279_25 = true := by decide +kernel
theorem cq_279_26 : okQ pI pKf pStrs pThr f_279.1.cls f_279.1.name f_279.2.2.2.1 f_279.2.1 bl_279 (cvOf f_279.2.2.2.2) 708 T_279_26 = true := by decide +kernel
theorem cq_279_27 : okQ pI pKf pStrs pThr f_279.1.cls f_279.1.name f_279.2.2.2.1 f_279.2.1 bl_279 (cvOf f_279.2.2.2.2) 711 T_279_27 = true := by decide +kernel
theorem cq_279_28 : okQ pI pKf pStrs pThr f_279.1.cls f_279.1.name f_279.2.2.2.1 f_279.2.1 bl_279 (cvOf f_279.2.2.2.2) 747 T_279_28 = true := by decide +kernel
theorem cq_279_29 : okQ pI pKf pStrs pThr f_279.1.cls f_279.1.name f_279.2.2.2.1 f_279.2.1 bl_279 (cvOf f_279.2.2.2.2) 764 T_279_29 = true := by decide +kernel
theorem cq_279_30 : okQ pI pKf pStrs pThr f_279.1.cls f_279.1.name f_279.2.2.2.1 f_279.2.1 bl_279 (cvOf f_279.2.2.2.2) 767 T_279_30 = true := by decide +kernel
theorem cq_279_31 : okQ pI pKf pStrs pThr f_279.1.cls f_279.1.name f_279.2.2.2.1 f_279.2.1 bl_279 (cvOf f_279.2.2.2.2) 815 T_279_31 = true := by decide +kernel
theorem cq_279_32 : okQ pI pKf pStrs pThr f_279.1.cls f_279.1.name f_279.2.2.2.1 f_279.2.1 bl_279 (cvOf f_279.2.2.2.2) 832 T_279_32 = true := by decide +kernel
theorem cq_279_33 : okQ pI pKf pStrs pThr f_279.1.cls f_279.1.name f_279.2.2.2.1 f_279.2.1 bl_279 (cvOf f_279.2.2.2.2) 835 T_279_33 = true := by decide +kernel
theorem cq_279_34 : okQ pI pKf pStrs pThr f_279.1.cls f_279.1.name f_279.2.2.2.1 f_279.2.1 bl_279 (cvOf f_279.2.2.2.2) 883 T_279_34 = true := by decide +kernel
theorem cq_279_35 : okQ pI pKf pStrs pThr f_279.1.cls f_279.1.name f_279.2.2.2.1 f_279.2.1 bl_279 (cvOf f_279.2.2.2.2) 900 T_279_35 = true := by decide +kernel
theorem cq_279_36 : okQ pI pKf pStrs pThr f_279.1.cls f_279.1.name f_279.2.2.2.1 f_279.2.1 bl_279 (cvOf f_279.2.2.2.2) 903 T_279_36 = true := by decide +kernel
theorem cq_279_37 : okQ pI pKf pStrs pThr f_279.1.cls f_279.1.name f_279.2.2.2.1 f_279.2.1 bl_279 (cvOf f_279.2.2.2.2) 951 T_279_37 = true := by decide +kernel
theorem cq_279_38 : okQ pI pKf pStrs pThr f_279.1.cls f_279.1.name f_279.2.2.2.1 f_279.2.1 bl_279 (cvOf f_279.2.2.2.2) 968 T_279_38 = true := by decide +kernel
theorem cq_279_39 : okQ pI pKf pStrs pThr f_279.1.cls f_279.1.name f_279.2.2.2.1 f_279.2.1 bl_279 (cvOf f_279.2.2.2.2) 969 T_279_39 = true := by decide +kernel
theorem cq_279_40 : okQ pI pKf pStrs pThr f_279.1.cls f_279.1.name f_279.2.2.2.1 f_279.2.1 bl_279 (cvOf f_279.2.2.2.2) 975 T_279_40 = true := by decide +kernel
theorem cq_279_41 : okQ pI pKf pStrs pThr f_279.1.cls f_279.1.name f_279.2.2.2.1 f_279.2.1 bl_279 (cvOf f_279.2.2.2.2) 978 T_279_41 = true := by decide +kernel
theorem cq_279_42 : okQ pI pKf pStrs pThr f_279.1.cls f_279.1.name f_279.2.2.2.1 f_279.2.1 bl_279 (cvOf f_279.2.2.2.2) 1014 T_279_42 = true := by decide +kernel
theorem cq_279_43 : okQ pI pKf pStrs pThr f_279.1.cls f_279.1.name f_279.2.2.2.1 f_279.2.1 bl_279 (cvOf f_279.2.2.2.2) 1031 T_279_43 = true := by decide +kernel
theorem cq_279_44 : okQ pI pKf pStrs pThr f_279.1.cls f_279.1.name f_279.2.2.2.1 f_279.2.1 bl_279 (cvOf f_279.2.2.2.2) 1034 T_279_44 = true := by decide +kernel
theorem cq_279_45 : okQ pI pKf pStrs pThr f_279.1.cls f_279.1.name f_279.2.2.2.1 f_279.2.1 bl_279 (cvOf f_279.2.2.2.2) 1070 T_279_45 = true := by decide +kernel
theorem cq_279_46 : okQ pI pKf pStrs pThr f_279.1.cls f_279.1.name f_279.2.2.2.1 f_279.2.1 bl_279 (cvOf f_279.2.2.2.2) 1087 T_279_46 = true := by decide +kernel
theorem cq_279_47 : okQ pI pKf pStrs pThr f_279.1.cls f_279.1.name f_279.2.2.2.1 f_279.2.1 bl_279 (cvOf f_279.2.2.2.2) 1090 T_279_47 = true := by decide +kernel
theorem cq_279_48 : okQ pI pKf pStrs pThr f_279.1.cls f_279.1.name f_279.2.2.2.1 f_279.2.1 bl_279 (cvOf f_279.2.2.2.2) 1138 T_279_48 = true := by decide +kernel
theorem cq_279_49 : okQ pI pKf pStrs pThr f_279.1.cls f_279.1.name f_279.2.2.2.1 f_279.2.1 bl_279 (cvOf f_279.2.2.2.2) 1155 T_279_49 = true := by decide +kernel
theorem cq_279_50 : okQ pI pKf pStrs pThr f_279.1.cls f_279.1.name f_279.2.2.2.1 f_279.2.1 bl_279 (cvOf f_279.2.2.2.2) 1158 T_279_50 = true := by decide +kernel
theorem cq_279_51 : okQ pI pKf pStrs pThr f_279.1.cls f_279.1.name f_279.2.2.2.1 f_279.2.1 bl_279 (cvOf f_279.2.2.2.2) 1218 T_279_51 = true := by decide +kernel
theorem cq_279_52 : okQ pI pKf pStrs pThr f_279.1.cls f_279.1.name f_279.2.2.2.1 f_279.2.1 bl_279 (cvOf f_279.2.2.2.2) 1235 T_279_52 = true := by decide +kernel
theorem cq_279_53 : okQ pI pKf pStrs pThr f_279.1.cls f_279.1.name f_279.2.2.2.1 f_279.2.1 bl_279 (cvOf f_279.2.2.2.2) 1238 T_279_53 = true := by decide +kernel
theorem cq_279_54 : okQ pI pKf pStrs pThr f_279.1.cls f_279.1.name f_279.2.2.2.1 f_279.2.1 bl_279 (cvOf f_279.2.2.2.2) 1274 T_279_54 = true := by decide +kernel
theorem cq_279_55 : okQ pI pKf pStrs pThr f_279.1.cls f_279.1.name f_279.2.2.2.1 f_279.2.1 bl_279 (cvOf f_279.2.2.2.2) 1291 T_279_55 = true := by decide +kernel
theorem cq_279_56 : okQ pI pKf pStrs pThr f_279.1.cls f_279.1.name f_279.2.2.2.1 f_279.2.1 bl_279 (cvOf f_279.2.2.2.2) 1292 T_279_56 = true := by decide +kernel
theorem cq_279_57 : okQ pI pKf pStrs pThr f_279.1.cls f_279.1.name f_279.2.2.2.1 f_279.2.1 bl_279 (cvOf f_279.2.2.2.2) 1298 T_279_57 = true := by decide +kernel
theorem cq_279_58 : okQ pI pKf pStrs pThr f_279.1.cls f_279.1.name f_279.2.2.2.1 f_279.2.1 bl_279 (cvOf f_279.2.2.2.2) 1301 T_279_58 = true := by decide +kernel
theorem cq_279_59 : okQ pI pKf pStrs pThr f_279.1.cls f_279.1.name f_279.2.2.2.1 f_279.2.1 bl_279 (cvOf f_279.2.2.2.2) 1337 T_279_59 = true := by decide +kernel
theorem cq_279_60 : okQ pI pKf pStrs pThr f_279.1.cls f_279.1.name f_279.2.2.2.1 f_279.2.1 bl_279 (cvOf f_279.2.2.2.2) 1354 T_279_60 = true := by decide +kernel
theorem cq_279_61 : okQ pI pKf pStrs pThr f_279.1.cls f_279.1.name f_279.2.2.2.1 f_279.2.1 bl_279 (cvOf f_279.2.2.2.2) 1357 T_279_61 = true := by decide +kernel
theorem cq_279_62 : okQ pI pKf pStrs pThr f_279.1.cls f_279.1.name f_279.2.2.2.1 f_279.2.1 bl_279 (cvOf f_279.2.2.2.2) 1382 T_279_62 = true := by decide +kernel
theorem cq_279_63 : okQ pI pKf pStrs pThr f_279.1.cls f_279.1.name f_279.2.2.2.1 f_279.2.1 bl_279 (cvOf f_279.2.2.2.2) 1407 T_279_63 = true := by decide +kernel
theorem cq_279_64 : okQ pI pKf pStrs pThr f_279.1.cls f_279.1.name f_279.2.2.2.1 f_279.2.1 bl_279 (cvOf f_279.2.2.2.2) 1420 T_279_64 = true := by decide +kernel
theorem cq_279_65 : okQ pI pKf pStrs pThr f_279.1.cls f_279.1.name f_279.2.2.2.1 f_279.2.1 bl_279 (cvOf f_279.2.2.2.2) 1445 T_279_65 = true := by decide +kernel
theorem cq_279_66 : okQ pI pKf pStrs pThr f_279.1.cls f_279.1.name f_279.2.2.2.1 f_279.2.1 bl_279 (cvOf f_279.2.2.2.2) 1493 T_279_66 = true := by decide +kernel
theorem cq_279_67 : okQ pI pKf pStrs pThr f_279.1.cls f_279.1.name f_279.2.2.2.1 f_279.2.1 bl_279 (cvOf f_279.2.2.2.2) 1510 T_279_67 = true := by decide +kernel
theorem cq_279_68 : okQ pI pKf pStrs pThr f_279.1.cls f_279.1.name f_279.2.2.2.1 f_279.2.1 bl_279 (cvOf f_279.2.2.2.2) 1513 T_279_68 = true := by decide +kernel
theorem cq_279_69 : okQ pI pKf pStrs pThr f_279.1.cls f_279.1.name f_279.2.2.2.1 f_279.2.1 bl_279 (cvOf f_279.2.2.2.2) 1561 T_279_69 = true := by decide +kernel
theorem cq_279_70 : okQ pI pKf pStrs pThr f_279.1.cls f_279.1.name f_279.2.2.2.1 f_279.2.1 bl_279 (cvOf f_279.2.2.2.2) 1578 T_279_70 = true := by decide +kernel
theorem cq_279_71 : okQ pI pKf pStrs pThr f_279.1.cls f_279.1.name f_279.2.2.2.1 f_279.2.1 bl_279 (cvOf f_279.2.2.2.2) 1581 T_279_71 = true := by decide +kernel
theorem cq_279_72 : okQ pI pKf pStrs pThr f_279.1.cls f_279.1.name f_279.2.2.2.1 f_279.2.1 bl_279 (cvOf f_279.2.2.2.2) 1629 T_279_72 = true := by decide +kernel
theorem cq_279_73 : okQ pI pKf pStrs pThr f_279.1.cls f_279.1.name f_279.2.2.2.1 f_279.2.1 bl_279 (cvOf f_279.2.2.2.2) 1646 T_279_73 = true := by decide +kernel
theorem cq_279_74 : okQ pI pKf pStrs pThr f_279.1.cls f_279.1.name f_279.2.2.2.1 f_279.2.1 bl_279 (cvOf f_279.2.2.2.2) 1649 T_279_74 = true := by decide +kernel
theorem cq_279_75 : okQ pI pKf pStrs pThr f_279.1.cls f_279.1.name f_279.2.2.2.1 f_279.2.1 bl_279 (cvOf f_279.2.2.2.2) 1721 T_279_75 = true := by decide +kernel
theorem cq_279_76 : okQ pI pKf pStrs pThr f_279.1.cls f_279.1.name f_279.2.2.2.1 f_279.2.1 bl_279 (cvOf f_279.2.2.2.2) 1738 T_279_76 = true := by decide +kernel
theorem cq_279_77 : okQ pI pKf pStrs pThr f_279.1.cls f_279.1.name f_279.2.2.2.1 f_279.2.1 bl_279 (cvOf f_279.2.2.2.2) 1741 T_279_77 = true := by decide +kernel
theorem cq_279_78 : okQ pI pKf pStrs pThr f_279.1.cls f_279.1.name f_279.2.2.2.1 f_279.2.1 bl_279 (cvOf f_279.2.2.2.2) 1765 T_279_78 = true := by decide +kernel
theorem cq_279_79 : okQ pI pKf pStrs pThr f_279.1.cls f_279.1.name f_279.2.2.2.1 f_279.2.1 bl_279 (cvOf f_279.2.2.2.2) 1782 T_279_79 = true := by decide +kernel
theorem cq_279_80 : okQ pI pKf pStrs pThr f_279.1.cls f_279.1.name f_279.2.2.2.1 f_279.2.1 bl_279 (cvOf f_279.2.2.2.2) 1785 T_279_80 = true := by decide +kernel
theorem cq_279_81 : okQ pI pKf pStrs pThr f_279.1.cls f_279.1.name f_279.2.2.2.1 f_279.2.1 bl_279 (cvOf f_279.2.2.2.2) 1821 T_279_81 = true := by decide +kernel
theorem cq_279_82 : okQ pI pKf pStrs pThr f_279.1.cls f_279.1.name f_279.2.2.2.1 f_279.2.1 bl_279 (cvOf f_279.2.2.2.2) 1838 T_279_82 = true := by decide +kernel
theorem cq_279_83 : okQ pI pKf pStrs pThr f_279.1.cls f_279.1.name f_279.2.2.2.1 f_279.2.1 bl_279 (cvOf f_279.2.2.2.2) 1841 T_279_83 = true := by decide +kernel
theorem cq_279_84 : okQ pI pKf pStrs pThr f_279.1.cls f_279.1.name f_279.2.2.2.1 f_279.2.1 bl_279 (cvOf f_279.2.2.2.2) 1889 T_279_84 = true := by decide +kernel
theorem cq_279_85 : okQ pI pKf pStrs pThr f_279.1.cls f_279.1.name f_279.2.2.2.1 f_279.2.1 bl_279 (cvOf f_279.2.2.2.2) 1906 T_279_85 = true := by decide +kernel
theorem cq_279_86 : okQ pI pKf pStrs pThr f_279.1.cls f_279.1.name f_279.2.2.2.1 f_279.2.1 bl_279 (cvOf f_279.2.2.2.2) 1909 T_279_86 = true := by decide +kernel
theorem cq_279_87 : okQ pI pKf pStrs pThr f_279.1.cls f_279.1.name f_279.2.2.2.1 f_279.2.1 bl_279 (cvOf f_279.2.2.2.2) 1945 T_279_87 = true := by decide +kernel
theorem cq_279_88 : okQ pI pKf pStrs pThr f_279.1.cls f_279.1.name f_279.2.2.2.1 f_279.2.1 bl_279 (cvOf f_279.2.2.2.2) 1962 T_279_88 = true := by decide +kernel
theorem cq_279_89 : okQ pI pKf pStrs pThr f_279.1.cls f_279.1.name f_279.2.2.2.1 f_279.2.1 bl_279 (cvOf f_279.2.2.2.2) 1965 T_279_89 = true := by decide +kernel
theorem cq_279_90 : okQ pI pKf pStrs pThr f_279.1.cls f_279.1.name f_279.2.2.2.1 f_279.2.1 bl_279 (cvOf f_279.2.2.2.2) 2001 T_279_90 = true := by decide +kernel
theorem cq_279_91 : okQ pI pKf pStrs pThr f_279.1.cls f_279.1.name f_279.2.2.2.1 f_279.2.1 bl_279 (cvOf f_279.2.2.2.2) 2018 T_279_91 = true := by decide +kernel
theorem cq_279_92 : okQ pI pKf pStrs pThr f_279.1.cls f_279.1.name f_279.2.2.2.1 f_279.2.1 bl_279 (cvOf f_279.2.2.2.2) 2021 T_279_92 = true := by decide +kernel
theorem cq_279_93 : okQ pI pKf pStrs pThr f_279.1.cls f_279.1.name f_279.2.2.2.1 f_279.2.1 bl_279 (cvOf f_279.2.2.2.2) 2081 T_279_93 = true := by decide +kernel
theorem cq_279_94 : okQ pI pKf pStrs pThr f_279.1.cls f_279.1.name f_279.2.2.2.1 f_279.2.1 bl_279 (cvOf f_279.2.2.2.2) 2098 T_279_94 = true := by decide +kernel
theorem cq_279_95 : okQ pI pKf pStrs pThr f_279.1.cls f_279.1.name f_279.2.2.2.1 f_279.2.1 bl_279 (cvOf f_279.2.2.2.2) 2101 T_279_95 = true := by decide +kernel
theorem cq_279_96 : okQ pI pKf pStrs pThr f_279.1.cls f_279.1.name f_279.2.2.2.1 f_279.2.1 bl_279 (cvOf f_279.2.2.2.2) 2112 T_279_96 = true := by decide +kernel
theorem cq_279_97 : okQ pI pKf pStrs pThr f_279.1.cls f_279.1.name f_279.2.2.2.1 f_279.2.1 bl_279 (cvOf f_279.2.2.2.2) 2125 T_279_97 = true := by decide +kernel
theorem cq_279_98 : okQ pI pKf pStrs pThr f_279.1.cls f_279.1.name f_279.2.2.2.1 f_279.2.1 bl_279 (cvOf f_279.2.2.2.2) 2150 T_279_98 = true := by decide +kernel
theorem cq_279_99 : okQ pI pKf pStrs pThr f_279.1.cls f_279.1.name f_279.2.2.2.1 f_279.2.1 bl_279 (cvOf f_279.2.2.2.2) 2156 T_279_99 = true := by decide +kernel
theorem ct_279_100 : okT pI pKf pStrs pThr f_279.1.cls f_279.1.name f_279.2.2.2.1 f_279.2.1 bl_279 (cvOf f_279.2.2.2.2) [] [] = true := rfl
def bt_279_75 : List Nat := 1721 :: 1738 :: 1741 :: 1765 :: 1782 :: 1785 :: 1821 :: 1838 :: 1841 :: 1889 :: 1906 :: 1909 :: 1945 :: 1962 :: 1965 :: 2001 :: 2018 :: 2021 :: 2081 :: 2098 :: 2101 :: 2112 :: 2125 :: 2150 :: 2156 :: []
def tt_279_75 : List (List pEnt) := T_279_75 :: T_279_76 :: T_279_77 :: T_279_78 :: T_279_79 :: T_279_80 :: T_279_81 :: T_279_82 :: T_279_83 :: T_279_84 :: T_279_85 :: T_279_86 :: T_279_87 :: T_279_88 :: T_279_89 :: T_279_90 :: T_279_91 :: T_279_92 :: T_279_93 :: T_279_94 :: T_279_95 :: T_279_96 :: T_279_97 :: T_279_98 :: T_279_99 :: []
theorem ct_279_75 : okT pI pKf pStrs pThr f_279.1.cls f_279.1.name f_279.2.2.2.1 f_279.2.1 bl_279 (cvOf f_279.2.2.2.2) bt_279_75 tt_279_75 = true := okT_cons cq_279_75 (okT_cons cq_279_76 (okT_cons cq_279_77 (okT_cons cq_279_78 (okT_cons cq_279_79 (okT_cons cq_279_80 (okT_cons cq_279_81 (okT_cons cq_279_82 (okT_cons cq_279_83 (okT_cons cq_279_84 (okT_cons cq_279_85 (okT_cons cq_279_86 (okT_cons cq_279_87 (okT_cons cq_279_88 (okT_cons cq_279_89 (okT_cons cq_279_90 (okT_cons cq_279_91 (okT_cons cq_279_92 (okT_cons cq_279_93 (okT_cons cq_279_94 (okT_cons cq_279_95 (okT_cons cq_279_96 (okT_cons cq_279_97 (okT_cons cq_279_98 (okT_cons cq_279_99 (ct_279_100)))))))))))))))))))))))))
def bt_279_50 : List Nat := 1158 :: 1218 :: 1235 :: 1238 :: 1274 :: 1291 :: 1292 :: 1298 :: 1301 :: 1337 :: 1354 :: 1357 :: 1382 :: 1407 :: 1420 :: 1445 :: 1493 :: 1510 :: 1513 :: 1561 :: 1578 :: 1581 :: 1629 :: 1646 :: 1649 :: bt_279_75
def tt_279_50 : List (List pEnt) := T_279_50 :: T_279_51 :: T_279_52 :: T_279_53 :: T_279_54 :: T_279_55 :: T_279_56 :: T_279_57 :: T_279_58 :: T_279_59 :: T_279_60 :: T_279_61 :: T_279_62 :: T_279_63 :: T_279_64 :: T_279_65 :: T_279_66 :: T_279_67 :: T_279_68 :: T_279_69 :: T_279_70 :: T_279_71 :: T_279_72 :: T_279_73 :: T_279_74 :: tt_279_75
theorem ct_279_50 : okT pI pKf pStrs pThr f_279.1.cls f_279.1.name f_279.2.2.2.1 f_279.2.1 bl_279 (cvOf f_279.2.2.2.2) bt_279_50 tt_279_50 = true := okT_cons cq_279_50 (okT_cons cq_279_51 (okT_cons cq_279_52 (okT_cons cq_279_53 (okT_cons cq_279_54 (okT_cons cq_279_55 (okT_cons cq_279_56 (okT_cons cq_279_57 (okT_cons cq_279_58 (okT_cons cq_279_59 (okT_cons cq_279_60 (okT_cons cq_279_61 (okT_cons cq_279_62 (okT_cons cq_279_63 (okT_cons cq_279_64 (okT_cons cq_279_65 (okT_cons cq_279_66 (okT_cons cq_279_67 (okT_cons cq_279_68 (okT_cons cq_279_69 (okT_cons cq_279_70 (okT_cons cq_279_71 (okT_cons cq_279_72 (okT_cons cq_279_73 (okT_cons cq_279_74 (ct_279_75)))))))))))))))))))))))))
def bt_279_25 : List Nat := 691 :: 708 :: 711 :: 747 :: 764 :: 767 :: 815 :: 832 :: 835 :: 883 :: 900 :: 903 :: 951 :: 968 :: 969 :: 975 :: 978 :: 1014 :: 1031 :: 1034 :: 1070 :: 1087 :: 1090 :: 1138 :: 1155 :: bt_279_50
def tt_279_25 : List (List pEnt) := T_279_25 :: T_279_26 :: T_279_27 :: T_279_28 :: T_279_29 :: T_279_30 :: T_279_31 :: T_279_32 :: T_279_33 :: T_279_34 :: T_279_35 :: T_279_36 :: T_279_37 :: T_279_38 :: T_279_39 :: T_279_40 :: T_279_41 :: T_279_42 :: T_279_43 :: T_279_44 :: T_279_45 :: T_279_46 :: T_279_47 :: T_279_48 :: T_279_49 :: tt_279_50
theorem ct_279_25 : okT pI pKf pStrs pThr f_279.1.cls f_279.1.name f_279.2.2.2.1 f_279.2.1 bl_279 (cvOf f_279.2.2.2.2) bt_279_25 tt_279_25 = true := okT_cons cq_279_25 (okT_cons cq_279_26 (okT_cons cq_279_27 (okT_cons cq_279_28 (okT_cons cq_279_29 (okT_cons cq_279_30 (okT_cons cq_279_31 (okT_cons cq_279_32 (okT_cons cq_279_33 (okT_cons cq_279_34 (okT_cons cq_279_35 (okT_cons cq_279_36 (okT_cons cq_279_37 (okT_cons cq_279_38 (okT_cons cq_279_39 (okT_cons cq_279_40 (okT_cons cq_279_41 (okT_cons cq_279_42 (okT_cons cq_279_43 (okT_cons cq_279_44 (okT_cons cq_279_45 (okT_cons cq_279_46 (okT_cons cq_279_47 (okT_cons cq_279_48 (okT_cons cq_279_49 (ct_279_50)))))))))))))))))))))))))
def bt_279_0 : List Nat := 0 :: 23 :: 200 :: 273 :: 298 :: 322 :: 339 :: 342 :: 366 :: 383 :: 386 :: 399 :: 447 :: 464 :: 467 :: 505 :: 506 :: 550 :: 551 :: 567 :: 584 :: 587 :: 635 :: 652 :: 655 :: bt_279_25
def tt_279_0 : List (List pEnt) := T_279_0 :: T_279_1 :: T_279_2 :: T_279_3 :: T_279_4 :: T_279_5 :: T_279_6 :: T_279_7 :: T_279_8 :: T_279_9 :: T_279_10 :: T_279_11 :: T_279_12 :: T_279_13 :: T_279_14 :: T_279_15 :: T_279_16 :: T_279_17 :: T_279_18 :: T_279_19 :: T_279_20 :: T_279_21 :: T_279_22 :: T_279_23 :: T_279_24 :: tt_279_25
theorem ct_279_0 : okT pI pKf pStrs pThr f_279.1.cls f_279.1.name f_279.2.2.2.1 f_279.2.1 bl_279 (cvOf f_279.2.2.2.2) bt_279_0 tt_279_0 = true := okT_cons cq_279_0 (okT_cons cq_279_1 (okT_cons cq_279_2 (okT_cons cq_279_3 (okT_cons cq_279_4 (okT_cons cq_279_5 (okT_cons cq_279_6 (okT_cons cq_279_7 (okT_cons cq_279_8 (okT_cons cq_279_9 (okT_cons cq_279_10 (okT_cons cq_279_11 (okT_cons cq_279_12 (okT_cons cq_279_13 (okT_cons cq_279_14 (okT_cons cq_279_15 (okT_cons cq_279_16 (okT_cons cq_279_17 (okT_cons cq_279_18 (okT_cons cq_279_19 (okT_cons cq_279_20 (okT_cons cq_279_21 (okT_cons cq_279_22 (okT_cons cq_279_23 (okT_cons cq_279_24 (ct_279_25)))))))))))))))))))))))))
set_option maxRecDepth 100000 in
theorem bt_eq_279 : bl_279 = bt_279_0 := rfl
set_option maxRecDepth 100000 in
theorem tt_eq_279 : T_279 = tt_279_0 := rfl
theorem okpy_279 : okPy pI pKf pStrs pThr pNcs f_279 bl_279 g_279 = true := okPy_of (by decide +kernel) (by decide +kernel) (by decide +kernel) rfl (by rw [show g_279.2.2 = tt_279_0 from tt_eq_279]; exact (congrArg (fun z => okT pI pKf pStrs pThr f_279.1.cls f_279.1.name f_279.2.2.2.1 f_279.2.1 bl_279 (cvOf f_279.2.2.2.2) z tt_279_0) bt_eq_279).trans ct_279_0) (by decide +kernel)
