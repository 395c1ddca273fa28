def TT0 (Ls : Nat) : sT := [(10, Ls), (10, 8), (11, 8), (7, 13), (5, 7), (13, 160), (10, 8), (10, 8), (2, 12), (16, 8), (10, 7), (10, 7), (10, 7), (10, 7), (10, 7), (10, 7), (10, 7), (10, 7), (16, 3), (10, 3), (10, 3), (10, 3), (16, 8), (10, 4), (10, 4), (10, 4), (10, 4), (10, 4), (10, 4), (10, 4), (10, 4), (10, 3), (10, 8), (10, 8), (10, 8), (2, 12), (16, 8), (10, 7), (10, 7), (10, 7), (10, 7), (10, 7), (10, 7), (10, 7), (10, 7), (16, 3), (10, 3), (10, 3), (10, 3), (16, 8), (10, 4), (10, 4), (10, 4), (10, 4), (10, 4), (10, 4), (10, 4), (10, 4), (10, 3), (10, 8), (10, 8), (10, 8), (15, 8), (0, 12), (16, 4), (10, 3), (10, 3), (10, 3), (10, 3), (12, 4), (10, 4), (10, 4), (12, 4), (10, 8), (10, 8), (10, 8), (10, 8), (1, 3), (10, 8), (3, 9), (17, 8), (11, 8), (11, 8), (11, 8), (11, 8), (11, 8), (11, 8), (11, 8), (11, 8), (17, 9), (11, 8), (11, 8), (11, 8), (11, 8), (11, 8), (11, 8), (11, 8), (11, 8), (11, 8), (17, 9), (11, 8), (11, 8), (11, 8), (11, 8), (11, 8), (11, 8), (11, 8), (11, 8), (11, 8), (16, 9), (10, 8), (10, 8), (10, 8), (10, 8), (10, 8), (10, 8), (10, 8), (10, 8), (10, 8), (11, 8), (10, 8), (12, 8), (4, 9), (16, 8), (10, 720), (10, 720), (10, 720), (10, 720), (10, 720), (10, 720), (10, 720), (10, 720), (10, 8), (16, 2), (10, 6), (10, 6), (12, 2), (10, 8), (10, 8), (8, 74), (10, 8), (10, 8), (10, 8), (10, 8), (10, 8), (10, 8), (10, 8), (10, 4), (10, 4), (10, 4), (10, 8), (10, 8), (12, 8), (10, 8), (10, 8), (10, 8), (10, 192), (14, 160), (10, 8), (10, 8), (10, 8), (10, 8), (10, 8), (10, 8), (10, 8), (10, 3), (10, 3), (10, 3), (10, 8), (10, 8), (12, 8), (10, 8), (10, 24), (12, 2), (10, 8), (10, 4), (10, 4), (10, 8), (10, 8), (10, 8), (10, 8), (10, 8), (10, 2304), (10, 12), (10, 8), (10, 8)]
set_option maxRecDepth 10000 in
theorem TT0_len (Ls : Nat) : (TT0 Ls).length = 186 := rfl
def TT (Ls : Nat) (tl : List Nat) : sT := TT0 Ls ++ tl.flatMap (fun n => [(6, 4), (10, n), (10, n)])
def RRt : List (List (Option Nat)) := [[], [], [], [some 4, some 8, some 35, some 62, none, some 63, some 77, some 122, some 137, some 138], [some 5, none, none, none, some 6, some 7], [], [], [], [some 9, some 18, some 22, none, none, none, none, some 31, some 32, some 33, some 34], [some 10, some 11, some 12, some 13, some 14, some 15, some 16, some 17], [], [], [], [], [], [], [], [], [some 19, some 20, some 21], [], [], [], [some 23, some 24, some 25, some 26, some 27, some 28, some 29, some 30], [], [], [], [], [], [], [], [], [], [], [], [], [some 36, some 45, some 49, none, none, none, none, some 58, some 59, some 60, some 61], [some 37, some 38, some 39, some 40, some 41, some 42, some 43, some 44], [], [], [], [], [], [], [], [], [some 46, some 47, some 48], [], [], [], [some 50, some 51, some 52, some 53, some 54, some 55, some 56, some 57], [], [], [], [], [], [], [], [], [], [], [], [], [], [none, some 64, some 69, none, some 70, some 71, some 72, some 8, some 73, some 74, some 75, some 76], [some 65, some 66, some 67, some 68], [], [], [], [], [], [], [], [], [], [], [], [], [some 8, some 79, some 78], [], [some 8, none, some 80, some 89, some 99, some 109, some 119, some 120, some 121], [some 81, some 82, some 83, some 84, some 85, some 86, some 87, some 88], [], [], [], [], [], [], [], [], [some 90, some 91, some 92, some 93, some 94, some 95, some 96, some 97, some 98], [], [], [], [], [], [], [], [], [], [some 100, some 101, some 102, some 103, some 104, some 105, some 106, some 107, some 108], [], [], [], [], [], [], [], [], [], [some 110, some 111, some 112, some 113, some 114, some 115, some 116, some 117, some 118], [], [], [], [], [], [], [], [], [], [], [], [], [some 8, some 63, some 77, some 123, some 132, none, none, some 133, some 136], [some 124, some 125, some 126, some 127, some 128, some 129, some 130, some 131], [], [], [], [], [], [], [], [], [], [some 134, some 135], [], [], [], [], [], [none, some 140, some 141, some 142, some 143, some 144, some 145, some 146, none, some 147, some 148, some 149, none, some 150, some 151, some 152, some 153, none, none, none, some 154, some 155, some 156, none, some 157, none, none, none, none, some 158, none, none, none, none, none, none, some 159, some 160, some 161, some 162, some 163, some 164, some 165, some 166, some 167, some 168, some 169, some 170, some 171, none, none, none, some 172, some 173, some 174, none, none, some 175, some 176, some 177, some 178, some 179, some 180, some 181, some 182, some 183, none, none, none, none, none, some 184, some 185], [], [], [], [], [], [], [], [], [], [], [], [], [], [], [], [], [], [], [], [], [], [], [], [], [], [], [], [], [], [], [], [], [], [], [], [], [], [], [], [], [], [], [], [], [], []]
def RR (tl : List Nat) : sR := fun a k => if a < 186 then (if a = 62 then (if k < tl.length then some (186 + 3 * k) else none) else (RRt.getD a []).getD k none) else (if (a - 186) % 3 = 0 then (if k = 2 then some (a + 1) else if k = 3 then some (a + 2) else none) else none)
theorem tt_0 (Ls : Nat) (tl : List Nat) : (TT Ls tl)[0]? = some (10, Ls) := rfl
theorem tt_1 (Ls : Nat) (tl : List Nat) : (TT Ls tl)[1]? = some (10, 8) := rfl
theorem tt_2 (Ls : Nat) (tl : List Nat) : (TT Ls tl)[2]? = some (11, 8) := rfl
theorem tt_3 (Ls : Nat) (tl : List Nat) : (TT Ls tl)[3]? = some (7, 13) := rfl
theorem tt_4 (Ls : Nat) (tl : List Nat) : (TT Ls tl)[4]? = some (5, 7) := rfl
theorem tt_5 (Ls : Nat) (tl : List Nat) : (TT Ls tl)[5]? = some (13, 160) := rfl
theorem tt_6 (Ls : Nat) (tl : List Nat) : (TT Ls tl)[6]? = some (10, 8) := rfl
theorem tt_7 (Ls : Nat) (tl : List Nat) : (TT Ls tl)[7]? = some (10, 8) := rfl
theorem tt_8 (Ls : Nat) (tl : List Nat) : (TT Ls tl)[8]? = some (2, 12) := rfl
theorem tt_9 (Ls : Nat) (tl : List Nat) : (TT Ls tl)[9]? = some (16, 8) := rfl
theorem tt_10 (Ls : Nat) (tl : List Nat) : (TT Ls tl)[10]? = some (10, 7) := rfl
theorem tt_11 (Ls : Nat) (tl : List Nat) : (TT Ls tl)[11]? = some (10, 7) := rfl
theorem tt_12 (Ls : Nat) (tl : List Nat) : (TT Ls tl)[12]? = some (10, 7) := rfl
theorem tt_13 (Ls : Nat) (tl : List Nat) : (TT Ls tl)[13]? = some (10, 7) := rfl
theorem tt_14 (Ls : Nat) (tl : List Nat) : (TT Ls tl)[14]? = some (10, 7) := rfl
theorem tt_15 (Ls : Nat) (tl : List Nat) : (TT Ls tl)[15]? = some (10, 7) := rfl
theorem tt_16 (Ls : Nat) (tl : List Nat) : (TT Ls tl)[16]? = some (10, 7) := rfl
theorem tt_17 (Ls : Nat) (tl : List Nat) : (TT Ls tl)[17]? = some (10, 7) := rfl
theorem tt_18 (Ls : Nat) (tl : List Nat) : (TT Ls tl)[18]? = some (16, 3) := rfl
theorem tt_19 (Ls : Nat) (tl : List Nat) : (TT Ls tl)[19]? = some (10, 3) := rfl
theorem tt_20 (Ls : Nat) (tl : List Nat) : (TT Ls tl)[20]? = some (10, 3) := rfl
theorem tt_21 (Ls : Nat) (tl : List Nat) : (TT Ls tl)[21]? = some (10, 3) := rfl
theorem tt_22 (Ls : Nat) (tl : List Nat) : (TT Ls tl)[22]? = some (16, 8) := rfl
theorem tt_23 (Ls : Nat) (tl : List Nat) : (TT Ls tl)[23]? = some (10, 4) := rfl
theorem tt_24 (Ls : Nat) (tl : List Nat) : (TT Ls tl)[24]? = some (10, 4) := rfl
theorem tt_25 (Ls : Nat) (tl : List Nat) : (TT Ls tl)[25]? = some (10, 4) := rfl
theorem tt_26 (Ls : Nat) (tl : List Nat) : (TT Ls tl)[26]? = some (10, 4) := rfl
theorem tt_27 (Ls : Nat) (tl : List Nat) : (TT Ls tl)[27]? = some (10, 4) := rfl
theorem tt_28 (Ls : Nat) (tl : List Nat) : (TT Ls tl)[28]? = some (10, 4) := rfl
theorem tt_29 (Ls : Nat) (tl : List Nat) : (TT Ls tl)[29]? = some (10, 4) := rfl
theorem tt_30 (Ls : Nat) (tl : List Nat) : (TT Ls tl)[30]? = some (10, 4) := rfl
theorem tt_31 (Ls : Nat) (tl : List Nat) : (TT Ls tl)[31]? = some (10, 3) := rfl
theorem tt_32 (Ls : Nat) (tl : List Nat) : (TT Ls tl)[32]? = some (10, 8) := rfl
theorem tt_33 (Ls : Nat) (tl : List Nat) : (TT Ls tl)[33]? = some (10, 8) := rfl
theorem tt_34 (Ls : Nat) (tl : List Nat) : (TT Ls tl)[34]? = some (10, 8) := rfl
theorem tt_35 (Ls : Nat) (tl : List Nat) : (TT Ls tl)[35]? = some (2, 12) := rfl
theorem tt_36 (Ls : Nat) (tl : List Nat) : (TT Ls tl)[36]? = some (16, 8) := rfl
theorem tt_37 (Ls : Nat) (tl : List Nat) : (TT Ls tl)[37]? = some (10, 7) := rfl
theorem tt_38 (Ls : Nat) (tl : List Nat) : (TT Ls tl)[38]? = some (10, 7) := rfl
theorem tt_39 (Ls : Nat) (tl : List Nat) : (TT Ls tl)[39]? = some (10, 7) := rfl
theorem tt_40 (Ls : Nat) (tl : List Nat) : (TT Ls tl)[40]? = some (10, 7) := rfl
theorem tt_41 (Ls : Nat) (tl : List Nat) : (TT Ls tl)[41]? = some (10, 7) := rfl
theorem tt_42 (Ls : Nat) (tl : List Nat) : (TT Ls tl)[42]? = some (10, 7) := rfl
theorem tt_43 (Ls : Nat) (tl : List Nat) : (TT Ls tl)[43]? = some (10, 7) := rfl
theorem tt_44 (Ls : Nat) (tl : List Nat) : (TT Ls tl)[44]? = some (10, 7) := rfl
theorem tt_45 (Ls : Nat) (tl : List Nat) : (TT Ls tl)[45]? = some (16, 3) := rfl
theorem tt_46 (Ls : Nat) (tl : List Nat) : (TT Ls tl)[46]? = some (10, 3) := rfl
theorem tt_47 (Ls : Nat) (tl : List Nat) : (TT Ls tl)[47]? = some (10, 3) := rfl
theorem tt_48 (Ls : Nat) (tl : List Nat) : (TT Ls tl)[48]? = some (10, 3) := rfl
theorem tt_49 (Ls : Nat) (tl : List Nat) : (TT Ls tl)[49]? = some (16, 8) := rfl
theorem tt_50 (Ls : Nat) (tl : List Nat) : (TT Ls tl)[50]? = some (10, 4) := rfl
theorem tt_51 (Ls : Nat) (tl : List Nat) : (TT Ls tl)[51]? = some (10, 4) := rfl
theorem tt_52 (Ls : Nat) (tl : List Nat) : (TT Ls tl)[52]? = some (10, 4) := rfl
theorem tt_53 (Ls : Nat) (tl : List Nat) : (TT Ls tl)[53]? = some (10, 4) := rfl
theorem tt_54 (Ls : Nat) (tl : List Nat) : (TT Ls tl)[54]? = some (10, 4) := rfl
theorem tt_55 (Ls : Nat) (tl : List Nat) : (TT Ls tl)[55]? = some (10, 4) := rfl
theorem tt_56 (Ls : Nat) (tl : List Nat) : (TT Ls tl)[56]? = some (10, 4) := rfl
theorem tt_57 (Ls : Nat) (tl : List Nat) : (TT Ls tl)[57]? = some (10, 4) := rfl
theorem tt_58 (Ls : Nat) (tl : List Nat) : (TT Ls tl)[58]? = some (10, 3) := rfl
theorem tt_59 (Ls : Nat) (tl : List Nat) : (TT Ls tl)[59]? = some (10, 8) := rfl
theorem tt_60 (Ls : Nat) (tl : List Nat) : (TT Ls tl)[60]? = some (10, 8) := rfl
theorem tt_61 (Ls : Nat) (tl : List Nat) : (TT Ls tl)[61]? = some (10, 8) := rfl
theorem tt_62 (Ls : Nat) (tl : List Nat) : (TT Ls tl)[62]? = some (15, 8) := rfl
theorem tt_63 (Ls : Nat) (tl : List Nat) : (TT Ls tl)[63]? = some (0, 12) := rfl
theorem tt_64 (Ls : Nat) (tl : List Nat) : (TT Ls tl)[64]? = some (16, 4) := rfl
theorem tt_65 (Ls : Nat) (tl : List Nat) : (TT Ls tl)[65]? = some (10, 3) := rfl
theorem tt_66 (Ls : Nat) (tl : List Nat) : (TT Ls tl)[66]? = some (10, 3) := rfl
theorem tt_67 (Ls : Nat) (tl : List Nat) : (TT Ls tl)[67]? = some (10, 3) := rfl
theorem tt_68 (Ls : Nat) (tl : List Nat) : (TT Ls tl)[68]? = some (10, 3) := rfl
theorem tt_69 (Ls : Nat) (tl : List Nat) : (TT Ls tl)[69]? = some (12, 4) := rfl
theorem tt_70 (Ls : Nat) (tl : List Nat) : (TT Ls tl)[70]? = some (10, 4) := rfl
theorem tt_71 (Ls : Nat) (tl : List Nat) : (TT Ls tl)[71]? = some (10, 4) := rfl
theorem tt_72 (Ls : Nat) (tl : List Nat) : (TT Ls tl)[72]? = some (12, 4) := rfl
theorem tt_73 (Ls : Nat) (tl : List Nat) : (TT Ls tl)[73]? = some (10, 8) := rfl
theorem tt_74 (Ls : Nat) (tl : List Nat) : (TT Ls tl)[74]? = some (10, 8) := rfl
theorem tt_75 (Ls : Nat) (tl : List Nat) : (TT Ls tl)[75]? = some (10, 8) := rfl
theorem tt_76 (Ls : Nat) (tl : List Nat) : (TT Ls tl)[76]? = some (10, 8) := rfl
theorem tt_77 (Ls : Nat) (tl : List Nat) : (TT Ls tl)[77]? = some (1, 3) := rfl
theorem tt_78 (Ls : Nat) (tl : List Nat) : (TT Ls tl)[78]? = some (10, 8) := rfl
theorem tt_79 (Ls : Nat) (tl : List Nat) : (TT Ls tl)[79]? = some (3, 9) := rfl
theorem tt_80 (Ls : Nat) (tl : List Nat) : (TT Ls tl)[80]? = some (17, 8) := rfl
theorem tt_81 (Ls : Nat) (tl : List Nat) : (TT Ls tl)[81]? = some (11, 8) := rfl
theorem tt_82 (Ls : Nat) (tl : List Nat) : (TT Ls tl)[82]? = some (11, 8) := rfl
theorem tt_83 (Ls : Nat) (tl : List Nat) : (TT Ls tl)[83]? = some (11, 8) := rfl
theorem tt_84 (Ls : Nat) (tl : List Nat) : (TT Ls tl)[84]? = some (11, 8) := rfl
theorem tt_85 (Ls : Nat) (tl : List Nat) : (TT Ls tl)[85]? = some (11, 8) := rfl
theorem tt_86 (Ls : Nat) (tl : List Nat) : (TT Ls tl)[86]? = some (11, 8) := rfl
theorem tt_87 (Ls : Nat) (tl : List Nat) : (TT Ls tl)[87]? = some (11, 8) := rfl
theorem tt_88 (Ls : Nat) (tl : List Nat) : (TT Ls tl)[88]? = some (11, 8) := rfl
theorem tt_89 (Ls : Nat) (tl : List Nat) : (TT Ls tl)[89]? = some (17, 9) := rfl
theorem tt_90 (Ls : Nat) (tl : List Nat) : (TT Ls tl)[90]? = some (11, 8) := rfl
theorem tt_91 (Ls : Nat) (tl : List Nat) : (TT Ls tl)[91]? = some (11, 8) := rfl
theorem tt_92 (Ls : Nat) (tl : List Nat) : (TT Ls tl)[92]? = some (11, 8) := rfl
theorem tt_93 (Ls : Nat) (tl : List Nat) : (TT Ls tl)[93]? = some (11, 8) := rfl
theorem tt_94 (Ls : Nat) (tl : List Nat) : (TT Ls tl)[94]? = some (11, 8) := rfl
theorem tt_95 (Ls : Nat) (tl : List Nat) : (TT Ls tl)[95]? = some (11, 8) := rfl
theorem tt_96 (Ls : Nat) (tl : List Nat) : (TT Ls tl)[96]? = some (11, 8) := rfl
theorem tt_97 (Ls : Nat) (tl : List Nat) : (TT Ls tl)[97]? = some (11, 8) := rfl
theorem tt_98 (Ls : Nat) (tl : List Nat) : (TT Ls tl)[98]? = some (11, 8) := rfl
theorem tt_99 (Ls : Nat) (tl : List Nat) : (TT Ls tl)[99]? = some (17, 9) := rfl
theorem tt_100 (Ls : Nat) (tl : List Nat) : (TT Ls tl)[100]? = some (11, 8) := rfl
theorem tt_101 (Ls : Nat) (tl : List Nat) : (TT Ls tl)[101]? = some (11, 8) := rfl
theorem tt_102 (Ls : Nat) (tl : List Nat) : (TT Ls tl)[102]? = some (11, 8) := rfl
theorem tt_103 (Ls : Nat) (tl : List Nat) : (TT Ls tl)[103]? = some (11, 8) := rfl
theorem tt_104 (Ls : Nat) (tl : List Nat) : (TT Ls tl)[104]? = some (11, 8) := rfl
theorem tt_105 (Ls : Nat) (tl : List Nat) : (TT Ls tl)[105]? = some (11, 8) := rfl
theorem tt_106 (Ls : Nat) (tl : List Nat) : (TT Ls tl)[106]? = some (11, 8) := rfl
theorem tt_107 (Ls : Nat) (tl : List Nat) : (TT Ls tl)[107]? = some (11, 8) := rfl
theorem tt_108 (Ls : Nat) (tl : List Nat) : (TT Ls tl)[108]? = some (11, 8) := rfl
theorem tt_109 (Ls : Nat) (tl : List Nat) : (TT Ls tl)[109]? = some (16, 9) := rfl
theorem tt_110 (Ls : Nat) (tl : List Nat) : (TT Ls tl)[110]? = some (10, 8) := rfl
theorem tt_111 (Ls : Nat) (tl : List Nat) : (TT Ls tl)[111]? = some (10, 8) := rfl
theorem tt_112 (Ls : Nat) (tl : List Nat) : (TT Ls tl)[112]? = some (10, 8) := rfl
theorem tt_113 (Ls : Nat) (tl : List Nat) : (TT Ls tl)[113]? = some (10, 8) := rfl
theorem tt_114 (Ls : Nat) (tl : List Nat) : (TT Ls tl)[114]? = some (10, 8) := rfl
theorem tt_115 (Ls : Nat) (tl : List Nat) : (TT Ls tl)[115]? = some (10, 8) := rfl
theorem tt_116 (Ls : Nat) (tl : List Nat) : (TT Ls tl)[116]? = some (10, 8) := rfl
theorem tt_117 (Ls : Nat) (tl : List Nat) : (TT Ls tl)[117]? = some (10, 8) := rfl
theorem tt_118 (Ls : Nat) (tl : List Nat) : (TT Ls tl)[118]? = some (10, 8) := rfl
theorem tt_119 (Ls : Nat) (tl : List Nat) : (TT Ls tl)[119]? = some (11, 8) := rfl
theorem tt_120 (Ls : Nat) (tl : List Nat) : (TT Ls tl)[120]? = some (10, 8) := rfl
theorem tt_121 (Ls : Nat) (tl : List Nat) : (TT Ls tl)[121]? = some (12, 8) := rfl
theorem tt_122 (Ls : Nat) (tl : List Nat) : (TT Ls tl)[122]? = some (4, 9) := rfl
theorem tt_123 (Ls : Nat) (tl : List Nat) : (TT Ls tl)[123]? = some (16, 8) := rfl
theorem tt_124 (Ls : Nat) (tl : List Nat) : (TT Ls tl)[124]? = some (10, 720) := rfl
theorem tt_125 (Ls : Nat) (tl : List Nat) : (TT Ls tl)[125]? = some (10, 720) := rfl
theorem tt_126 (Ls : Nat) (tl : List Nat) : (TT Ls tl)[126]? = some (10, 720) := rfl
theorem tt_127 (Ls : Nat) (tl : List Nat) : (TT Ls tl)[127]? = some (10, 720) := rfl
theorem tt_128 (Ls : Nat) (tl : List Nat) : (TT Ls tl)[128]? = some (10, 720) := rfl
theorem tt_129 (Ls : Nat) (tl : List Nat) : (TT Ls tl)[129]? = some (10, 720) := rfl
theorem tt_130 (Ls : Nat) (tl : List Nat) : (TT Ls tl)[130]? = some (10, 720) := rfl
theorem tt_131 (Ls : Nat) (tl : List Nat) : (TT Ls tl)[131]? = some (10, 720) := rfl
theorem tt_132 (Ls : Nat) (tl : List Nat) : (TT Ls tl)[132]? = some (10, 8) := rfl
theorem tt_133 (Ls : Nat) (tl : List Nat) : (TT Ls tl)[133]? = some (16, 2) := rfl
theorem tt_134 (Ls : Nat) (tl : List Nat) : (TT Ls tl)[134]? = some (10, 6) := rfl
theorem tt_135 (Ls : Nat) (tl : List Nat) : (TT Ls tl)[135]? = some (10, 6) := rfl
theorem tt_136 (Ls : Nat) (tl : List Nat) : (TT Ls tl)[136]? = some (12, 2) := rfl
theorem tt_137 (Ls : Nat) (tl : List Nat) : (TT Ls tl)[137]? = some (10, 8) := rfl
theorem tt_138 (Ls : Nat) (tl : List Nat) : (TT Ls tl)[138]? = some (10, 8) := rfl
theorem tt_139 (Ls : Nat) (tl : List Nat) : (TT Ls tl)[139]? = some (8, 74) := rfl
theorem tt_140 (Ls : Nat) (tl : List Nat) : (TT Ls tl)[140]? = some (10, 8) := rfl
theorem tt_141 (Ls : Nat) (tl : List Nat) : (TT Ls tl)[141]? = some (10, 8) := rfl
theorem tt_142 (Ls : Nat) (tl : List Nat) : (TT Ls tl)[142]? = some (10, 8) := rfl
theorem tt_143 (Ls : Nat) (tl : List Nat) : (TT Ls tl)[143]? = some (10, 8) := rfl
theorem tt_144 (Ls : Nat) (tl : List Nat) : (TT Ls tl)[144]? = some (10, 8) := rfl
theorem tt_145 (Ls : Nat) (tl : List Nat) : (TT Ls tl)[145]? = some (10, 8) := rfl
theorem tt_146 (Ls : Nat) (tl : List Nat) : (TT Ls tl)[146]? = some (10, 8) := rfl
theorem tt_147 (Ls : Nat) (tl : List Nat) : (TT Ls tl)[147]? = some (10, 4) := rfl
theorem tt_148 (Ls : Nat) (tl : List Nat) : (TT Ls tl)[148]? = some (10, 4) := rfl
theorem tt_149 (Ls : Nat) (tl : List Nat) : (TT Ls tl)[149]? = some (10, 4) := rfl
theorem tt_150 (Ls : Nat) (tl : List Nat) : (TT Ls tl)[150]? = some (10, 8) := rfl
theorem tt_151 (Ls : Nat) (tl : List Nat) : (TT Ls tl)[151]? = some (10, 8) := rfl
theorem tt_152 (Ls : Nat) (tl : List Nat) : (TT Ls tl)[152]? = some (12, 8) := rfl
theorem tt_153 (Ls : Nat) (tl : List Nat) : (TT Ls tl)[153]? = some (10, 8) := rfl
theorem tt_154 (Ls : Nat) (tl : List Nat) : (TT Ls tl)[154]? = some (10, 8) := rfl
theorem tt_155 (Ls : Nat) (tl : List Nat) : (TT Ls tl)[155]? = some (10, 8) := rfl
theorem tt_156 (Ls : Nat) (tl : List Nat) : (TT Ls tl)[156]? = some (10, 192) := rfl
theorem tt_157 (Ls : Nat) (tl : List Nat) : (TT Ls tl)[157]? = some (14, 160) := rfl
theorem tt_158 (Ls : Nat) (tl : List Nat) : (TT Ls tl)[158]? = some (10, 8) := rfl
theorem tt_159 (Ls : Nat) (tl : List Nat) : (TT Ls tl)[159]? = some (10, 8) := rfl
theorem tt_160 (Ls : Nat) (tl : List Nat) : (TT Ls tl)[160]? = some (10, 8) := rfl
theorem tt_161 (Ls : Nat) (tl : List Nat) : (TT Ls tl)[161]? = some (10, 8) := rfl
theorem tt_162 (Ls : Nat) (tl : List Nat) : (TT Ls tl)[162]? = some (10, 8) := rfl
theorem tt_163 (Ls : Nat) (tl : List Nat) : (TT Ls tl)[163]? = some (10, 8) := rfl
theorem tt_164 (Ls : Nat) (tl : List Nat) : (TT Ls tl)[164]? = some (10, 8) := rfl
theorem tt_165 (Ls : Nat) (tl : List Nat) : (TT Ls tl)[165]? = some (10, 3) := rfl
theorem tt_166 (Ls : Nat) (tl : List Nat) : (TT Ls tl)[166]? = some (10, 3) := rfl
theorem tt_167 (Ls : Nat) (tl : List Nat) : (TT Ls tl)[167]? = some (10, 3) := rfl
theorem tt_168 (Ls : Nat) (tl : List Nat) : (TT Ls tl)[168]? = some (10, 8) := rfl
theorem tt_169 (Ls : Nat) (tl : List Nat) : (TT Ls tl)[169]? = some (10, 8) := rfl
theorem tt_170 (Ls : Nat) (tl : List Nat) : (TT Ls tl)[170]? = some (12, 8) := rfl
theorem tt_171 (Ls : Nat) (tl : List Nat) : (TT Ls tl)[171]? = some (10, 8) := rfl
theorem tt_172 (Ls : Nat) (tl : List Nat) : (TT Ls tl)[172]? = some (10, 24) := rfl
theorem tt_173 (Ls : Nat) (tl : List Nat) : (TT Ls tl)[173]? = some (12, 2) := rfl
theorem tt_174 (Ls : Nat) (tl : List Nat) : (TT Ls tl)[174]? = some (10, 8) := rfl
theorem tt_175 (Ls : Nat) (tl : List Nat) : (TT Ls tl)[175]? = some (10, 4) := rfl
theorem tt_176 (Ls : Nat) (tl : List Nat) : (TT Ls tl)[176]? = some (10, 4) := rfl
theorem tt_177 (Ls : Nat) (tl : List Nat) : (TT Ls tl)[177]? = some (10, 8) := rfl
theorem tt_178 (Ls : Nat) (tl : List Nat) : (TT Ls tl)[178]? = some (10, 8) := rfl
theorem tt_179 (Ls : Nat) (tl : List Nat) : (TT Ls tl)[179]? = some (10, 8) := rfl
theorem tt_180 (Ls : Nat) (tl : List Nat) : (TT Ls tl)[180]? = some (10, 8) := rfl
theorem tt_181 (Ls : Nat) (tl : List Nat) : (TT Ls tl)[181]? = some (10, 8) := rfl
theorem tt_182 (Ls : Nat) (tl : List Nat) : (TT Ls tl)[182]? = some (10, 2304) := rfl
theorem tt_183 (Ls : Nat) (tl : List Nat) : (TT Ls tl)[183]? = some (10, 12) := rfl
theorem tt_184 (Ls : Nat) (tl : List Nat) : (TT Ls tl)[184]? = some (10, 8) := rfl
theorem tt_185 (Ls : Nat) (tl : List Nat) : (TT Ls tl)[185]? = some (10, 8) := rfl
theorem rr_3_0 (tl : List Nat) : RR tl 3 0 = some 4 := rfl
theorem rr_3_1 (tl : List Nat) : RR tl 3 1 = some 8 := rfl
theorem rr_3_2 (tl : List Nat) : RR tl 3 2 = some 35 := rfl
theorem rr_3_3 (tl : List Nat) : RR tl 3 3 = some 62 := rfl
theorem rr_3_5 (tl : List Nat) : RR tl 3 5 = some 63 := rfl
theorem rr_3_6 (tl : List Nat) : RR tl 3 6 = some 77 := rfl
theorem rr_3_7 (tl : List Nat) : RR tl 3 7 = some 122 := rfl
theorem rr_3_8 (tl : List Nat) : RR tl 3 8 = some 137 := rfl
theorem rr_3_9 (tl : List Nat) : RR tl 3 9 = some 138 := rfl
theorem rr_4_0 (tl : List Nat) : RR tl 4 0 = some 5 := rfl
theorem rr_4_4 (tl : List Nat) : RR tl 4 4 = some 6 := rfl
theorem rr_4_5 (tl : List Nat) : RR tl 4 5 = some 7 := rfl
theorem rr_8_0 (tl : List Nat) : RR tl 8 0 = some 9 := rfl
theorem rr_8_1 (tl : List Nat) : RR tl 8 1 = some 18 := rfl
theorem rr_8_2 (tl : List Nat) : RR tl 8 2 = some 22 := rfl
theorem rr_8_7 (tl : List Nat) : RR tl 8 7 = some 31 := rfl
theorem rr_8_8 (tl : List Nat) : RR tl 8 8 = some 32 := rfl
theorem rr_8_9 (tl : List Nat) : RR tl 8 9 = some 33 := rfl
theorem rr_8_10 (tl : List Nat) : RR tl 8 10 = some 34 := rfl
theorem rr_35_0 (tl : List Nat) : RR tl 35 0 = some 36 := rfl
theorem rr_35_1 (tl : List Nat) : RR tl 35 1 = some 45 := rfl
theorem rr_35_2 (tl : List Nat) : RR tl 35 2 = some 49 := rfl
theorem rr_35_7 (tl : List Nat) : RR tl 35 7 = some 58 := rfl
theorem rr_35_8 (tl : List Nat) : RR tl 35 8 = some 59 := rfl
theorem rr_35_9 (tl : List Nat) : RR tl 35 9 = some 60 := rfl
theorem rr_35_10 (tl : List Nat) : RR tl 35 10 = some 61 := rfl
theorem rr_63_1 (tl : List Nat) : RR tl 63 1 = some 64 := rfl
theorem rr_63_2 (tl : List Nat) : RR tl 63 2 = some 69 := rfl
theorem rr_63_4 (tl : List Nat) : RR tl 63 4 = some 70 := rfl
theorem rr_63_5 (tl : List Nat) : RR tl 63 5 = some 71 := rfl
theorem rr_63_6 (tl : List Nat) : RR tl 63 6 = some 72 := rfl
theorem rr_63_7 (tl : List Nat) : RR tl 63 7 = some 8 := rfl
theorem rr_63_8 (tl : List Nat) : RR tl 63 8 = some 73 := rfl
theorem rr_63_9 (tl : List Nat) : RR tl 63 9 = some 74 := rfl
theorem rr_63_10 (tl : List Nat) : RR tl 63 10 = some 75 := rfl
theorem rr_63_11 (tl : List Nat) : RR tl 63 11 = some 76 := rfl
theorem rr_77_0 (tl : List Nat) : RR tl 77 0 = some 8 := rfl
theorem rr_77_1 (tl : List Nat) : RR tl 77 1 = some 79 := rfl
theorem rr_77_2 (tl : List Nat) : RR tl 77 2 = some 78 := rfl
theorem rr_79_0 (tl : List Nat) : RR tl 79 0 = some 8 := rfl
theorem rr_79_2 (tl : List Nat) : RR tl 79 2 = some 80 := rfl
theorem rr_79_3 (tl : List Nat) : RR tl 79 3 = some 89 := rfl
theorem rr_79_4 (tl : List Nat) : RR tl 79 4 = some 99 := rfl
theorem rr_79_5 (tl : List Nat) : RR tl 79 5 = some 109 := rfl
theorem rr_79_6 (tl : List Nat) : RR tl 79 6 = some 119 := rfl
theorem rr_79_7 (tl : List Nat) : RR tl 79 7 = some 120 := rfl
theorem rr_79_8 (tl : List Nat) : RR tl 79 8 = some 121 := rfl
theorem rr_122_0 (tl : List Nat) : RR tl 122 0 = some 8 := rfl
theorem rr_122_1 (tl : List Nat) : RR tl 122 1 = some 63 := rfl
theorem rr_122_2 (tl : List Nat) : RR tl 122 2 = some 77 := rfl
theorem rr_122_3 (tl : List Nat) : RR tl 122 3 = some 123 := rfl
theorem rr_122_4 (tl : List Nat) : RR tl 122 4 = some 132 := rfl
theorem rr_122_7 (tl : List Nat) : RR tl 122 7 = some 133 := rfl
theorem rr_122_8 (tl : List Nat) : RR tl 122 8 = some 136 := rfl
theorem rr_139_1 (tl : List Nat) : RR tl 139 1 = some 140 := rfl
theorem rr_139_2 (tl : List Nat) : RR tl 139 2 = some 141 := rfl
theorem rr_139_3 (tl : List Nat) : RR tl 139 3 = some 142 := rfl
theorem rr_139_4 (tl : List Nat) : RR tl 139 4 = some 143 := rfl
theorem rr_139_5 (tl : List Nat) : RR tl 139 5 = some 144 := rfl
theorem rr_139_6 (tl : List Nat) : RR tl 139 6 = some 145 := rfl
theorem rr_139_7 (tl : List Nat) : RR tl 139 7 = some 146 := rfl
theorem rr_139_9 (tl : List Nat) : RR tl 139 9 = some 147 := rfl
theorem rr_139_10 (tl : List Nat) : RR tl 139 10 = some 148 := rfl
theorem rr_139_11 (tl : List Nat) : RR tl 139 11 = some 149 := rfl
theorem rr_139_13 (tl : List Nat) : RR tl 139 13 = some 150 := rfl
theorem rr_139_14 (tl : List Nat) : RR tl 139 14 = some 151 := rfl
theorem rr_139_15 (tl : List Nat) : RR tl 139 15 = some 152 := rfl
theorem rr_139_16 (tl : List Nat) : RR tl 139 16 = some 153 := rfl
theorem rr_139_20 (tl : List Nat) : RR tl 139 20 = some 154 := rfl
theorem rr_139_21 (tl : List Nat) : RR tl 139 21 = some 155 := rfl
theorem rr_139_22 (tl : List Nat) : RR tl 139 22 = some 156 := rfl
theorem rr_139_24 (tl : List Nat) : RR tl 139 24 = some 157 := rfl
theorem rr_139_29 (tl : List Nat) : RR tl 139 29 = some 158 := rfl
theorem rr_139_36 (tl : List Nat) : RR tl 139 36 = some 159 := rfl
theorem rr_139_37 (tl : List Nat) : RR tl 139 37 = some 160 := rfl
theorem rr_139_38 (tl : List Nat) : RR tl 139 38 = some 161 := rfl
theorem rr_139_39 (tl : List Nat) : RR tl 139 39 = some 162 := rfl
theorem rr_139_40 (tl : List Nat) : RR tl 139 40 = some 163 := rfl
theorem rr_139_41 (tl : List Nat) : RR tl 139 41 = some 164 := rfl
theorem rr_139_42 (tl : List Nat) : RR tl 139 42 = some 165 := rfl
theorem rr_139_43 (tl : List Nat) : RR tl 139 43 = some 166 := rfl
theorem rr_139_44 (tl : List Nat) : RR tl 139 44 = some 167 := rfl
theorem rr_139_45 (tl : List Nat) : RR tl 139 45 = some 168 := rfl
theorem rr_139_46 (tl : List Nat) : RR tl 139 46 = some 169 := rfl
theorem rr_139_47 (tl : List Nat) : RR tl 139 47 = some 170 := rfl
theorem rr_139_48 (tl : List Nat) : RR tl 139 48 = some 171 := rfl
theorem rr_139_52 (tl : List Nat) : RR tl 139 52 = some 172 := rfl
theorem rr_139_53 (tl : List Nat) : RR tl 139 53 = some 173 := rfl
theorem rr_139_54 (tl : List Nat) : RR tl 139 54 = some 174 := rfl
theorem rr_139_57 (tl : List Nat) : RR tl 139 57 = some 175 := rfl
theorem rr_139_58 (tl : List Nat) : RR tl 139 58 = some 176 := rfl
theorem rr_139_59 (tl : List Nat) : RR tl 139 59 = some 177 := rfl
theorem rr_139_60 (tl : List Nat) : RR tl 139 60 = some 178 := rfl
theorem rr_139_61 (tl : List Nat) : RR tl 139 61 = some 179 := rfl
theorem rr_139_62 (tl : List Nat) : RR tl 139 62 = some 180 := rfl
theorem rr_139_63 (tl : List Nat) : RR tl 139 63 = some 181 := rfl
theorem rr_139_64 (tl : List Nat) : RR tl 139 64 = some 182 := rfl
theorem rr_139_65 (tl : List Nat) : RR tl 139 65 = some 183 := rfl
theorem rr_139_71 (tl : List Nat) : RR tl 139 71 = some 184 := rfl
theorem rr_139_72 (tl : List Nat) : RR tl 139 72 = some 185 := rfl
theorem rr2_9 (tl : List Nat) {i : Nat} (h : i < 8) : RR tl 9 i = some (10 + i) := (show ∀ i, i < 8 → RR [] 9 i = some (10 + i) by decide +kernel) i h
theorem tt2_9 (Ls : Nat) (tl : List Nat) {i : Nat} (h : i < 8) : (TT Ls tl)[10 + i]? = some (10, 7) := match i, h with
  | 0, _ => rfl
  | 1, _ => rfl
  | 2, _ => rfl
  | 3, _ => rfl
  | 4, _ => rfl
  | 5, _ => rfl
  | 6, _ => rfl
  | 7, _ => rfl
  | q + 8, h => absurd h (by omega)
theorem rr2_18 (tl : List Nat) {i : Nat} (h : i < 3) : RR tl 18 i = some (19 + i) := (show ∀ i, i < 3 → RR [] 18 i = some (19 + i) by decide +kernel) i h
theorem tt2_18 (Ls : Nat) (tl : List Nat) {i : Nat} (h : i < 3) : (TT Ls tl)[19 + i]? = some (10, 3) := match i, h with
  | 0, _ => rfl
  | 1, _ => rfl
  | 2, _ => rfl
  | q + 3, h => absurd h (by omega)
theorem rr2_22 (tl : List Nat) {i : Nat} (h : i < 8) : RR tl 22 i = some (23 + i) := (show ∀ i, i < 8 → RR [] 22 i = some (23 + i) by decide +kernel) i h
theorem tt2_22 (Ls : Nat) (tl : List Nat) {i : Nat} (h : i < 8) : (TT Ls tl)[23 + i]? = some (10, 4) := match i, h with
  | 0, _ => rfl
  | 1, _ => rfl
  | 2, _ => rfl
  | 3, _ => rfl
  | 4, _ => rfl
  | 5, _ => rfl
  | 6, _ => rfl
  | 7, _ => rfl
  | q + 8, h => absurd h (by omega)
theorem rr2_36 (tl : List Nat) {i : Nat} (h : i < 8) : RR tl 36 i = some (37 + i) := (show ∀ i, i < 8 → RR [] 36 i = some (37 + i) by decide +kernel) i h
theorem tt2_36 (Ls : Nat) (tl : List Nat) {i : Nat} (h : i < 8) : (TT Ls tl)[37 + i]? = some (10, 7) := match i, h with
  | 0, _ => rfl
  | 1, _ => rfl
  | 2, _ => rfl
  | 3, _ => rfl
  | 4, _ => rfl
  | 5, _ => rfl
  | 6, _ => rfl
  | 7, _ => rfl
  | q + 8, h => absurd h (by omega)
theorem rr2_45 (tl : List Nat) {i : Nat} (h : i < 3) : RR tl 45 i = some (46 + i) := (show ∀ i, i < 3 → RR [] 45 i = some (46 + i) by decide +kernel) i h
theorem tt2_45 (Ls : Nat) (tl : List Nat) {i : Nat} (h : i < 3) : (TT Ls tl)[46 + i]? = some (10, 3) := match i, h with
  | 0, _ => rfl
  | 1, _ => rfl
  | 2, _ => rfl
  | q + 3, h => absurd h (by omega)
theorem rr2_49 (tl : List Nat) {i : Nat} (h : i < 8) : RR tl 49 i = some (50 + i) := (show ∀ i, i < 8 → RR [] 49 i = some (50 + i) by decide +kernel) i h
theorem tt2_49 (Ls : Nat) (tl : List Nat) {i : Nat} (h : i < 8) : (TT Ls tl)[50 + i]? = some (10, 4) := match i, h with
  | 0, _ => rfl
  | 1, _ => rfl
  | 2, _ => rfl
  | 3, _ => rfl
  | 4, _ => rfl
  | 5, _ => rfl
  | 6, _ => rfl
  | 7, _ => rfl
  | q + 8, h => absurd h (by omega)
theorem rr2_64 (tl : List Nat) {i : Nat} (h : i < 4) : RR tl 64 i = some (65 + i) := (show ∀ i, i < 4 → RR [] 64 i = some (65 + i) by decide +kernel) i h
theorem tt2_64 (Ls : Nat) (tl : List Nat) {i : Nat} (h : i < 4) : (TT Ls tl)[65 + i]? = some (10, 3) := match i, h with
  | 0, _ => rfl
  | 1, _ => rfl
  | 2, _ => rfl
  | 3, _ => rfl
  | q + 4, h => absurd h (by omega)
theorem rr2_80 (tl : List Nat) {i : Nat} (h : i < 8) : RR tl 80 i = some (81 + i) := (show ∀ i, i < 8 → RR [] 80 i = some (81 + i) by decide +kernel) i h
theorem tt2_80 (Ls : Nat) (tl : List Nat) {i : Nat} (h : i < 8) : (TT Ls tl)[81 + i]? = some (11, 8) := match i, h with
  | 0, _ => rfl
  | 1, _ => rfl
  | 2, _ => rfl
  | 3, _ => rfl
  | 4, _ => rfl
  | 5, _ => rfl
  | 6, _ => rfl
  | 7, _ => rfl
  | q + 8, h => absurd h (by omega)
theorem rr2_89 (tl : List Nat) {i : Nat} (h : i < 9) : RR tl 89 i = some (90 + i) := (show ∀ i, i < 9 → RR [] 89 i = some (90 + i) by decide +kernel) i h
theorem tt2_89 (Ls : Nat) (tl : List Nat) {i : Nat} (h : i < 9) : (TT Ls tl)[90 + i]? = some (11, 8) := match i, h with
  | 0, _ => rfl
  | 1, _ => rfl
  | 2, _ => rfl
  | 3, _ => rfl
  | 4, _ => rfl
  | 5, _ => rfl
  | 6, _ => rfl
  | 7, _ => rfl
  | 8, _ => rfl
  | q + 9, h => absurd h (by omega)
theorem rr2_99 (tl : List Nat) {i : Nat} (h : i < 9) : RR tl 99 i = some (100 + i) := (show ∀ i, i < 9 → RR [] 99 i = some (100 + i) by decide +kernel) i h
theorem tt2_99 (Ls : Nat) (tl : List Nat) {i : Nat} (h : i < 9) : (TT Ls tl)[100 + i]? = some (11, 8) := match i, h with
  | 0, _ => rfl
  | 1, _ => rfl
  | 2, _ => rfl
  | 3, _ => rfl
  | 4, _ => rfl
  | 5, _ => rfl
  | 6, _ => rfl
  | 7, _ => rfl
  | 8, _ => rfl
  | q + 9, h => absurd h (by omega)
theorem rr2_109 (tl : List Nat) {i : Nat} (h : i < 9) : RR tl 109 i = some (110 + i) := (show ∀ i, i < 9 → RR [] 109 i = some (110 + i) by decide +kernel) i h
theorem tt2_109 (Ls : Nat) (tl : List Nat) {i : Nat} (h : i < 9) : (TT Ls tl)[110 + i]? = some (10, 8) := match i, h with
  | 0, _ => rfl
  | 1, _ => rfl
  | 2, _ => rfl
  | 3, _ => rfl
  | 4, _ => rfl
  | 5, _ => rfl
  | 6, _ => rfl
  | 7, _ => rfl
  | 8, _ => rfl
  | q + 9, h => absurd h (by omega)
theorem rr2_123 (tl : List Nat) {i : Nat} (h : i < 8) : RR tl 123 i = some (124 + i) := (show ∀ i, i < 8 → RR [] 123 i = some (124 + i) by decide +kernel) i h
theorem tt2_123 (Ls : Nat) (tl : List Nat) {i : Nat} (h : i < 8) : (TT Ls tl)[124 + i]? = some (10, 720) := match i, h with
  | 0, _ => rfl
  | 1, _ => rfl
  | 2, _ => rfl
  | 3, _ => rfl
  | 4, _ => rfl
  | 5, _ => rfl
  | 6, _ => rfl
  | 7, _ => rfl
  | q + 8, h => absurd h (by omega)
theorem rr2_133 (tl : List Nat) {i : Nat} (h : i < 2) : RR tl 133 i = some (134 + i) := (show ∀ i, i < 2 → RR [] 133 i = some (134 + i) by decide +kernel) i h
theorem tt2_133 (Ls : Nat) (tl : List Nat) {i : Nat} (h : i < 2) : (TT Ls tl)[134 + i]? = some (10, 6) := match i, h with
  | 0, _ => rfl
  | 1, _ => rfl
  | q + 2, h => absurd h (by omega)
theorem TT_len (Ls : Nat) (tl : List Nat) : (TT Ls tl).length = 186 + 3 * tl.length := by
  unfold TT
  rw [List.length_append, TT0_len]
  have : ∀ l : List Nat, (l.flatMap (fun n => [((6 : Nat), (4 : Nat)), (10, n), (10, n)])).length = 3 * l.length := by
    intro l
    induction l with
    | nil => rfl
    | cons a l ih => rw [List.flatMap_cons, List.length_append, ih, List.length_cons]; simp; omega
  rw [this]
theorem flat_get : ∀ (tl : List Nat) (q j n : Nat), tl[q]? = some n → j < 3 → (tl.flatMap (fun n => [((6 : Nat), (4 : Nat)), (10, n), (10, n)]))[3 * q + j]? = [((6 : Nat), (4 : Nat)), (10, n), (10, n)][j]?
  | [], q, j, n, h, _ => by simp at h
  | a :: l, 0, j, n, h, hj => by
    simp at h
    subst h
    rw [List.flatMap_cons, List.getElem?_append_left (by simp; omega), Nat.mul_zero, Nat.zero_add]
  | a :: l, q + 1, j, n, h, hj => by
    rw [List.getElem?_cons_succ] at h
    rw [List.flatMap_cons, List.getElem?_append_right (by simp; omega)]
    have e : 3 * (q + 1) + j - [((6 : Nat), (4 : Nat)), (10, a), (10, a)].length = 3 * q + j := by simp; omega
    rw [e]
    exact flat_get l q j n h hj
theorem tt_rule {Ls : Nat} {tl : List Nat} {q j n : Nat} (h : tl[q]? = some n) (hj : j < 3) : (TT Ls tl)[186 + 3 * q + j]? = [((6 : Nat), (4 : Nat)), (10, n), (10, n)][j]? := by
  unfold TT
  rw [List.getElem?_append_right (by rw [TT0_len]; omega)]
  have e : 186 + 3 * q + j - (TT0 Ls).length = 3 * q + j := by rw [TT0_len]; omega
  rw [e]
  exact flat_get tl q j n h hj
theorem ttr_0 {Ls : Nat} {tl : List Nat} {q n : Nat} (h : tl[q]? = some n) : (TT Ls tl)[186 + 3 * q]? = some (6, 4) := tt_rule (j := 0) h (by omega)
theorem ttr_1 {Ls : Nat} {tl : List Nat} {q n : Nat} (h : tl[q]? = some n) : (TT Ls tl)[186 + 3 * q + 1]? = some (10, n) := tt_rule (j := 1) h (by omega)
theorem ttr_2 {Ls : Nat} {tl : List Nat} {q n : Nat} (h : tl[q]? = some n) : (TT Ls tl)[186 + 3 * q + 2]? = some (10, n) := tt_rule (j := 2) h (by omega)
theorem rrr_62 {tl : List Nat} {q : Nat} (h : q < tl.length) : RR tl 62 q = some (186 + 3 * q) := by
  show (if 62 < 186 then (if 62 = 62 then (if q < tl.length then some (186 + 3 * q) else none) else _) else _) = _
  rw [if_pos (by omega), if_pos rfl, if_pos h]
theorem rrr_2 {tl : List Nat} (q : Nat) : RR tl (186 + 3 * q) 2 = some (186 + 3 * q + 1) := by
  unfold RR
  rw [if_neg (by omega), if_pos (by omega)]
  rfl
theorem rrr_3 {tl : List Nat} (q : Nat) : RR tl (186 + 3 * q) 3 = some (186 + 3 * q + 2) := by
  unfold RR
  rw [if_neg (by omega), if_pos (by omega)]
  rfl

theorem th_0 (Ls : Nat) (tl : List Nat) {hb : Nat} (hh : hb = 8 ∨ hb = 35) : (TT Ls tl)[hb]? = some (2, 12) := by rcases hh with rfl | rfl <;> rfl
theorem th_1 (Ls : Nat) (tl : List Nat) {hb : Nat} (hh : hb = 8 ∨ hb = 35) : (TT Ls tl)[hb + 1]? = some (16, 8) := by rcases hh with rfl | rfl <;> rfl
theorem th2_1 (Ls : Nat) (tl : List Nat) {hb i : Nat} (hh : hb = 8 ∨ hb = 35) (h : i < 8) : (TT Ls tl)[hb + 2 + i]? = some (10, 7) := by
  rcases hh with rfl | rfl
  · exact tt2_9 Ls tl h
  · exact tt2_36 Ls tl h
theorem rh2_1 (tl : List Nat) {hb i : Nat} (hh : hb = 8 ∨ hb = 35) (h : i < 8) : RR tl (hb + 1) i = some (hb + 2 + i) := by
  rcases hh with rfl | rfl
  · exact rr2_9 tl h
  · exact rr2_36 tl h
theorem th_2 (Ls : Nat) (tl : List Nat) {hb : Nat} (hh : hb = 8 ∨ hb = 35) : (TT Ls tl)[hb + 2]? = some (10, 7) := by rcases hh with rfl | rfl <;> rfl
theorem th_3 (Ls : Nat) (tl : List Nat) {hb : Nat} (hh : hb = 8 ∨ hb = 35) : (TT Ls tl)[hb + 3]? = some (10, 7) := by rcases hh with rfl | rfl <;> rfl
theorem th_4 (Ls : Nat) (tl : List Nat) {hb : Nat} (hh : hb = 8 ∨ hb = 35) : (TT Ls tl)[hb + 4]? = some (10, 7) := by rcases hh with rfl | rfl <;> rfl
theorem th_5 (Ls : Nat) (tl : List Nat) {hb : Nat} (hh : hb = 8 ∨ hb = 35) : (TT Ls tl)[hb + 5]? = some (10, 7) := by rcases hh with rfl | rfl <;> rfl
theorem th_6 (Ls : Nat) (tl : List Nat) {hb : Nat} (hh : hb = 8 ∨ hb = 35) : (TT Ls tl)[hb + 6]? = some (10, 7) := by rcases hh with rfl | rfl <;> rfl
theorem th_7 (Ls : Nat) (tl : List Nat) {hb : Nat} (hh : hb = 8 ∨ hb = 35) : (TT Ls tl)[hb + 7]? = some (10, 7) := by rcases hh with rfl | rfl <;> rfl
theorem th_8 (Ls : Nat) (tl : List Nat) {hb : Nat} (hh : hb = 8 ∨ hb = 35) : (TT Ls tl)[hb + 8]? = some (10, 7) := by rcases hh with rfl | rfl <;> rfl
theorem th_9 (Ls : Nat) (tl : List Nat) {hb : Nat} (hh : hb = 8 ∨ hb = 35) : (TT Ls tl)[hb + 9]? = some (10, 7) := by rcases hh with rfl | rfl <;> rfl
theorem th_10 (Ls : Nat) (tl : List Nat) {hb : Nat} (hh : hb = 8 ∨ hb = 35) : (TT Ls tl)[hb + 10]? = some (16, 3) := by rcases hh with rfl | rfl <;> rfl
theorem th2_10 (Ls : Nat) (tl : List Nat) {hb i : Nat} (hh : hb = 8 ∨ hb = 35) (h : i < 3) : (TT Ls tl)[hb + 11 + i]? = some (10, 3) := by
  rcases hh with rfl | rfl
  · exact tt2_18 Ls tl h
  · exact tt2_45 Ls tl h
theorem rh2_10 (tl : List Nat) {hb i : Nat} (hh : hb = 8 ∨ hb = 35) (h : i < 3) : RR tl (hb + 10) i = some (hb + 11 + i) := by
  rcases hh with rfl | rfl
  · exact rr2_18 tl h
  · exact rr2_45 tl h
theorem th_11 (Ls : Nat) (tl : List Nat) {hb : Nat} (hh : hb = 8 ∨ hb = 35) : (TT Ls tl)[hb + 11]? = some (10, 3) := by rcases hh with rfl | rfl <;> rfl
theorem th_12 (Ls : Nat) (tl : List Nat) {hb : Nat} (hh : hb = 8 ∨ hb = 35) : (TT Ls tl)[hb + 12]? = some (10, 3) := by rcases hh with rfl | rfl <;> rfl
theorem th_13 (Ls : Nat) (tl : List Nat) {hb : Nat} (hh : hb = 8 ∨ hb = 35) : (TT Ls tl)[hb + 13]? = some (10, 3) := by rcases hh with rfl | rfl <;> rfl
theorem th_14 (Ls : Nat) (tl : List Nat) {hb : Nat} (hh : hb = 8 ∨ hb = 35) : (TT Ls tl)[hb + 14]? = some (16, 8) := by rcases hh with rfl | rfl <;> rfl
theorem th2_14 (Ls : Nat) (tl : List Nat) {hb i : Nat} (hh : hb = 8 ∨ hb = 35) (h : i < 8) : (TT Ls tl)[hb + 15 + i]? = some (10, 4) := by
  rcases hh with rfl | rfl
  · exact tt2_22 Ls tl h
  · exact tt2_49 Ls tl h
theorem rh2_14 (tl : List Nat) {hb i : Nat} (hh : hb = 8 ∨ hb = 35) (h : i < 8) : RR tl (hb + 14) i = some (hb + 15 + i) := by
  rcases hh with rfl | rfl
  · exact rr2_22 tl h
  · exact rr2_49 tl h
theorem th_15 (Ls : Nat) (tl : List Nat) {hb : Nat} (hh : hb = 8 ∨ hb = 35) : (TT Ls tl)[hb + 15]? = some (10, 4) := by rcases hh with rfl | rfl <;> rfl
theorem th_16 (Ls : Nat) (tl : List Nat) {hb : Nat} (hh : hb = 8 ∨ hb = 35) : (TT Ls tl)[hb + 16]? = some (10, 4) := by rcases hh with rfl | rfl <;> rfl
theorem th_17 (Ls : Nat) (tl : List Nat) {hb : Nat} (hh : hb = 8 ∨ hb = 35) : (TT Ls tl)[hb + 17]? = some (10, 4) := by rcases hh with rfl | rfl <;> rfl
theorem th_18 (Ls : Nat) (tl : List Nat) {hb : Nat} (hh : hb = 8 ∨ hb = 35) : (TT Ls tl)[hb + 18]? = some (10, 4) := by rcases hh with rfl | rfl <;> rfl
theorem th_19 (Ls : Nat) (tl : List Nat) {hb : Nat} (hh : hb = 8 ∨ hb = 35) : (TT Ls tl)[hb + 19]? = some (10, 4) := by rcases hh with rfl | rfl <;> rfl
theorem th_20 (Ls : Nat) (tl : List Nat) {hb : Nat} (hh : hb = 8 ∨ hb = 35) : (TT Ls tl)[hb + 20]? = some (10, 4) := by rcases hh with rfl | rfl <;> rfl
theorem th_21 (Ls : Nat) (tl : List Nat) {hb : Nat} (hh : hb = 8 ∨ hb = 35) : (TT Ls tl)[hb + 21]? = some (10, 4) := by rcases hh with rfl | rfl <;> rfl
theorem th_22 (Ls : Nat) (tl : List Nat) {hb : Nat} (hh : hb = 8 ∨ hb = 35) : (TT Ls tl)[hb + 22]? = some (10, 4) := by rcases hh with rfl | rfl <;> rfl
theorem th_23 (Ls : Nat) (tl : List Nat) {hb : Nat} (hh : hb = 8 ∨ hb = 35) : (TT Ls tl)[hb + 23]? = some (10, 3) := by rcases hh with rfl | rfl <;> rfl
theorem th_24 (Ls : Nat) (tl : List Nat) {hb : Nat} (hh : hb = 8 ∨ hb = 35) : (TT Ls tl)[hb + 24]? = some (10, 8) := by rcases hh with rfl | rfl <;> rfl
theorem th_25 (Ls : Nat) (tl : List Nat) {hb : Nat} (hh : hb = 8 ∨ hb = 35) : (TT Ls tl)[hb + 25]? = some (10, 8) := by rcases hh with rfl | rfl <;> rfl
theorem th_26 (Ls : Nat) (tl : List Nat) {hb : Nat} (hh : hb = 8 ∨ hb = 35) : (TT Ls tl)[hb + 26]? = some (10, 8) := by rcases hh with rfl | rfl <;> rfl
theorem rh_0 (tl : List Nat) {hb : Nat} (hh : hb = 8 ∨ hb = 35) : RR tl hb 0 = some (hb + 1) := by rcases hh with rfl | rfl <;> rfl
theorem rh_1 (tl : List Nat) {hb : Nat} (hh : hb = 8 ∨ hb = 35) : RR tl hb 1 = some (hb + 10) := by rcases hh with rfl | rfl <;> rfl
theorem rh_2 (tl : List Nat) {hb : Nat} (hh : hb = 8 ∨ hb = 35) : RR tl hb 2 = some (hb + 14) := by rcases hh with rfl | rfl <;> rfl
theorem rh_7 (tl : List Nat) {hb : Nat} (hh : hb = 8 ∨ hb = 35) : RR tl hb 7 = some (hb + 23) := by rcases hh with rfl | rfl <;> rfl
theorem rh_8 (tl : List Nat) {hb : Nat} (hh : hb = 8 ∨ hb = 35) : RR tl hb 8 = some (hb + 24) := by rcases hh with rfl | rfl <;> rfl
theorem rh_9 (tl : List Nat) {hb : Nat} (hh : hb = 8 ∨ hb = 35) : RR tl hb 9 = some (hb + 25) := by rcases hh with rfl | rfl <;> rfl
theorem rh_10 (tl : List Nat) {hb : Nat} (hh : hb = 8 ∨ hb = 35) : RR tl hb 10 = some (hb + 26) := by rcases hh with rfl | rfl <;> rfl
