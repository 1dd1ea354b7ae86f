/-! WHAT THE TABLES SAY, against the Statement's own words and bytes -/
theorem pm_nth_eq {α : Type} : ∀ (l : List α) (i : Nat), pm_nth l i = l[i]?
  | [], _ => by simp [pm_nth]
  | a :: t, 0 => by simp [pm_nth]
  | a :: t, i + 1 => by simp [pm_nth, pm_nth_eq t i]
def pm_nw (w : Cond) : Bool := match w with
  | .fieldLinkNest .. => true
  | .methodLinkNest .. => true
  | .arrayOver _ => true
  | _ => false
def pm_place (w : Nat) (c : Cond) : Bool := decide (lw_tbl[w]? = some c) && (goodWord c || pm_nw c)
def pm_atok (a : Nat) (t : ArrayType) : Bool := match a, t with
  | 20, .int => true
  | 21, .byte => true
  | 22, .boolean => true
  | 23, .long => true
  | _, _ => false
def pm_acls (a : Nat) : String := match a with
  | 24 => "SnowHouse$Rule"
  | _ => "SnowHouse$Claim"
abbrev pm_MY : Type := MethodName × ByteArray × Nat × Option FieldType × Nat × Nat × Nat × Nat
def pm_link (own : String) (idx b : Nat) (y : MethodName) : Cond := bif Nat.beq b 1 then .methodLinkNest own idx y "SnowHouse" else .methodLink own idx y
def pm_flink (own : String) (idx b : Nat) (r n d : String) : Cond := bif Nat.beq b 1 then .fieldLinkNest own idx r n d "SnowHouse" else .fieldLink own idx r n d
def pm_mys : List pm_MY := [
(⟨"SnowHouse", "<init>", "()V"⟩, prog_1_method_1_code, 1, none, 135, 112, 134, 0),
(⟨"SnowHouse$Story", "<init>", "()V"⟩, prog_11_method_1_code, 2, none, 143, 113, 142, 0),
(⟨"SnowHouse$Breakfast", "<init>", "()V"⟩, prog_2_method_1_code, 1, none, 149, 114, 148, 0),
(⟨"SnowHouse$Rule", "<init>", "()V"⟩, prog_9_method_1_code, 1, none, 176, 115, 175, 0),
(⟨"SnowHouse$Claim", "<init>", "()V"⟩, prog_4_method_1_code, 1, none, 219, 116, 218, 0),
(⟨"SnowHouse$Reader", "<init>", "([BLSnowHouse$Story;)V"⟩, prog_8_method_1_code, 6, none, 293, 117, 292, 0),
(⟨"java/lang/String", "length", "()I"⟩, prog_16_method_54_code, 1, (some .int), 299, 118, 297, 298),
(⟨"java/lang/String", "coder", "()B"⟩, prog_16_method_152_code, 1, (some .byte), 303, 118, 301, 302),
(⟨"java/lang/String", "charAt", "(I)C"⟩, prog_16_method_56_code, 2, (some .char), 309, 118, 307, 308),
(⟨"java/lang/String", "isLatin1", "()Z"⟩, prog_16_method_154_code, 1, (some .boolean), 313, 118, 311, 312),
(⟨"java/lang/StringLatin1", "charAt", "([BI)C"⟩, prog_17_method_2_code, 2, (some .char), 316, 119, 315, 0),
(⟨"java/lang/String", "checkIndex", "(II)V"⟩, prog_16_method_155_code, 2, none, 319, 118, 318, 0),
(⟨"jdk/internal/util/Preconditions", "checkIndex", "(IILjava/util/function/BiFunction;)I"⟩, prog_20_method_11_code, 3, (some .int), 324, 120, 323, 0),
(⟨"SnowHouse$Evening", "<init>", "(Z)V"⟩, prog_6_method_1_code, 2, none, 386, 122, 385, 0),
(⟨"SnowHouse$Scene", "<init>", "()V"⟩, prog_10_method_1_code, 1, none, 392, 123, 391, 0),
(⟨"SnowHouse$Diary", "<init>", "(Z)V"⟩, prog_5_method_1_code, 3, none, 436, 124, 435, 0),
(⟨"SnowHouse$Finder", "<init>", "()V"⟩, prog_7_method_1_code, 1, none, 496, 125, 495, 0),
(⟨"SnowHouse$Changes", "<init>", "()V"⟩, prog_3_method_1_code, 1, none, 533, 126, 532, 0),
(⟨"SnowHouse", "feed", "(IIIII)I"⟩, prog_1_method_2_code, 6, (some .int), 591, 112, 589, 590),
(⟨"SnowHouse", "write", "(I)V"⟩, prog_1_method_3_code, 3, none, 595, 112, 594, 0),
(⟨"SnowHouse", "end", "(I)Z"⟩, prog_1_method_4_code, 2, (some .boolean), 599, 112, 597, 598),
(⟨"SnowHouse", "text", "()I"⟩, prog_1_method_5_code, 3, (some .int), 603, 112, 601, 602),
(⟨"SnowHouse$Reader", "reads", "(ILSnowHouse$Story;)Z"⟩, prog_8_method_2_code, 6, (some .boolean), 607, 117, 605, 606),
(⟨"java/lang/Math", "min", "(II)I"⟩, prog_15_method_69_code, 2, (some .int), 610, 128, 609, 0),
(⟨"SnowHouse$Story", "clear", "()V"⟩, prog_11_method_2_code, 1, none, 614, 113, 612, 613),
(⟨"java/util/Arrays", "fill", "([II)V"⟩, prog_19_method_103_code, 4, none, 617, 129, 616, 0),
(⟨"SnowHouse$Breakfast", "clear", "()V"⟩, prog_2_method_3_code, 1, none, 621, 114, 619, 620),
(⟨"SnowHouse$Reader", "step", "()V"⟩, prog_8_method_21_code, 5, none, 626, 117, 625, 1),
(⟨"SnowHouse$Reader", "signAt", "(I)I"⟩, prog_8_method_22_code, 2, (some .int), 630, 117, 629, 2),
(⟨"SnowHouse$Reader", "fail", "(II)V"⟩, prog_8_method_24_code, 3, none, 634, 117, 633, 3),
(⟨"SnowHouse$Reader", "wordToken", "()I"⟩, prog_8_method_23_code, 2, (some .int), 638, 117, 637, 4),
(⟨"SnowHouse$Reader", "sortTold", "()I"⟩, prog_8_method_3_code, 1, (some .int), 642, 117, 641, 5),
(⟨"SnowHouse$Story", "full", "(I)Z"⟩, prog_11_method_4_code, 2, (some .boolean), 646, 113, 644, 645),
(⟨"SnowHouse$Reader", "given", "(I)V"⟩, prog_8_method_18_code, 2, none, 652, 117, 651, 6),
(⟨"SnowHouse$Story", "hasName", "(I)Z"⟩, prog_11_method_8_code, 2, (some .boolean), 656, 113, 654, 655),
(⟨"SnowHouse$Story", "named", "(II)I"⟩, prog_11_method_7_code, 4, (some .int), 660, 113, 658, 659),
(⟨"SnowHouse$Story", "giveName", "(II)V"⟩, prog_11_method_6_code, 3, none, 664, 113, 662, 663),
(⟨"SnowHouse$Reader", "door", "()V"⟩, prog_8_method_4_code, 3, none, 668, 117, 667, 7),
(⟨"SnowHouse$Reader", "asked", "(II)I"⟩, prog_8_method_19_code, 4, (some .int), 672, 117, 671, 8),
(⟨"SnowHouse$Story", "doorBetween", "(II)Z"⟩, prog_11_method_10_code, 3, (some .boolean), 677, 113, 675, 676),
(⟨"SnowHouse$Story", "addDoor", "(II)V"⟩, prog_11_method_11_code, 3, none, 681, 113, 679, 680),
(⟨"SnowHouse$Reader", "beginsIn", "(I[I)V"⟩, prog_8_method_5_code, 5, none, 685, 117, 684, 9),
(⟨"SnowHouse$Reader", "expect", "(I)V"⟩, prog_8_method_17_code, 2, none, 689, 117, 688, 10),
(⟨"SnowHouse$Reader", "claimed", "(LSnowHouse$Claim;)V"⟩, prog_8_method_6_code, 2, none, 693, 117, 692, 11),
(⟨"SnowHouse$Reader", "minuteFrom", "(I)I"⟩, prog_8_method_20_code, 3, (some .int), 697, 117, 696, 12),
(⟨"SnowHouse$Reader", "ruled", "(LSnowHouse$Rule;)V"⟩, prog_8_method_7_code, 2, none, 701, 117, 700, 13),
(⟨"SnowHouse$Reader", "sum", "()V"⟩, prog_8_method_12_code, 3, none, 705, 117, 704, 14),
(⟨"SnowHouse$Reader", "product", "()V"⟩, prog_8_method_13_code, 3, none, 709, 117, 708, 15),
(⟨"SnowHouse$Reader", "part", "()V"⟩, prog_8_method_14_code, 1, none, 713, 117, 712, 16),
(⟨"SnowHouse$Story", "emit", "(II)I"⟩, prog_11_method_12_code, 3, (some .int), 717, 113, 715, 716),
(⟨"SnowHouse$Reader", "pair", "()V"⟩, prog_8_method_15_code, 2, none, 721, 117, 720, 17),
(⟨"SnowHouse$Reader", "opens", "(I)Z"⟩, prog_8_method_16_code, 2, (some .boolean), 725, 117, 724, 18),
(⟨"SnowHouse$Reader", "test", "()V"⟩, prog_8_method_8_code, 3, none, 729, 117, 728, 19),
(⟨"SnowHouse$Reader", "both", "()V"⟩, prog_8_method_9_code, 3, none, 733, 117, 732, 20),
(⟨"SnowHouse$Reader", "fact", "()V"⟩, prog_8_method_10_code, 3, none, 737, 117, 736, 21),
(⟨"SnowHouse$Reader", "simpleFact", "()V"⟩, prog_8_method_11_code, 4, none, 741, 117, 740, 22),
(⟨"SnowHouse$Story", "leadHere", "(I)V"⟩, prog_11_method_13_code, 2, none, 745, 113, 743, 744),
(⟨"SnowHouse$Story", "settle", "()V"⟩, prog_11_method_15_code, 3, none, 749, 113, 747, 748),
(⟨"SnowHouse$Story", "measure", "()V"⟩, prog_11_method_17_code, 4, none, 753, 113, 752, 23),
(⟨"SnowHouse$Story", "besideTowards", "(II)I"⟩, prog_11_method_18_code, 6, (some .int), 759, 113, 758, 24),
(⟨"SnowHouse$Story", "fillTurns", "(IZI)I"⟩, prog_11_method_16_code, 6, (some .int), 763, 113, 762, 25),
(⟨"SnowHouse$Breakfast", "copy", "(LSnowHouse$Breakfast;)V"⟩, prog_2_method_2_code, 3, none, 767, 114, 765, 766),
(⟨"SnowHouse$Evening", "forget", "()V"⟩, prog_6_method_2_code, 1, none, 771, 122, 769, 770),
(⟨"SnowHouse$Diary", "forget", "()V"⟩, prog_5_method_2_code, 1, none, 775, 124, 773, 774),
(⟨"SnowHouse$Changes", "forget", "()V"⟩, prog_3_method_2_code, 1, none, 780, 126, 778, 779),
(⟨"SnowHouse$Story", "statements", "()I"⟩, prog_11_method_5_code, 3, (some .int), 784, 113, 782, 783),
(⟨"SnowHouse", "fault", "(I)I"⟩, prog_1_method_6_code, 2, (some .int), 788, 112, 786, 787),
(⟨"SnowHouse", "has", "(I)I"⟩, prog_1_method_7_code, 2, (some .int), 792, 112, 790, 791),
(⟨"SnowHouse", "letter", "(III)I"⟩, prog_1_method_8_code, 4, (some .int), 796, 112, 794, 795),
(⟨"SnowHouse$Story", "nameLetter", "(III)I"⟩, prog_11_method_9_code, 7, (some .int), 800, 113, 798, 799),
(⟨"SnowHouse$Story", "there", "(II)Z"⟩, prog_11_method_3_code, 3, (some .boolean), 804, 113, 802, 803),
(⟨"SnowHouse", "begin", "(II)Z"⟩, prog_1_method_9_code, 3, (some .boolean), 808, 112, 806, 807),
(⟨"SnowHouse", "put", "(II)Z"⟩, prog_1_method_10_code, 3, (some .boolean), 813, 112, 811, 812),
(⟨"SnowHouse", "skip", "(IZ)Z"⟩, prog_1_method_11_code, 3, (some .boolean), 817, 112, 815, 816),
(⟨"SnowHouse$Breakfast", "leave", "(IZ)V"⟩, prog_2_method_4_code, 3, none, 821, 114, 819, 820),
(⟨"SnowHouse", "anew", "()V"⟩, prog_1_method_12_code, 1, none, 825, 112, 823, 824),
(⟨"SnowHouse", "run", "(I)I"⟩, prog_1_method_13_code, 2, (some .int), 829, 112, 827, 828),
(⟨"SnowHouse$Evening", "pass", "(LSnowHouse$Story;LSnowHouse$Breakfast;II)V"⟩, prog_6_method_3_code, 8, none, 833, 122, 831, 832),
(⟨"SnowHouse$Scene", "open", "(LSnowHouse$Breakfast;I)V"⟩, prog_10_method_2_code, 4, none, 840, 123, 838, 839),
(⟨"SnowHouse$Scene", "lives", "(I)Z"⟩, prog_10_method_3_code, 2, (some .boolean), 845, 123, 843, 844),
(⟨"SnowHouse$Evening", "turn", "(LSnowHouse$Story;I)V"⟩, prog_6_method_4_code, 7, none, 849, 122, 848, 26),
(⟨"SnowHouse$Breakfast", "leavesOut", "(I)Z"⟩, prog_2_method_5_code, 2, (some .boolean), 853, 114, 851, 852),
(⟨"SnowHouse$Scene", "worth", "([III)I"⟩, prog_10_method_5_code, 9, (some .int), 857, 123, 855, 856),
(⟨"java/lang/Math", "max", "(II)I"⟩, prog_15_method_65_code, 2, (some .int), 860, 128, 859, 0),
(⟨"SnowHouse$Scene", "joined", "(III)I"⟩, prog_10_method_7_code, 4, (some .int), 864, 123, 863, 27),
(⟨"SnowHouse$Scene", "within", "(J)I"⟩, prog_10_method_8_code, 3, (some .int), 868, 123, 867, 28),
(⟨"java/lang/Math", "min", "(JJ)J"⟩, prog_15_method_70_code, 4, (some .long), 873, 128, 872, 0),
(⟨"java/lang/Math", "max", "(JJ)J"⟩, prog_15_method_66_code, 4, (some .long), 876, 128, 875, 0),
(⟨"java/lang/Math", "floorDiv", "(II)I"⟩, prog_15_method_47_code, 3, (some .int), 879, 128, 878, 0),
(⟨"java/lang/Math", "floorMod", "(II)I"⟩, prog_15_method_50_code, 3, (some .int), 882, 128, 881, 0),
(⟨"SnowHouse$Scene", "found", "(II)I"⟩, prog_10_method_6_code, 5, (some .int), 887, 123, 886, 29),
(⟨"SnowHouse$Scene", "feel", "(II)V"⟩, prog_10_method_4_code, 3, none, 892, 123, 890, 891),
(⟨"SnowHouse$Scene", "does", "(LSnowHouse$Rule;LSnowHouse$Story;)Z"⟩, prog_10_method_9_code, 5, (some .boolean), 896, 123, 894, 895),
(⟨"SnowHouse$Story", "wayOn", "(II)I"⟩, prog_11_method_14_code, 3, (some .int), 900, 113, 898, 899),
(⟨"SnowHouse$Scene", "goes", "(II)Z"⟩, prog_10_method_10_code, 3, (some .boolean), 904, 123, 903, 30),
(⟨"SnowHouse$Scene", "moves", "(IIII)Z"⟩, prog_10_method_11_code, 5, (some .boolean), 908, 123, 907, 31),
(⟨"SnowHouse$Scene", "wipes", "(I)Z"⟩, prog_10_method_12_code, 3, (some .boolean), 912, 123, 911, 32),
(⟨"SnowHouse$Scene", "kills", "(III)Z"⟩, prog_10_method_13_code, 6, (some .boolean), 916, 123, 915, 33),
(⟨"SnowHouse$Evening", "noteDone", "(LSnowHouse$Rule;I)V"⟩, prog_6_method_5_code, 4, none, 920, 122, 919, 34),
(⟨"SnowHouse$Diary", "noteDone", "(LSnowHouse$Scene;LSnowHouse$Rule;I)V"⟩, prog_5_method_3_code, 5, none, 924, 124, 922, 923),
(⟨"SnowHouse$Diary", "noteTrace", "(LSnowHouse$Scene;ILSnowHouse$Rule;)V"⟩, prog_5_method_4_code, 4, none, 928, 124, 927, 35),
(⟨"SnowHouse$Diary", "noteWiped", "(II)V"⟩, prog_5_method_5_code, 4, none, 934, 124, 933, 36),
(⟨"SnowHouse$Scene", "learn", "(I)V"⟩, prog_10_method_14_code, 6, none, 938, 123, 936, 937),
(⟨"SnowHouse$Evening", "noteMinute", "(I)V"⟩, prog_6_method_6_code, 3, none, 942, 122, 941, 37),
(⟨"SnowHouse$Diary", "noteMinute", "(LSnowHouse$Scene;)V"⟩, prog_5_method_6_code, 4, none, 946, 124, 944, 945),
(⟨"SnowHouse", "was", "(II)I"⟩, prog_1_method_14_code, 3, (some .int), 950, 112, 948, 949),
(⟨"SnowHouse$Evening", "had", "(I)Z"⟩, prog_6_method_7_code, 2, (some .boolean), 954, 122, 952, 953),
(⟨"SnowHouse$Evening", "roomThen", "(II)I"⟩, prog_6_method_10_code, 3, (some .int), 958, 122, 956, 957),
(⟨"SnowHouse", "alive", "(II)I"⟩, prog_1_method_15_code, 3, (some .int), 962, 112, 960, 961),
(⟨"SnowHouse$Evening", "livedThen", "(II)Z"⟩, prog_6_method_12_code, 3, (some .boolean), 966, 122, 964, 965),
(⟨"SnowHouse$Evening", "companyThen", "(II)I"⟩, prog_6_method_11_code, 3, (some .int), 970, 122, 969, 38),
(⟨"SnowHouse", "where", "(II)I"⟩, prog_1_method_16_code, 4, (some .int), 975, 112, 973, 974),
(⟨"SnowHouse$Diary", "placeThen", "(II)I"⟩, prog_5_method_8_code, 3, (some .int), 979, 124, 977, 978),
(⟨"SnowHouse", "did", "(II)I"⟩, prog_1_method_17_code, 3, (some .int), 983, 112, 981, 982),
(⟨"SnowHouse$Diary", "doneThen", "(II)I"⟩, prog_5_method_9_code, 4, (some .int), 987, 124, 985, 986),
(⟨"SnowHouse", "mood", "(II)I"⟩, prog_1_method_18_code, 3, (some .int), 991, 112, 989, 990),
(⟨"SnowHouse$Diary", "moodThen", "(II)I"⟩, prog_5_method_10_code, 4, (some .int), 996, 124, 994, 995),
(⟨"SnowHouse", "deed", "(II)I"⟩, prog_1_method_19_code, 3, (some .int), 1001, 112, 999, 1000),
(⟨"SnowHouse$Evening", "deedPart", "(II)I"⟩, prog_6_method_8_code, 4, (some .int), 1005, 122, 1003, 1004),
(⟨"SnowHouse", "trace", "(II)I"⟩, prog_1_method_20_code, 3, (some .int), 1009, 112, 1007, 1008),
(⟨"SnowHouse$Diary", "tracePart", "(II)I"⟩, prog_5_method_7_code, 4, (some .int), 1013, 124, 1011, 1012),
(⟨"SnowHouse", "saw", "(III)I"⟩, prog_1_method_21_code, 4, (some .int), 1019, 112, 1017, 1018),
(⟨"SnowHouse$Evening", "witnesses", "(II)I"⟩, prog_6_method_13_code, 3, (some .int), 1023, 122, 1021, 1022),
(⟨"SnowHouse", "knows", "(II)I"⟩, prog_1_method_22_code, 3, (some .int), 1027, 112, 1025, 1026),
(⟨"SnowHouse", "needed", "(II)I"⟩, prog_1_method_23_code, 3, (some .int), 1031, 112, 1029, 1030),
(⟨"SnowHouse$Changes", "killsWithout", "(LSnowHouse$Story;LSnowHouse$Evening;II)Z"⟩, prog_3_method_3_code, 5, (some .boolean), 1035, 126, 1033, 1034),
(⟨"SnowHouse$Breakfast", "change", "(LSnowHouse$Breakfast;III)V"⟩, prog_2_method_6_code, 6, none, 1039, 114, 1037, 1038),
(⟨"SnowHouse$Evening", "hasDeed", "(II)Z"⟩, prog_6_method_9_code, 4, (some .boolean), 1047, 122, 1045, 1046),
(⟨"SnowHouse", "span", "(IIZ)I"⟩, prog_1_method_24_code, 4, (some .int), 1052, 112, 1050, 1051),
(⟨"SnowHouse", "dead", "(I)Z"⟩, prog_1_method_30_code, 2, (some .boolean), 1056, 112, 1055, 39),
(⟨"SnowHouse", "isSet", "(II)Z"⟩, prog_1_method_31_code, 3, (some .boolean), 1060, 112, 1059, 40),
(⟨"SnowHouse$Finder", "look", "(LSnowHouse$Evening;II)V"⟩, prog_7_method_2_code, 7, none, 1064, 125, 1062, 1063),
(⟨"SnowHouse$Evening", "livingLast", "(I)I"⟩, prog_6_method_14_code, 4, (some .int), 1069, 122, 1067, 1068),
(⟨"SnowHouse$Finder", "setSpan", "(I)V"⟩, prog_7_method_3_code, 4, none, 1077, 125, 1075, 1076),
(⟨"SnowHouse", "could", "(III)I"⟩, prog_1_method_25_code, 5, (some .int), 1081, 112, 1079, 1080),
(⟨"SnowHouse$Finder", "suspects", "(I)I"⟩, prog_7_method_4_code, 4, (some .int), 1085, 125, 1083, 1084),
(⟨"SnowHouse$Finder", "cleared", "(II)Z"⟩, prog_7_method_5_code, 4, (some .boolean), 1090, 125, 1089, 41),
(⟨"SnowHouse", "least", "(IZ)I"⟩, prog_1_method_26_code, 4, (some .int), 1094, 112, 1092, 1093),
(⟨"SnowHouse$Finder", "fewest", "()I"⟩, prog_7_method_7_code, 4, (some .int), 1098, 125, 1096, 1097),
(⟨"SnowHouse$Finder", "known", "(I)Z"⟩, prog_7_method_6_code, 2, (some .boolean), 1102, 125, 1100, 1101),
(⟨"java/lang/Integer", "bitCount", "(I)I"⟩, prog_14_method_49_code, 1, (some .int), 1106, 130, 1105, 0),
(⟨"SnowHouse", "fair", "(I)I"⟩, prog_1_method_27_code, 2, (some .int), 1114, 112, 1112, 1113),
(⟨"SnowHouse", "claim", "(I)I"⟩, prog_1_method_28_code, 3, (some .int), 1119, 112, 1117, 1118),
(⟨"SnowHouse$Claim", "holds", "(LSnowHouse$Evening;)Z"⟩, prog_4_method_2_code, 3, (some .boolean), 1123, 116, 1121, 1122),
(⟨"SnowHouse$Claim", "catching", "(LSnowHouse$Evening;I)I"⟩, prog_4_method_3_code, 7, (some .int), 1129, 116, 1127, 1128),
(⟨"SnowHouse", "caught", "(IZ)I"⟩, prog_1_method_29_code, 4, (some .int), 1135, 112, 1133, 1134),
(⟨"SnowHouse", "spare", "(I)I"⟩, prog_1_method_32_code, 2, (some .int), 1139, 112, 1137, 1138),
(⟨"SnowHouse$Changes", "seekSparing", "(LSnowHouse$Story;LSnowHouse$Evening;)V"⟩, prog_3_method_4_code, 7, none, 1143, 126, 1141, 1142),
(⟨"SnowHouse$Changes", "changeable", "(LSnowHouse$Story;I)I"⟩, prog_3_method_6_code, 3, (some .int), 1148, 126, 1147, 42),
(⟨"SnowHouse", "fairest", "(I)I"⟩, prog_1_method_33_code, 2, (some .int), 1152, 112, 1150, 1151),
(⟨"SnowHouse$Changes", "seekFairest", "(LSnowHouse$Story;LSnowHouse$Evening;LSnowHouse$Finder;)V"⟩, prog_3_method_5_code, 8, none, 1156, 126, 1154, 1155),
(⟨"SnowHouse$Changes", "leastToAsk", "(LSnowHouse$Story;LSnowHouse$Finder;)I"⟩, prog_3_method_7_code, 4, (some .int), 1160, 126, 1159, 43),
(⟨"SnowHouseModel", "<init>", "()V"⟩, prog_13_method_1_code, 1, none, 1168, 127, 1167, 0),
(⟨"SnowHouseModel", "feed", "(IIIII)I"⟩, prog_13_method_4_code, 6, (some .int), 1412, 127, 1410, 1411),
(⟨"SnowHouseModel", "put", "(I)V"⟩, prog_13_method_3_code, 3, none, 1416, 127, 1415, 44),
(⟨"SnowHouseModel", "end", "(I)Z"⟩, prog_13_method_5_code, 2, (some .boolean), 1420, 127, 1418, 1419),
(⟨"SnowHouseModel", "text", "()I"⟩, prog_13_method_39_code, 2, (some .int), 1424, 127, 1422, 1423),
(⟨"SnowHouseModel", "next", "()V"⟩, prog_13_method_9_code, 6, none, 1428, 127, 1427, 45),
(⟨"SnowHouseModel", "isLetter", "(I)Z"⟩, prog_13_method_7_code, 1, (some .boolean), 1431, 127, 1430, 0),
(⟨"SnowHouseModel", "isDigit", "(I)Z"⟩, prog_13_method_8_code, 1, (some .boolean), 1434, 127, 1433, 0),
(⟨"SnowHouseModel", "blame", "(II)V"⟩, prog_13_method_6_code, 3, none, 1438, 127, 1437, 46),
(⟨"SnowHouseModel", "statement", "()V"⟩, prog_13_method_38_code, 2, none, 1442, 127, 1441, 47),
(⟨"SnowHouseModel", "isWord", "(J)Z"⟩, prog_13_method_11_code, 3, (some .boolean), 1447, 127, 1446, 48),
(⟨"SnowHouseModel", "rule", "(I)V"⟩, prog_13_method_37_code, 3, none, 1456, 127, 1455, 49),
(⟨"SnowHouseModel", "counts", "(Z)Z"⟩, prog_13_method_30_code, 2, (some .boolean), 1460, 127, 1459, 50),
(⟨"SnowHouseModel", "asked", "(II)I"⟩, prog_13_method_17_code, 4, (some .int), 1464, 127, 1463, 51),
(⟨"SnowHouseModel", "looked", "(II)I"⟩, prog_13_method_16_code, 4, (some .int), 1468, 127, 1467, 52),
(⟨"SnowHouseModel", "isOwn", "(J)Z"⟩, prog_13_method_13_code, 3, (some .boolean), 1472, 127, 1471, 53),
(⟨"SnowHouseModel", "named", "(IJ)I"⟩, prog_13_method_14_code, 8, (some .int), 1497, 127, 1496, 54),
(⟨"SnowHouseModel", "reads", "(Z)V"⟩, prog_13_method_29_code, 3, none, 1501, 127, 1500, 55),
(⟨"SnowHouseModel", "pushes", "(I)V"⟩, prog_13_method_23_code, 2, none, 1505, 127, 1504, 56),
(⟨"SnowHouseModel", "operand", "()Z"⟩, prog_13_method_27_code, 4, (some .boolean), 1509, 127, 1508, 57),
(⟨"SnowHouseModel", "isTest", "(I)Z"⟩, prog_13_method_25_code, 1, (some .boolean), 1512, 127, 1511, 0),
(⟨"SnowHouseModel", "holdsBack", "(I)V"⟩, prog_13_method_22_code, 2, none, 1516, 127, 1515, 58),
(⟨"SnowHouseModel", "isSign", "(I)Z"⟩, prog_13_method_10_code, 2, (some .boolean), 1520, 127, 1519, 59),
(⟨"SnowHouseModel", "opens", "(I)V"⟩, prog_13_method_24_code, 2, none, 1524, 127, 1523, 60),
(⟨"SnowHouseModel", "add", "(II)V"⟩, prog_13_method_19_code, 3, none, 1528, 127, 1527, 61),
(⟨"SnowHouseModel", "fact", "()Z"⟩, prog_13_method_26_code, 4, (some .boolean), 1532, 127, 1531, 62),
(⟨"SnowHouseModel", "goesOn", "()Z"⟩, prog_13_method_28_code, 5, (some .boolean), 1536, 127, 1535, 63),
(⟨"SnowHouseModel", "joins", "(I)V"⟩, prog_13_method_21_code, 2, none, 1540, 127, 1539, 64),
(⟨"SnowHouseModel", "rank", "(I)I"⟩, prog_13_method_20_code, 1, (some .int), 1543, 127, 1542, 0),
(⟨"SnowHouseModel", "must", "(J)V"⟩, prog_13_method_31_code, 3, none, 1547, 127, 1546, 65),
(⟨"SnowHouseModel", "room", "()V"⟩, prog_13_method_32_code, 2, none, 1551, 127, 1550, 66),
(⟨"SnowHouseModel", "fresh", "()J"⟩, prog_13_method_15_code, 3, (some .long), 1555, 127, 1554, 67),
(⟨"SnowHouseModel", "door", "()V"⟩, prog_13_method_33_code, 3, none, 1559, 127, 1558, 68),
(⟨"SnowHouseModel", "who", "()V"⟩, prog_13_method_34_code, 2, none, 1563, 127, 1562, 69),
(⟨"SnowHouseModel", "thing", "()V"⟩, prog_13_method_35_code, 2, none, 1567, 127, 1566, 70),
(⟨"SnowHouseModel", "says", "()V"⟩, prog_13_method_36_code, 2, none, 1571, 127, 1570, 71),
(⟨"SnowHouseModel", "number", "(II)I"⟩, prog_13_method_18_code, 4, (some .int), 1575, 127, 1574, 72),
(⟨"SnowHouseModel", "is", "(III)Z"⟩, prog_13_method_2_code, 3, (some .boolean), 1578, 127, 1577, 0),
(⟨"SnowHouseModel", "must", "(I)V"⟩, prog_13_method_12_code, 2, none, 1582, 127, 1581, 73),
(⟨"SnowHouseModel", "clears", "()V"⟩, prog_13_method_47_code, 2, none, 1586, 127, 1585, 74),
(⟨"SnowHouseModel", "fault", "(I)I"⟩, prog_13_method_40_code, 2, (some .int), 1590, 127, 1588, 1589),
(⟨"SnowHouseModel", "has", "(I)I"⟩, prog_13_method_41_code, 2, (some .int), 1594, 127, 1592, 1593),
(⟨"SnowHouseModel", "letter", "(III)I"⟩, prog_13_method_46_code, 4, (some .int), 1598, 127, 1596, 1597),
(⟨"SnowHouseModel", "isRoom", "(I)Z"⟩, prog_13_method_43_code, 2, (some .boolean), 1602, 127, 1601, 75),
(⟨"SnowHouseModel", "letterOf", "(JI)I"⟩, prog_13_method_42_code, 6, (some .int), 1605, 127, 1604, 0),
(⟨"SnowHouseModel", "isWho", "(I)Z"⟩, prog_13_method_44_code, 2, (some .boolean), 1610, 127, 1609, 76),
(⟨"SnowHouseModel", "isThing", "(I)Z"⟩, prog_13_method_45_code, 2, (some .boolean), 1614, 127, 1613, 77),
(⟨"SnowHouseModel", "begin", "(II)Z"⟩, prog_13_method_49_code, 3, (some .boolean), 1618, 127, 1616, 1617),
(⟨"SnowHouseModel", "put", "(II)Z"⟩, prog_13_method_50_code, 3, (some .boolean), 1622, 127, 1620, 1621),
(⟨"SnowHouseModel", "skip", "(IZ)Z"⟩, prog_13_method_51_code, 3, (some .boolean), 1626, 127, 1624, 1625),
(⟨"SnowHouseModel", "anew", "()V"⟩, prog_13_method_52_code, 1, none, 1630, 127, 1628, 1629),
(⟨"SnowHouseModel", "run", "(I)I"⟩, prog_13_method_72_code, 2, (some .int), 1634, 127, 1632, 1633),
(⟨"SnowHouseModel", "copies", "(II)V"⟩, prog_13_method_48_code, 4, none, 1638, 127, 1637, 78),
(⟨"SnowHouseModel", "goes", "(III)I"⟩, prog_13_method_71_code, 6, (some .int), 1642, 127, 1641, 79),
(⟨"SnowHouseModel", "at", "(II)I"⟩, prog_13_method_53_code, 3, (some .int), 1646, 127, 1645, 80),
(⟨"SnowHouseModel", "turn", "(II)V"⟩, prog_13_method_68_code, 5, none, 1650, 127, 1649, 81),
(⟨"SnowHouseModel", "isOf", "(III)Z"⟩, prog_13_method_67_code, 4, (some .boolean), 1654, 127, 1653, 82),
(⟨"SnowHouseModel", "holds", "(I)Z"⟩, prog_13_method_66_code, 3, (some .boolean), 1658, 127, 1657, 83),
(⟨"SnowHouseModel", "works", "(II)J"⟩, prog_13_method_59_code, 6, (some .long), 1662, 127, 1661, 84),
(⟨"SnowHouseModel", "leaf", "(II)J"⟩, prog_13_method_58_code, 5, (some .long), 1666, 127, 1665, 85),
(⟨"SnowHouseModel", "others", "(II)I"⟩, prog_13_method_57_code, 5, (some .int), 1670, 127, 1669, 86),
(⟨"SnowHouseModel", "joined", "(IJJ)J"⟩, prog_13_method_56_code, 5, (some .long), 1673, 127, 1672, 0),
(⟨"SnowHouseModel", "held", "(J)J"⟩, prog_13_method_54_code, 2, (some .long), 1676, 127, 1675, 0),
(⟨"SnowHouseModel", "over", "(JJ)J"⟩, prog_13_method_55_code, 6, (some .long), 1681, 127, 1680, 0),
(⟨"SnowHouseModel", "does", "(I)Z"⟩, prog_13_method_65_code, 6, (some .boolean), 1685, 127, 1684, 87),
(⟨"SnowHouseModel", "step", "(II)I"⟩, prog_13_method_61_code, 5, (some .int), 1689, 127, 1688, 88),
(⟨"SnowHouseModel", "ways", "(I)V"⟩, prog_13_method_60_code, 5, none, 1693, 127, 1692, 89),
(⟨"SnowHouseModel", "leaves", "(III)V"⟩, prog_13_method_62_code, 5, none, 1697, 127, 1696, 90),
(⟨"SnowHouseModel", "wipes", "(I)Z"⟩, prog_13_method_63_code, 5, (some .boolean), 1701, 127, 1700, 91),
(⟨"SnowHouseModel", "kills", "(IIII)Z"⟩, prog_13_method_64_code, 6, (some .boolean), 1705, 127, 1704, 92),
(⟨"SnowHouseModel", "ends", "()V"⟩, prog_13_method_69_code, 3, none, 1709, 127, 1708, 93),
(⟨"SnowHouseModel", "sees", "(IIII)I"⟩, prog_13_method_70_code, 6, (some .int), 1713, 127, 1712, 94),
(⟨"SnowHouseModel", "was", "(II)I"⟩, prog_13_method_74_code, 3, (some .int), 1717, 127, 1715, 1716),
(⟨"SnowHouseModel", "isMinute", "(I)Z"⟩, prog_13_method_73_code, 2, (some .boolean), 1721, 127, 1720, 95),
(⟨"SnowHouseModel", "alive", "(II)I"⟩, prog_13_method_75_code, 3, (some .int), 1725, 127, 1723, 1724),
(⟨"SnowHouseModel", "where", "(II)I"⟩, prog_13_method_76_code, 3, (some .int), 1729, 127, 1727, 1728),
(⟨"SnowHouseModel", "did", "(II)I"⟩, prog_13_method_77_code, 3, (some .int), 1733, 127, 1731, 1732),
(⟨"SnowHouseModel", "mood", "(II)I"⟩, prog_13_method_78_code, 3, (some .int), 1737, 127, 1735, 1736),
(⟨"SnowHouseModel", "deed", "(II)I"⟩, prog_13_method_79_code, 3, (some .int), 1742, 127, 1740, 1741),
(⟨"SnowHouseModel", "trace", "(II)I"⟩, prog_13_method_80_code, 3, (some .int), 1746, 127, 1744, 1745),
(⟨"SnowHouseModel", "saw", "(III)I"⟩, prog_13_method_81_code, 4, (some .int), 1750, 127, 1748, 1749),
(⟨"SnowHouseModel", "knows", "(II)I"⟩, prog_13_method_82_code, 3, (some .int), 1754, 127, 1752, 1753),
(⟨"SnowHouseModel", "needed", "(II)I"⟩, prog_13_method_83_code, 5, (some .int), 1758, 127, 1756, 1757),
(⟨"SnowHouseModel", "span", "(IIZ)I"⟩, prog_13_method_94_code, 4, (some .int), 1762, 127, 1760, 1761),
(⟨"SnowHouseModel", "isVictim", "(I)Z"⟩, prog_13_method_92_code, 2, (some .boolean), 1766, 127, 1765, 96),
(⟨"SnowHouseModel", "isDead", "(II)Z"⟩, prog_13_method_84_code, 3, (some .boolean), 1770, 127, 1769, 97),
(⟨"SnowHouseModel", "isSet", "(I)Z"⟩, prog_13_method_93_code, 2, (some .boolean), 1774, 127, 1773, 98),
(⟨"SnowHouseModel", "everybody", "()I"⟩, prog_13_method_90_code, 1, (some .int), 1778, 127, 1777, 99),
(⟨"SnowHouseModel", "heard", "(II)I"⟩, prog_13_method_85_code, 5, (some .int), 1782, 127, 1781, 100),
(⟨"SnowHouseModel", "spans", "(III)V"⟩, prog_13_method_86_code, 7, none, 1786, 127, 1785, 101),
(⟨"SnowHouseModel", "could", "(III)I"⟩, prog_13_method_95_code, 4, (some .int), 1790, 127, 1788, 1789),
(⟨"SnowHouseModel", "coulds", "(III)I"⟩, prog_13_method_88_code, 11, (some .int), 1794, 127, 1793, 102),
(⟨"SnowHouseModel", "isClear", "(IIIII)Z"⟩, prog_13_method_87_code, 8, (some .boolean), 1798, 127, 1797, 103),
(⟨"SnowHouseModel", "least", "(IZ)I"⟩, prog_13_method_96_code, 4, (some .int), 1802, 127, 1800, 1801),
(⟨"SnowHouseModel", "leastSet", "(II)I"⟩, prog_13_method_91_code, 5, (some .int), 1806, 127, 1805, 104),
(⟨"SnowHouseModel", "bitsOf", "(I)I"⟩, prog_13_method_89_code, 3, (some .int), 1809, 127, 1808, 0),
(⟨"SnowHouseModel", "fair", "(I)I"⟩, prog_13_method_98_code, 2, (some .int), 1813, 127, 1811, 1812),
(⟨"SnowHouseModel", "isFair", "(II)Z"⟩, prog_13_method_97_code, 3, (some .boolean), 1817, 127, 1816, 105),
(⟨"SnowHouseModel", "claim", "(I)I"⟩, prog_13_method_103_code, 2, (some .int), 1821, 127, 1819, 1820),
(⟨"SnowHouseModel", "isClaim", "(I)Z"⟩, prog_13_method_102_code, 2, (some .boolean), 1825, 127, 1824, 106),
(⟨"SnowHouseModel", "isLie", "(I)Z"⟩, prog_13_method_100_code, 4, (some .boolean), 1829, 127, 1828, 107),
(⟨"SnowHouseModel", "claimLast", "(I)I"⟩, prog_13_method_99_code, 3, (some .int), 1833, 127, 1832, 108),
(⟨"SnowHouseModel", "catches", "(I)V"⟩, prog_13_method_101_code, 6, none, 1837, 127, 1836, 109),
(⟨"SnowHouseModel", "caught", "(IZ)I"⟩, prog_13_method_104_code, 3, (some .int), 1841, 127, 1839, 1840),
(⟨"SnowHouseModel", "spare", "(I)I"⟩, prog_13_method_106_code, 4, (some .int), 1845, 127, 1843, 1844),
(⟨"SnowHouseModel", "changes", "(I)Z"⟩, prog_13_method_105_code, 4, (some .boolean), 1849, 127, 1848, 110),
(⟨"SnowHouseModel", "fairest", "(I)I"⟩, prog_13_method_107_code, 7, (some .int), 1853, 127, 1851, 1852)]
def pm_owns : List String := ["SnowHouse$Breakfast", "SnowHouse$Changes", "SnowHouse$Claim", "SnowHouse$Diary", "SnowHouse$Evening", "SnowHouse$Finder", "SnowHouse$Reader", "SnowHouse$Rule", "SnowHouse$Scene", "SnowHouse$Story", "SnowHouse", "SnowHouseModel", "java/lang/String", "java/lang/StringLatin1", "jdk/internal/util/Preconditions", "java/lang/Math", "java/lang/Integer", "java/util/Arrays", "SnowHouseLaw"]
def pm_on (o : Nat) : String := match pm_nth pm_owns o with
  | some n => n
  | none => ""
/-- the word that a link stands for -/
def pm_lword (k o idx a b : Nat) (v : Int) : Option Cond := match k with
  | 0 => (match pm_nth pm_cl a with
    | some q => some (.fieldLink (pm_on o) idx q.1 (q.2.1 b).2.1 (q.2.1 b).2.2.1)
    | none => none)
  | 1 => (match b with
    | 0 => some (.fieldLink (pm_on o) idx "java/lang/String" "value" "[B")
    | _ => some (.fieldLink (pm_on o) idx "java/lang/String" "coder" "B"))
  | 2 => (match a with
    | 1 => some (pm_flink (pm_on o) idx b "SnowHouse" "MOST_OF" "[I")
    | 2 => some (pm_flink (pm_on o) idx b "SnowHouse" "TRACE_SHIFT" "[I")
    | 3 => some (pm_flink (pm_on o) idx b "SnowHouse" "TRACE_MASK" "[I")
    | 4 => some (pm_flink (pm_on o) idx b "java/lang/String" "COMPACT_STRINGS" "Z")
    | 5 => some (pm_flink (pm_on o) idx b "jdk/internal/util/Preconditions" "SIOOBE_FORMATTER" "Ljava/util/function/BiFunction;")
    | _ => none)
  | 3 => (match pm_nth pm_cl a with
    | some q => some (.classLink (pm_on o) idx q.1)
    | none => none)
  | 4 => (match a with
    | 20 => some (.arrayClass .int)
    | 21 => some (.arrayClass .byte)
    | 22 => some (.arrayClass .boolean)
    | 23 => some (.arrayClass .long)
    | _ => none)
  | 5 => some (.classLink (pm_on o) idx (pm_acls a))
  | 6 => some (.constant (pm_on o) idx (Int32.ofInt v))
  | 7 => some (.constantLong (pm_on o) idx (Int64.ofInt v))
  | 8 => some (.methodLink (pm_on o) idx objectInit)
  | 9 => (match pm_nth pm_mys a with
    | some y => some (pm_link (pm_on o) idx b y.1)
    | none => none)
  | _ => some (.arrayOver (.object (pm_acls a)))
def pm_lkc (r : Nat × Nat × Nat × Nat × Nat × Int × Nat) : Bool := match pm_lword r.1 r.2.1 r.2.2.1 r.2.2.2.1 r.2.2.2.2.1 r.2.2.2.2.2.1 with
  | some c => pm_place r.2.2.2.2.2.2 c
  | none => false
def pm_lnk (w k o idx a b : Nat) (v : Int) : Bool := match pm_nth pm_lk w with
  | some r => Nat.beq r.1 k && Nat.beq r.2.1 o && Nat.beq r.2.2.1 idx && Nat.beq r.2.2.2.1 a && Nat.beq r.2.2.2.2.1 b && decide (r.2.2.2.2.2.1 = v)
  | none => false
def pm_okD (code : ByteArray) (pc : Nat) (E : pm_EN) : Bool := decide (decode code pc = .ok (E.1, E.2.1))
def pm_calls (a own idx b w kd : Nat) : Bool := bif Nat.beq (pm_mk a).1 kd then pm_lnk w 9 own idx a b 0 else true
def pm_okE (own : Nat) (ini : Bool) (E : pm_EN) : Bool :=
  pm_lenok E.1 E.2.1 && (match E with
  | (.getfield idx, _, a, b, _, w) => bif Nat.beq a 99 then pm_lnk w 1 own idx 99 b 0 else Nat.blt b (pm_nf a) && pm_lnk w 0 own idx a b 0
  | (.putfield idx, _, a, b, _, w) => Nat.blt b (pm_nf a) && pm_lnk w 0 own idx a b 0 && (match pm_nth pm_cl a with
      | some q => !(q.2.1 b).2.2.2 || (ini && Nat.beq a own)
      | none => false)
  | (.getstatic idx, _, a, b, _, w) => Nat.beq a 0 || pm_lnk w 2 own idx a b 0
  | (.new idx, _, a, _, _, w) => bif Nat.blt a 12 then pm_lnk w 3 own idx a 0 0 else true
  | (.newarray t, _, a, _, _, w) => pm_atok a t && pm_lnk w 4 0 0 a 0 0
  | (.anewarray idx, _, a, b, _, w) => (Nat.beq a 24 || Nat.beq a 25) && pm_lnk w 5 own idx a 0 0 && pm_lnk b 10 0 0 a 0 0
  | (.ldc idx, _, a, _, v, w) => (match a with
      | 0 => pm_lnk w 6 own idx 0 0 v
      | 98 => Nat.beq own 6 && Nat.beq idx 27
      | _ => true)
  | (.ldc_w idx, _, a, _, v, w) => (match a with
      | 0 => pm_lnk w 6 own idx 0 0 v
      | 98 => false
      | _ => true)
  | (.ldc2_w idx, _, _, _, v, w) => pm_lnk w 7 own idx 0 0 v
  | (.invokespecial idx, _, a, b, _, w) => bif Nat.beq a 1000 then pm_lnk w 8 own idx 0 0 0 else pm_calls a own idx b w 2
  | (.invokestatic idx, _, a, b, _, w) => pm_calls a own idx b w 0
  | (.invokevirtual idx, _, a, b, _, w) => pm_calls a own idx b w 1
  | _ => true)
def pm_rows (m : Nat) : List (Nat × pm_EN) := match pm_nth pm_ct (m / 16) with
  | some l => match pm_nth l (m % 16) with
    | some l => l.flatten
    | none => []
  | none => []
def pm_tab (m : Nat) : List (List (Nat × pm_EN)) := match pm_nth pm_ct (m / 16) with
  | some l => match pm_nth l (m % 16) with
    | some l => l
    | none => []
  | none => []
def pm_chk (m k : Nat) : List (Nat × pm_EN) := match pm_nth (pm_tab m) k with
  | some l => l
  | none => []
def pm_rtok (rk : Nat) (r : Option FieldType) : Bool := match rk, r with
  | 0, none => true
  | 1, some .int => true
  | 2, some .long => true
  | 3, some .boolean => true
  | 4, some .byte => true
  | 5, some .char => true
  | _, _ => false
def pm_okM (m : Nat) : Bool := match pm_nth pm_mys m with
  | none => false
  | some (y, code, maxL, ret, pC, pI, p1, p2) => match pm_mk m with
    | (kd, n, ml, cl, rk) => Nat.beq ml maxL && pm_rtok rk ret && decide (y.cls = pm_on cl) && pm_place pI (.initialized y.cls) && (plainName y.cls || plainFor y) &&
      decide (y.cls ≠ "java/lang/invoke/MethodHandle" ∧ y.cls ≠ "java/lang/invoke/VarHandle") && decide ((parseMethodDescriptor y.desc).map (fun d => d.parameters.length) = some n) &&
      (match kd with
        | 0 => pm_place p1 (.static y)
        | 1 => pm_place p1 (.instanceMethod y) && pm_place p2 (.selects y.cls y y) && Nat.ble cl 12
        | _ => pm_place p1 (.instanceMethod y) && decide (y.name = "<init>") && pm_rtok 0 ret) &&
      (pm_rows m).all (fun r => pm_okE cl (Nat.beq kd 2) r.2)
theorem pm_okc0 : (List.range 4).all (fun i => pm_okM (0 + i)) = true := by decide +kernel
theorem pm_okc1 : (List.range 4).all (fun i => pm_okM (4 + i)) = true := by decide +kernel
theorem pm_okc2 : (List.range 4).all (fun i => pm_okM (8 + i)) = true := by decide +kernel
theorem pm_okc3 : (List.range 4).all (fun i => pm_okM (12 + i)) = true := by decide +kernel
theorem pm_okc4 : (List.range 4).all (fun i => pm_okM (16 + i)) = true := by decide +kernel
theorem pm_okc5 : (List.range 4).all (fun i => pm_okM (20 + i)) = true := by decide +kernel
theorem pm_okc6 : (List.range 4).all (fun i => pm_okM (24 + i)) = true := by decide +kernel
theorem pm_okc7 : (List.range 4).all (fun i => pm_okM (28 + i)) = true := by decide +kernel
theorem pm_okc8 : (List.range 4).all (fun i => pm_okM (32 + i)) = true := by decide +kernel
theorem pm_okc9 : (List.range 4).all (fun i => pm_okM (36 + i)) = true := by decide +kernel
theorem pm_okc10 : (List.range 4).all (fun i => pm_okM (40 + i)) = true := by decide +kernel
theorem pm_okc11 : (List.range 4).all (fun i => pm_okM (44 + i)) = true := by decide +kernel
theorem pm_okc12 : (List.range 4).all (fun i => pm_okM (48 + i)) = true := by decide +kernel
theorem pm_okc13 : (List.range 4).all (fun i => pm_okM (52 + i)) = true := by decide +kernel
theorem pm_okc14 : (List.range 4).all (fun i => pm_okM (56 + i)) = true := by decide +kernel
theorem pm_okc15 : (List.range 4).all (fun i => pm_okM (60 + i)) = true := by decide +kernel
theorem pm_okc16 : (List.range 4).all (fun i => pm_okM (64 + i)) = true := by decide +kernel
theorem pm_okc17 : (List.range 4).all (fun i => pm_okM (68 + i)) = true := by decide +kernel
theorem pm_okc18 : (List.range 4).all (fun i => pm_okM (72 + i)) = true := by decide +kernel
theorem pm_okc19 : (List.range 4).all (fun i => pm_okM (76 + i)) = true := by decide +kernel
theorem pm_okc20 : (List.range 4).all (fun i => pm_okM (80 + i)) = true := by decide +kernel
theorem pm_okc21 : (List.range 4).all (fun i => pm_okM (84 + i)) = true := by decide +kernel
theorem pm_okc22 : (List.range 4).all (fun i => pm_okM (88 + i)) = true := by decide +kernel
theorem pm_okc23 : (List.range 4).all (fun i => pm_okM (92 + i)) = true := by decide +kernel
theorem pm_okc24 : (List.range 4).all (fun i => pm_okM (96 + i)) = true := by decide +kernel
theorem pm_okc25 : (List.range 4).all (fun i => pm_okM (100 + i)) = true := by decide +kernel
theorem pm_okc26 : (List.range 4).all (fun i => pm_okM (104 + i)) = true := by decide +kernel
theorem pm_okc27 : (List.range 4).all (fun i => pm_okM (108 + i)) = true := by decide +kernel
theorem pm_okc28 : (List.range 4).all (fun i => pm_okM (112 + i)) = true := by decide +kernel
theorem pm_okc29 : (List.range 4).all (fun i => pm_okM (116 + i)) = true := by decide +kernel
theorem pm_okc30 : (List.range 4).all (fun i => pm_okM (120 + i)) = true := by decide +kernel
theorem pm_okc31 : (List.range 4).all (fun i => pm_okM (124 + i)) = true := by decide +kernel
theorem pm_okc32 : (List.range 4).all (fun i => pm_okM (128 + i)) = true := by decide +kernel
theorem pm_okc33 : (List.range 4).all (fun i => pm_okM (132 + i)) = true := by decide +kernel
theorem pm_okc34 : (List.range 4).all (fun i => pm_okM (136 + i)) = true := by decide +kernel
theorem pm_okc35 : (List.range 4).all (fun i => pm_okM (140 + i)) = true := by decide +kernel
theorem pm_okc36 : (List.range 4).all (fun i => pm_okM (144 + i)) = true := by decide +kernel
theorem pm_okc37 : (List.range 4).all (fun i => pm_okM (148 + i)) = true := by decide +kernel
theorem pm_okc38 : (List.range 4).all (fun i => pm_okM (152 + i)) = true := by decide +kernel
theorem pm_okc39 : (List.range 4).all (fun i => pm_okM (156 + i)) = true := by decide +kernel
theorem pm_okc40 : (List.range 4).all (fun i => pm_okM (160 + i)) = true := by decide +kernel
theorem pm_okc41 : (List.range 4).all (fun i => pm_okM (164 + i)) = true := by decide +kernel
theorem pm_okc42 : (List.range 4).all (fun i => pm_okM (168 + i)) = true := by decide +kernel
theorem pm_okc43 : (List.range 4).all (fun i => pm_okM (172 + i)) = true := by decide +kernel
theorem pm_okc44 : (List.range 4).all (fun i => pm_okM (176 + i)) = true := by decide +kernel
theorem pm_okc45 : (List.range 4).all (fun i => pm_okM (180 + i)) = true := by decide +kernel
theorem pm_okc46 : (List.range 4).all (fun i => pm_okM (184 + i)) = true := by decide +kernel
theorem pm_okc47 : (List.range 4).all (fun i => pm_okM (188 + i)) = true := by decide +kernel
theorem pm_okc48 : (List.range 4).all (fun i => pm_okM (192 + i)) = true := by decide +kernel
theorem pm_okc49 : (List.range 4).all (fun i => pm_okM (196 + i)) = true := by decide +kernel
theorem pm_okc50 : (List.range 4).all (fun i => pm_okM (200 + i)) = true := by decide +kernel
theorem pm_okc51 : (List.range 4).all (fun i => pm_okM (204 + i)) = true := by decide +kernel
theorem pm_okc52 : (List.range 4).all (fun i => pm_okM (208 + i)) = true := by decide +kernel
theorem pm_okc53 : (List.range 4).all (fun i => pm_okM (212 + i)) = true := by decide +kernel
theorem pm_okc54 : (List.range 4).all (fun i => pm_okM (216 + i)) = true := by decide +kernel
theorem pm_okc55 : (List.range 4).all (fun i => pm_okM (220 + i)) = true := by decide +kernel
theorem pm_okc56 : (List.range 4).all (fun i => pm_okM (224 + i)) = true := by decide +kernel
theorem pm_okc57 : (List.range 4).all (fun i => pm_okM (228 + i)) = true := by decide +kernel
theorem pm_okc58 : (List.range 4).all (fun i => pm_okM (232 + i)) = true := by decide +kernel
theorem pm_okc59 : (List.range 4).all (fun i => pm_okM (236 + i)) = true := by decide +kernel
theorem pm_okc60 : (List.range 4).all (fun i => pm_okM (240 + i)) = true := by decide +kernel
theorem pm_okc61 : (List.range 4).all (fun i => pm_okM (244 + i)) = true := by decide +kernel
theorem pm_okc62 : (List.range 4).all (fun i => pm_okM (248 + i)) = true := by decide +kernel
theorem pm_okc63 : (List.range 4).all (fun i => pm_okM (252 + i)) = true := by decide +kernel
theorem pm_okc64 : (List.range 3).all (fun i => pm_okM (256 + i)) = true := by decide +kernel
theorem pm_okLaw : (pm_rows 259).all (fun r => pm_okE 18 false r.2) = true := by decide +kernel
theorem pm_okAll : ∀ m, m < 259 → pm_okM m = true := by
  intro m h
  have key : ∀ (lo n : Nat), (List.range n).all (fun i => pm_okM (lo + i)) = true → lo ≤ m → m < lo + n → pm_okM m = true := by
    intro lo n h1 h2 h3
    have h4 := List.all_eq_true.mp h1 (m - lo) (List.mem_range.mpr (by omega))
    rwa [show lo + (m - lo) = m by omega] at h4
  by_cases c0 : m < 4
  · exact key 0 4 pm_okc0 (by omega) (by omega)
  by_cases c1 : m < 8
  · exact key 4 4 pm_okc1 (by omega) (by omega)
  by_cases c2 : m < 12
  · exact key 8 4 pm_okc2 (by omega) (by omega)
  by_cases c3 : m < 16
  · exact key 12 4 pm_okc3 (by omega) (by omega)
  by_cases c4 : m < 20
  · exact key 16 4 pm_okc4 (by omega) (by omega)
  by_cases c5 : m < 24
  · exact key 20 4 pm_okc5 (by omega) (by omega)
  by_cases c6 : m < 28
  · exact key 24 4 pm_okc6 (by omega) (by omega)
  by_cases c7 : m < 32
  · exact key 28 4 pm_okc7 (by omega) (by omega)
  by_cases c8 : m < 36
  · exact key 32 4 pm_okc8 (by omega) (by omega)
  by_cases c9 : m < 40
  · exact key 36 4 pm_okc9 (by omega) (by omega)
  by_cases c10 : m < 44
  · exact key 40 4 pm_okc10 (by omega) (by omega)
  by_cases c11 : m < 48
  · exact key 44 4 pm_okc11 (by omega) (by omega)
  by_cases c12 : m < 52
  · exact key 48 4 pm_okc12 (by omega) (by omega)
  by_cases c13 : m < 56
  · exact key 52 4 pm_okc13 (by omega) (by omega)
  by_cases c14 : m < 60
  · exact key 56 4 pm_okc14 (by omega) (by omega)
  by_cases c15 : m < 64
  · exact key 60 4 pm_okc15 (by omega) (by omega)
  by_cases c16 : m < 68
  · exact key 64 4 pm_okc16 (by omega) (by omega)
  by_cases c17 : m < 72
  · exact key 68 4 pm_okc17 (by omega) (by omega)
  by_cases c18 : m < 76
  · exact key 72 4 pm_okc18 (by omega) (by omega)
  by_cases c19 : m < 80
  · exact key 76 4 pm_okc19 (by omega) (by omega)
  by_cases c20 : m < 84
  · exact key 80 4 pm_okc20 (by omega) (by omega)
  by_cases c21 : m < 88
  · exact key 84 4 pm_okc21 (by omega) (by omega)
  by_cases c22 : m < 92
  · exact key 88 4 pm_okc22 (by omega) (by omega)
  by_cases c23 : m < 96
  · exact key 92 4 pm_okc23 (by omega) (by omega)
  by_cases c24 : m < 100
  · exact key 96 4 pm_okc24 (by omega) (by omega)
  by_cases c25 : m < 104
  · exact key 100 4 pm_okc25 (by omega) (by omega)
  by_cases c26 : m < 108
  · exact key 104 4 pm_okc26 (by omega) (by omega)
  by_cases c27 : m < 112
  · exact key 108 4 pm_okc27 (by omega) (by omega)
  by_cases c28 : m < 116
  · exact key 112 4 pm_okc28 (by omega) (by omega)
  by_cases c29 : m < 120
  · exact key 116 4 pm_okc29 (by omega) (by omega)
  by_cases c30 : m < 124
  · exact key 120 4 pm_okc30 (by omega) (by omega)
  by_cases c31 : m < 128
  · exact key 124 4 pm_okc31 (by omega) (by omega)
  by_cases c32 : m < 132
  · exact key 128 4 pm_okc32 (by omega) (by omega)
  by_cases c33 : m < 136
  · exact key 132 4 pm_okc33 (by omega) (by omega)
  by_cases c34 : m < 140
  · exact key 136 4 pm_okc34 (by omega) (by omega)
  by_cases c35 : m < 144
  · exact key 140 4 pm_okc35 (by omega) (by omega)
  by_cases c36 : m < 148
  · exact key 144 4 pm_okc36 (by omega) (by omega)
  by_cases c37 : m < 152
  · exact key 148 4 pm_okc37 (by omega) (by omega)
  by_cases c38 : m < 156
  · exact key 152 4 pm_okc38 (by omega) (by omega)
  by_cases c39 : m < 160
  · exact key 156 4 pm_okc39 (by omega) (by omega)
  by_cases c40 : m < 164
  · exact key 160 4 pm_okc40 (by omega) (by omega)
  by_cases c41 : m < 168
  · exact key 164 4 pm_okc41 (by omega) (by omega)
  by_cases c42 : m < 172
  · exact key 168 4 pm_okc42 (by omega) (by omega)
  by_cases c43 : m < 176
  · exact key 172 4 pm_okc43 (by omega) (by omega)
  by_cases c44 : m < 180
  · exact key 176 4 pm_okc44 (by omega) (by omega)
  by_cases c45 : m < 184
  · exact key 180 4 pm_okc45 (by omega) (by omega)
  by_cases c46 : m < 188
  · exact key 184 4 pm_okc46 (by omega) (by omega)
  by_cases c47 : m < 192
  · exact key 188 4 pm_okc47 (by omega) (by omega)
  by_cases c48 : m < 196
  · exact key 192 4 pm_okc48 (by omega) (by omega)
  by_cases c49 : m < 200
  · exact key 196 4 pm_okc49 (by omega) (by omega)
  by_cases c50 : m < 204
  · exact key 200 4 pm_okc50 (by omega) (by omega)
  by_cases c51 : m < 208
  · exact key 204 4 pm_okc51 (by omega) (by omega)
  by_cases c52 : m < 212
  · exact key 208 4 pm_okc52 (by omega) (by omega)
  by_cases c53 : m < 216
  · exact key 212 4 pm_okc53 (by omega) (by omega)
  by_cases c54 : m < 220
  · exact key 216 4 pm_okc54 (by omega) (by omega)
  by_cases c55 : m < 224
  · exact key 220 4 pm_okc55 (by omega) (by omega)
  by_cases c56 : m < 228
  · exact key 224 4 pm_okc56 (by omega) (by omega)
  by_cases c57 : m < 232
  · exact key 228 4 pm_okc57 (by omega) (by omega)
  by_cases c58 : m < 236
  · exact key 232 4 pm_okc58 (by omega) (by omega)
  by_cases c59 : m < 240
  · exact key 236 4 pm_okc59 (by omega) (by omega)
  by_cases c60 : m < 244
  · exact key 240 4 pm_okc60 (by omega) (by omega)
  by_cases c61 : m < 248
  · exact key 244 4 pm_okc61 (by omega) (by omega)
  by_cases c62 : m < 252
  · exact key 248 4 pm_okc62 (by omega) (by omega)
  by_cases c63 : m < 256
  · exact key 252 4 pm_okc63 (by omega) (by omega)
  exact key 256 3 pm_okc64 (by omega) (by omega)
theorem pm_lkk0 : ((pm_lk.drop 0).take 20).all pm_lkc = true := by decide +kernel
theorem pm_lkk1 : ((pm_lk.drop 20).take 20).all pm_lkc = true := by decide +kernel
theorem pm_lkk2 : ((pm_lk.drop 40).take 20).all pm_lkc = true := by decide +kernel
theorem pm_lkk3 : ((pm_lk.drop 60).take 20).all pm_lkc = true := by decide +kernel
theorem pm_lkk4 : ((pm_lk.drop 80).take 20).all pm_lkc = true := by decide +kernel
theorem pm_lkk5 : ((pm_lk.drop 100).take 20).all pm_lkc = true := by decide +kernel
theorem pm_lkk6 : ((pm_lk.drop 120).take 20).all pm_lkc = true := by decide +kernel
theorem pm_lkk7 : ((pm_lk.drop 140).take 20).all pm_lkc = true := by decide +kernel
theorem pm_lkk8 : ((pm_lk.drop 160).take 20).all pm_lkc = true := by decide +kernel
theorem pm_lkk9 : ((pm_lk.drop 180).take 20).all pm_lkc = true := by decide +kernel
theorem pm_lkk10 : ((pm_lk.drop 200).take 20).all pm_lkc = true := by decide +kernel
theorem pm_lkk11 : ((pm_lk.drop 220).take 20).all pm_lkc = true := by decide +kernel
theorem pm_lkk12 : ((pm_lk.drop 240).take 20).all pm_lkc = true := by decide +kernel
theorem pm_lkk13 : ((pm_lk.drop 260).take 20).all pm_lkc = true := by decide +kernel
theorem pm_lkk14 : ((pm_lk.drop 280).take 20).all pm_lkc = true := by decide +kernel
theorem pm_lkk15 : ((pm_lk.drop 300).take 20).all pm_lkc = true := by decide +kernel
theorem pm_lkk16 : ((pm_lk.drop 320).take 20).all pm_lkc = true := by decide +kernel
theorem pm_lkk17 : ((pm_lk.drop 340).take 20).all pm_lkc = true := by decide +kernel
theorem pm_lkk18 : ((pm_lk.drop 360).take 20).all pm_lkc = true := by decide +kernel
theorem pm_lkk19 : ((pm_lk.drop 380).take 20).all pm_lkc = true := by decide +kernel
theorem pm_lkk20 : ((pm_lk.drop 400).take 20).all pm_lkc = true := by decide +kernel
theorem pm_lkk21 : ((pm_lk.drop 420).take 20).all pm_lkc = true := by decide +kernel
theorem pm_lkk22 : ((pm_lk.drop 440).take 20).all pm_lkc = true := by decide +kernel
theorem pm_lkk23 : ((pm_lk.drop 460).take 20).all pm_lkc = true := by decide +kernel
theorem pm_lkk24 : ((pm_lk.drop 480).take 20).all pm_lkc = true := by decide +kernel
theorem pm_lkk25 : ((pm_lk.drop 500).take 20).all pm_lkc = true := by decide +kernel
theorem pm_lkk26 : ((pm_lk.drop 520).take 20).all pm_lkc = true := by decide +kernel
theorem pm_lkk27 : ((pm_lk.drop 540).take 20).all pm_lkc = true := by decide +kernel
theorem pm_lkk28 : ((pm_lk.drop 560).take 20).all pm_lkc = true := by decide +kernel
theorem pm_lkk29 : ((pm_lk.drop 580).take 20).all pm_lkc = true := by decide +kernel
theorem pm_lkk30 : ((pm_lk.drop 600).take 20).all pm_lkc = true := by decide +kernel
theorem pm_lk_len : pm_lk.length = 606 := by decide +kernel
theorem pm_lk_all : ∀ (w : Nat) (r : Nat × Nat × Nat × Nat × Nat × Int × Nat), pm_nth pm_lk w = some r → pm_lkc r = true := by
  intro w r h
  rw [pm_nth_eq] at h
  have key : ∀ n : Nat, ((pm_lk.drop n).take 20).all pm_lkc = true → n ≤ w → w < n + 20 → pm_lkc r = true := by
    intro n h1 h2 h3
    refine List.all_eq_true.mp h1 r (List.mem_of_getElem? (i := w - n) ?_)
    rw [List.getElem?_take_of_lt (by omega), List.getElem?_drop, show n + (w - n) = w by omega]
    exact h
  have hlt := (List.getElem?_eq_some_iff.mp h).1
  rw [pm_lk_len] at hlt
  by_cases c0 : w < 20
  · exact key 0 pm_lkk0 (by omega) (by omega)
  by_cases c1 : w < 40
  · exact key 20 pm_lkk1 (by omega) (by omega)
  by_cases c2 : w < 60
  · exact key 40 pm_lkk2 (by omega) (by omega)
  by_cases c3 : w < 80
  · exact key 60 pm_lkk3 (by omega) (by omega)
  by_cases c4 : w < 100
  · exact key 80 pm_lkk4 (by omega) (by omega)
  by_cases c5 : w < 120
  · exact key 100 pm_lkk5 (by omega) (by omega)
  by_cases c6 : w < 140
  · exact key 120 pm_lkk6 (by omega) (by omega)
  by_cases c7 : w < 160
  · exact key 140 pm_lkk7 (by omega) (by omega)
  by_cases c8 : w < 180
  · exact key 160 pm_lkk8 (by omega) (by omega)
  by_cases c9 : w < 200
  · exact key 180 pm_lkk9 (by omega) (by omega)
  by_cases c10 : w < 220
  · exact key 200 pm_lkk10 (by omega) (by omega)
  by_cases c11 : w < 240
  · exact key 220 pm_lkk11 (by omega) (by omega)
  by_cases c12 : w < 260
  · exact key 240 pm_lkk12 (by omega) (by omega)
  by_cases c13 : w < 280
  · exact key 260 pm_lkk13 (by omega) (by omega)
  by_cases c14 : w < 300
  · exact key 280 pm_lkk14 (by omega) (by omega)
  by_cases c15 : w < 320
  · exact key 300 pm_lkk15 (by omega) (by omega)
  by_cases c16 : w < 340
  · exact key 320 pm_lkk16 (by omega) (by omega)
  by_cases c17 : w < 360
  · exact key 340 pm_lkk17 (by omega) (by omega)
  by_cases c18 : w < 380
  · exact key 360 pm_lkk18 (by omega) (by omega)
  by_cases c19 : w < 400
  · exact key 380 pm_lkk19 (by omega) (by omega)
  by_cases c20 : w < 420
  · exact key 400 pm_lkk20 (by omega) (by omega)
  by_cases c21 : w < 440
  · exact key 420 pm_lkk21 (by omega) (by omega)
  by_cases c22 : w < 460
  · exact key 440 pm_lkk22 (by omega) (by omega)
  by_cases c23 : w < 480
  · exact key 460 pm_lkk23 (by omega) (by omega)
  by_cases c24 : w < 500
  · exact key 480 pm_lkk24 (by omega) (by omega)
  by_cases c25 : w < 520
  · exact key 500 pm_lkk25 (by omega) (by omega)
  by_cases c26 : w < 540
  · exact key 520 pm_lkk26 (by omega) (by omega)
  by_cases c27 : w < 560
  · exact key 540 pm_lkk27 (by omega) (by omega)
  by_cases c28 : w < 580
  · exact key 560 pm_lkk28 (by omega) (by omega)
  by_cases c29 : w < 600
  · exact key 580 pm_lkk29 (by omega) (by omega)
  exact key 600 pm_lkk30 (by omega) (by omega)
set_option maxRecDepth 200000 in
theorem pm_cw0 : lw_tbl[135]? = some (.code ⟨"SnowHouse", "<init>", "()V"⟩ prog_1_method_1_code 1 none) := rfl
set_option maxRecDepth 200000 in
theorem pm_cw1 : lw_tbl[143]? = some (.code ⟨"SnowHouse$Story", "<init>", "()V"⟩ prog_11_method_1_code 2 none) := rfl
set_option maxRecDepth 200000 in
theorem pm_cw2 : lw_tbl[149]? = some (.code ⟨"SnowHouse$Breakfast", "<init>", "()V"⟩ prog_2_method_1_code 1 none) := rfl
set_option maxRecDepth 200000 in
theorem pm_cw3 : lw_tbl[176]? = some (.code ⟨"SnowHouse$Rule", "<init>", "()V"⟩ prog_9_method_1_code 1 none) := rfl
set_option maxRecDepth 200000 in
theorem pm_cw4 : lw_tbl[219]? = some (.code ⟨"SnowHouse$Claim", "<init>", "()V"⟩ prog_4_method_1_code 1 none) := rfl
set_option maxRecDepth 200000 in
theorem pm_cw5 : lw_tbl[293]? = some (.code ⟨"SnowHouse$Reader", "<init>", "([BLSnowHouse$Story;)V"⟩ prog_8_method_1_code 6 none) := rfl
set_option maxRecDepth 200000 in
theorem pm_cw6 : lw_tbl[299]? = some (.code ⟨"java/lang/String", "length", "()I"⟩ prog_16_method_54_code 1 (some .int)) := rfl
set_option maxRecDepth 200000 in
theorem pm_cw7 : lw_tbl[303]? = some (.code ⟨"java/lang/String", "coder", "()B"⟩ prog_16_method_152_code 1 (some .byte)) := rfl
set_option maxRecDepth 200000 in
theorem pm_cw8 : lw_tbl[309]? = some (.code ⟨"java/lang/String", "charAt", "(I)C"⟩ prog_16_method_56_code 2 (some .char)) := rfl
set_option maxRecDepth 200000 in
theorem pm_cw9 : lw_tbl[313]? = some (.code ⟨"java/lang/String", "isLatin1", "()Z"⟩ prog_16_method_154_code 1 (some .boolean)) := rfl
set_option maxRecDepth 200000 in
theorem pm_cw10 : lw_tbl[316]? = some (.code ⟨"java/lang/StringLatin1", "charAt", "([BI)C"⟩ prog_17_method_2_code 2 (some .char)) := rfl
set_option maxRecDepth 200000 in
theorem pm_cw11 : lw_tbl[319]? = some (.code ⟨"java/lang/String", "checkIndex", "(II)V"⟩ prog_16_method_155_code 2 none) := rfl
set_option maxRecDepth 200000 in
theorem pm_cw12 : lw_tbl[324]? = some (.code ⟨"jdk/internal/util/Preconditions", "checkIndex", "(IILjava/util/function/BiFunction;)I"⟩ prog_20_method_11_code 3 (some .int)) := rfl
set_option maxRecDepth 200000 in
theorem pm_cw13 : lw_tbl[386]? = some (.code ⟨"SnowHouse$Evening", "<init>", "(Z)V"⟩ prog_6_method_1_code 2 none) := rfl
set_option maxRecDepth 200000 in
theorem pm_cw14 : lw_tbl[392]? = some (.code ⟨"SnowHouse$Scene", "<init>", "()V"⟩ prog_10_method_1_code 1 none) := rfl
set_option maxRecDepth 200000 in
theorem pm_cw15 : lw_tbl[436]? = some (.code ⟨"SnowHouse$Diary", "<init>", "(Z)V"⟩ prog_5_method_1_code 3 none) := rfl
set_option maxRecDepth 200000 in
theorem pm_cw16 : lw_tbl[496]? = some (.code ⟨"SnowHouse$Finder", "<init>", "()V"⟩ prog_7_method_1_code 1 none) := rfl
set_option maxRecDepth 200000 in
theorem pm_cw17 : lw_tbl[533]? = some (.code ⟨"SnowHouse$Changes", "<init>", "()V"⟩ prog_3_method_1_code 1 none) := rfl
set_option maxRecDepth 200000 in
theorem pm_cw18 : lw_tbl[591]? = some (.code ⟨"SnowHouse", "feed", "(IIIII)I"⟩ prog_1_method_2_code 6 (some .int)) := rfl
set_option maxRecDepth 200000 in
theorem pm_cw19 : lw_tbl[595]? = some (.code ⟨"SnowHouse", "write", "(I)V"⟩ prog_1_method_3_code 3 none) := rfl
set_option maxRecDepth 200000 in
theorem pm_cw20 : lw_tbl[599]? = some (.code ⟨"SnowHouse", "end", "(I)Z"⟩ prog_1_method_4_code 2 (some .boolean)) := rfl
set_option maxRecDepth 200000 in
theorem pm_cw21 : lw_tbl[603]? = some (.code ⟨"SnowHouse", "text", "()I"⟩ prog_1_method_5_code 3 (some .int)) := rfl
set_option maxRecDepth 200000 in
theorem pm_cw22 : lw_tbl[607]? = some (.code ⟨"SnowHouse$Reader", "reads", "(ILSnowHouse$Story;)Z"⟩ prog_8_method_2_code 6 (some .boolean)) := rfl
set_option maxRecDepth 200000 in
theorem pm_cw23 : lw_tbl[610]? = some (.code ⟨"java/lang/Math", "min", "(II)I"⟩ prog_15_method_69_code 2 (some .int)) := rfl
set_option maxRecDepth 200000 in
theorem pm_cw24 : lw_tbl[614]? = some (.code ⟨"SnowHouse$Story", "clear", "()V"⟩ prog_11_method_2_code 1 none) := rfl
set_option maxRecDepth 200000 in
theorem pm_cw25 : lw_tbl[617]? = some (.code ⟨"java/util/Arrays", "fill", "([II)V"⟩ prog_19_method_103_code 4 none) := rfl
set_option maxRecDepth 200000 in
theorem pm_cw26 : lw_tbl[621]? = some (.code ⟨"SnowHouse$Breakfast", "clear", "()V"⟩ prog_2_method_3_code 1 none) := rfl
set_option maxRecDepth 200000 in
theorem pm_cw27 : lw_tbl[626]? = some (.code ⟨"SnowHouse$Reader", "step", "()V"⟩ prog_8_method_21_code 5 none) := rfl
set_option maxRecDepth 200000 in
theorem pm_cw28 : lw_tbl[630]? = some (.code ⟨"SnowHouse$Reader", "signAt", "(I)I"⟩ prog_8_method_22_code 2 (some .int)) := rfl
set_option maxRecDepth 200000 in
theorem pm_cw29 : lw_tbl[634]? = some (.code ⟨"SnowHouse$Reader", "fail", "(II)V"⟩ prog_8_method_24_code 3 none) := rfl
set_option maxRecDepth 200000 in
theorem pm_cw30 : lw_tbl[638]? = some (.code ⟨"SnowHouse$Reader", "wordToken", "()I"⟩ prog_8_method_23_code 2 (some .int)) := rfl
set_option maxRecDepth 200000 in
theorem pm_cw31 : lw_tbl[642]? = some (.code ⟨"SnowHouse$Reader", "sortTold", "()I"⟩ prog_8_method_3_code 1 (some .int)) := rfl
set_option maxRecDepth 200000 in
theorem pm_cw32 : lw_tbl[646]? = some (.code ⟨"SnowHouse$Story", "full", "(I)Z"⟩ prog_11_method_4_code 2 (some .boolean)) := rfl
set_option maxRecDepth 200000 in
theorem pm_cw33 : lw_tbl[652]? = some (.code ⟨"SnowHouse$Reader", "given", "(I)V"⟩ prog_8_method_18_code 2 none) := rfl
set_option maxRecDepth 200000 in
theorem pm_cw34 : lw_tbl[656]? = some (.code ⟨"SnowHouse$Story", "hasName", "(I)Z"⟩ prog_11_method_8_code 2 (some .boolean)) := rfl
set_option maxRecDepth 200000 in
theorem pm_cw35 : lw_tbl[660]? = some (.code ⟨"SnowHouse$Story", "named", "(II)I"⟩ prog_11_method_7_code 4 (some .int)) := rfl
set_option maxRecDepth 200000 in
theorem pm_cw36 : lw_tbl[664]? = some (.code ⟨"SnowHouse$Story", "giveName", "(II)V"⟩ prog_11_method_6_code 3 none) := rfl
set_option maxRecDepth 200000 in
theorem pm_cw37 : lw_tbl[668]? = some (.code ⟨"SnowHouse$Reader", "door", "()V"⟩ prog_8_method_4_code 3 none) := rfl
set_option maxRecDepth 200000 in
theorem pm_cw38 : lw_tbl[672]? = some (.code ⟨"SnowHouse$Reader", "asked", "(II)I"⟩ prog_8_method_19_code 4 (some .int)) := rfl
set_option maxRecDepth 200000 in
theorem pm_cw39 : lw_tbl[677]? = some (.code ⟨"SnowHouse$Story", "doorBetween", "(II)Z"⟩ prog_11_method_10_code 3 (some .boolean)) := rfl
set_option maxRecDepth 200000 in
theorem pm_cw40 : lw_tbl[681]? = some (.code ⟨"SnowHouse$Story", "addDoor", "(II)V"⟩ prog_11_method_11_code 3 none) := rfl
set_option maxRecDepth 200000 in
theorem pm_cw41 : lw_tbl[685]? = some (.code ⟨"SnowHouse$Reader", "beginsIn", "(I[I)V"⟩ prog_8_method_5_code 5 none) := rfl
set_option maxRecDepth 200000 in
theorem pm_cw42 : lw_tbl[689]? = some (.code ⟨"SnowHouse$Reader", "expect", "(I)V"⟩ prog_8_method_17_code 2 none) := rfl
set_option maxRecDepth 200000 in
theorem pm_cw43 : lw_tbl[693]? = some (.code ⟨"SnowHouse$Reader", "claimed", "(LSnowHouse$Claim;)V"⟩ prog_8_method_6_code 2 none) := rfl
set_option maxRecDepth 200000 in
theorem pm_cw44 : lw_tbl[697]? = some (.code ⟨"SnowHouse$Reader", "minuteFrom", "(I)I"⟩ prog_8_method_20_code 3 (some .int)) := rfl
set_option maxRecDepth 200000 in
theorem pm_cw45 : lw_tbl[701]? = some (.code ⟨"SnowHouse$Reader", "ruled", "(LSnowHouse$Rule;)V"⟩ prog_8_method_7_code 2 none) := rfl
set_option maxRecDepth 200000 in
theorem pm_cw46 : lw_tbl[705]? = some (.code ⟨"SnowHouse$Reader", "sum", "()V"⟩ prog_8_method_12_code 3 none) := rfl
set_option maxRecDepth 200000 in
theorem pm_cw47 : lw_tbl[709]? = some (.code ⟨"SnowHouse$Reader", "product", "()V"⟩ prog_8_method_13_code 3 none) := rfl
set_option maxRecDepth 200000 in
theorem pm_cw48 : lw_tbl[713]? = some (.code ⟨"SnowHouse$Reader", "part", "()V"⟩ prog_8_method_14_code 1 none) := rfl
set_option maxRecDepth 200000 in
theorem pm_cw49 : lw_tbl[717]? = some (.code ⟨"SnowHouse$Story", "emit", "(II)I"⟩ prog_11_method_12_code 3 (some .int)) := rfl
set_option maxRecDepth 200000 in
theorem pm_cw50 : lw_tbl[721]? = some (.code ⟨"SnowHouse$Reader", "pair", "()V"⟩ prog_8_method_15_code 2 none) := rfl
set_option maxRecDepth 200000 in
theorem pm_cw51 : lw_tbl[725]? = some (.code ⟨"SnowHouse$Reader", "opens", "(I)Z"⟩ prog_8_method_16_code 2 (some .boolean)) := rfl
set_option maxRecDepth 200000 in
theorem pm_cw52 : lw_tbl[729]? = some (.code ⟨"SnowHouse$Reader", "test", "()V"⟩ prog_8_method_8_code 3 none) := rfl
set_option maxRecDepth 200000 in
theorem pm_cw53 : lw_tbl[733]? = some (.code ⟨"SnowHouse$Reader", "both", "()V"⟩ prog_8_method_9_code 3 none) := rfl
set_option maxRecDepth 200000 in
theorem pm_cw54 : lw_tbl[737]? = some (.code ⟨"SnowHouse$Reader", "fact", "()V"⟩ prog_8_method_10_code 3 none) := rfl
set_option maxRecDepth 200000 in
theorem pm_cw55 : lw_tbl[741]? = some (.code ⟨"SnowHouse$Reader", "simpleFact", "()V"⟩ prog_8_method_11_code 4 none) := rfl
set_option maxRecDepth 200000 in
theorem pm_cw56 : lw_tbl[745]? = some (.code ⟨"SnowHouse$Story", "leadHere", "(I)V"⟩ prog_11_method_13_code 2 none) := rfl
set_option maxRecDepth 200000 in
theorem pm_cw57 : lw_tbl[749]? = some (.code ⟨"SnowHouse$Story", "settle", "()V"⟩ prog_11_method_15_code 3 none) := rfl
set_option maxRecDepth 200000 in
theorem pm_cw58 : lw_tbl[753]? = some (.code ⟨"SnowHouse$Story", "measure", "()V"⟩ prog_11_method_17_code 4 none) := rfl
set_option maxRecDepth 200000 in
theorem pm_cw59 : lw_tbl[759]? = some (.code ⟨"SnowHouse$Story", "besideTowards", "(II)I"⟩ prog_11_method_18_code 6 (some .int)) := rfl
set_option maxRecDepth 200000 in
theorem pm_cw60 : lw_tbl[763]? = some (.code ⟨"SnowHouse$Story", "fillTurns", "(IZI)I"⟩ prog_11_method_16_code 6 (some .int)) := rfl
set_option maxRecDepth 200000 in
theorem pm_cw61 : lw_tbl[767]? = some (.code ⟨"SnowHouse$Breakfast", "copy", "(LSnowHouse$Breakfast;)V"⟩ prog_2_method_2_code 3 none) := rfl
set_option maxRecDepth 200000 in
theorem pm_cw62 : lw_tbl[771]? = some (.code ⟨"SnowHouse$Evening", "forget", "()V"⟩ prog_6_method_2_code 1 none) := rfl
set_option maxRecDepth 200000 in
theorem pm_cw63 : lw_tbl[775]? = some (.code ⟨"SnowHouse$Diary", "forget", "()V"⟩ prog_5_method_2_code 1 none) := rfl
set_option maxRecDepth 200000 in
theorem pm_cw64 : lw_tbl[780]? = some (.code ⟨"SnowHouse$Changes", "forget", "()V"⟩ prog_3_method_2_code 1 none) := rfl
set_option maxRecDepth 200000 in
theorem pm_cw65 : lw_tbl[784]? = some (.code ⟨"SnowHouse$Story", "statements", "()I"⟩ prog_11_method_5_code 3 (some .int)) := rfl
set_option maxRecDepth 200000 in
theorem pm_cw66 : lw_tbl[788]? = some (.code ⟨"SnowHouse", "fault", "(I)I"⟩ prog_1_method_6_code 2 (some .int)) := rfl
set_option maxRecDepth 200000 in
theorem pm_cw67 : lw_tbl[792]? = some (.code ⟨"SnowHouse", "has", "(I)I"⟩ prog_1_method_7_code 2 (some .int)) := rfl
set_option maxRecDepth 200000 in
theorem pm_cw68 : lw_tbl[796]? = some (.code ⟨"SnowHouse", "letter", "(III)I"⟩ prog_1_method_8_code 4 (some .int)) := rfl
set_option maxRecDepth 200000 in
theorem pm_cw69 : lw_tbl[800]? = some (.code ⟨"SnowHouse$Story", "nameLetter", "(III)I"⟩ prog_11_method_9_code 7 (some .int)) := rfl
set_option maxRecDepth 200000 in
theorem pm_cw70 : lw_tbl[804]? = some (.code ⟨"SnowHouse$Story", "there", "(II)Z"⟩ prog_11_method_3_code 3 (some .boolean)) := rfl
set_option maxRecDepth 200000 in
theorem pm_cw71 : lw_tbl[808]? = some (.code ⟨"SnowHouse", "begin", "(II)Z"⟩ prog_1_method_9_code 3 (some .boolean)) := rfl
set_option maxRecDepth 200000 in
theorem pm_cw72 : lw_tbl[813]? = some (.code ⟨"SnowHouse", "put", "(II)Z"⟩ prog_1_method_10_code 3 (some .boolean)) := rfl
set_option maxRecDepth 200000 in
theorem pm_cw73 : lw_tbl[817]? = some (.code ⟨"SnowHouse", "skip", "(IZ)Z"⟩ prog_1_method_11_code 3 (some .boolean)) := rfl
set_option maxRecDepth 200000 in
theorem pm_cw74 : lw_tbl[821]? = some (.code ⟨"SnowHouse$Breakfast", "leave", "(IZ)V"⟩ prog_2_method_4_code 3 none) := rfl
set_option maxRecDepth 200000 in
theorem pm_cw75 : lw_tbl[825]? = some (.code ⟨"SnowHouse", "anew", "()V"⟩ prog_1_method_12_code 1 none) := rfl
set_option maxRecDepth 200000 in
theorem pm_cw76 : lw_tbl[829]? = some (.code ⟨"SnowHouse", "run", "(I)I"⟩ prog_1_method_13_code 2 (some .int)) := rfl
set_option maxRecDepth 200000 in
theorem pm_cw77 : lw_tbl[833]? = some (.code ⟨"SnowHouse$Evening", "pass", "(LSnowHouse$Story;LSnowHouse$Breakfast;II)V"⟩ prog_6_method_3_code 8 none) := rfl
set_option maxRecDepth 200000 in
theorem pm_cw78 : lw_tbl[840]? = some (.code ⟨"SnowHouse$Scene", "open", "(LSnowHouse$Breakfast;I)V"⟩ prog_10_method_2_code 4 none) := rfl
set_option maxRecDepth 200000 in
theorem pm_cw79 : lw_tbl[845]? = some (.code ⟨"SnowHouse$Scene", "lives", "(I)Z"⟩ prog_10_method_3_code 2 (some .boolean)) := rfl
set_option maxRecDepth 200000 in
theorem pm_cw80 : lw_tbl[849]? = some (.code ⟨"SnowHouse$Evening", "turn", "(LSnowHouse$Story;I)V"⟩ prog_6_method_4_code 7 none) := rfl
set_option maxRecDepth 200000 in
theorem pm_cw81 : lw_tbl[853]? = some (.code ⟨"SnowHouse$Breakfast", "leavesOut", "(I)Z"⟩ prog_2_method_5_code 2 (some .boolean)) := rfl
set_option maxRecDepth 200000 in
theorem pm_cw82 : lw_tbl[857]? = some (.code ⟨"SnowHouse$Scene", "worth", "([III)I"⟩ prog_10_method_5_code 9 (some .int)) := rfl
set_option maxRecDepth 200000 in
theorem pm_cw83 : lw_tbl[860]? = some (.code ⟨"java/lang/Math", "max", "(II)I"⟩ prog_15_method_65_code 2 (some .int)) := rfl
set_option maxRecDepth 200000 in
theorem pm_cw84 : lw_tbl[864]? = some (.code ⟨"SnowHouse$Scene", "joined", "(III)I"⟩ prog_10_method_7_code 4 (some .int)) := rfl
set_option maxRecDepth 200000 in
theorem pm_cw85 : lw_tbl[868]? = some (.code ⟨"SnowHouse$Scene", "within", "(J)I"⟩ prog_10_method_8_code 3 (some .int)) := rfl
set_option maxRecDepth 200000 in
theorem pm_cw86 : lw_tbl[873]? = some (.code ⟨"java/lang/Math", "min", "(JJ)J"⟩ prog_15_method_70_code 4 (some .long)) := rfl
set_option maxRecDepth 200000 in
theorem pm_cw87 : lw_tbl[876]? = some (.code ⟨"java/lang/Math", "max", "(JJ)J"⟩ prog_15_method_66_code 4 (some .long)) := rfl
set_option maxRecDepth 200000 in
theorem pm_cw88 : lw_tbl[879]? = some (.code ⟨"java/lang/Math", "floorDiv", "(II)I"⟩ prog_15_method_47_code 3 (some .int)) := rfl
set_option maxRecDepth 200000 in
theorem pm_cw89 : lw_tbl[882]? = some (.code ⟨"java/lang/Math", "floorMod", "(II)I"⟩ prog_15_method_50_code 3 (some .int)) := rfl
set_option maxRecDepth 200000 in
theorem pm_cw90 : lw_tbl[887]? = some (.code ⟨"SnowHouse$Scene", "found", "(II)I"⟩ prog_10_method_6_code 5 (some .int)) := rfl
set_option maxRecDepth 200000 in
theorem pm_cw91 : lw_tbl[892]? = some (.code ⟨"SnowHouse$Scene", "feel", "(II)V"⟩ prog_10_method_4_code 3 none) := rfl
set_option maxRecDepth 200000 in
theorem pm_cw92 : lw_tbl[896]? = some (.code ⟨"SnowHouse$Scene", "does", "(LSnowHouse$Rule;LSnowHouse$Story;)Z"⟩ prog_10_method_9_code 5 (some .boolean)) := rfl
set_option maxRecDepth 200000 in
theorem pm_cw93 : lw_tbl[900]? = some (.code ⟨"SnowHouse$Story", "wayOn", "(II)I"⟩ prog_11_method_14_code 3 (some .int)) := rfl
set_option maxRecDepth 200000 in
theorem pm_cw94 : lw_tbl[904]? = some (.code ⟨"SnowHouse$Scene", "goes", "(II)Z"⟩ prog_10_method_10_code 3 (some .boolean)) := rfl
set_option maxRecDepth 200000 in
theorem pm_cw95 : lw_tbl[908]? = some (.code ⟨"SnowHouse$Scene", "moves", "(IIII)Z"⟩ prog_10_method_11_code 5 (some .boolean)) := rfl
set_option maxRecDepth 200000 in
theorem pm_cw96 : lw_tbl[912]? = some (.code ⟨"SnowHouse$Scene", "wipes", "(I)Z"⟩ prog_10_method_12_code 3 (some .boolean)) := rfl
set_option maxRecDepth 200000 in
theorem pm_cw97 : lw_tbl[916]? = some (.code ⟨"SnowHouse$Scene", "kills", "(III)Z"⟩ prog_10_method_13_code 6 (some .boolean)) := rfl
set_option maxRecDepth 200000 in
theorem pm_cw98 : lw_tbl[920]? = some (.code ⟨"SnowHouse$Evening", "noteDone", "(LSnowHouse$Rule;I)V"⟩ prog_6_method_5_code 4 none) := rfl
set_option maxRecDepth 200000 in
theorem pm_cw99 : lw_tbl[924]? = some (.code ⟨"SnowHouse$Diary", "noteDone", "(LSnowHouse$Scene;LSnowHouse$Rule;I)V"⟩ prog_5_method_3_code 5 none) := rfl
set_option maxRecDepth 200000 in
theorem pm_cw100 : lw_tbl[928]? = some (.code ⟨"SnowHouse$Diary", "noteTrace", "(LSnowHouse$Scene;ILSnowHouse$Rule;)V"⟩ prog_5_method_4_code 4 none) := rfl
set_option maxRecDepth 200000 in
theorem pm_cw101 : lw_tbl[934]? = some (.code ⟨"SnowHouse$Diary", "noteWiped", "(II)V"⟩ prog_5_method_5_code 4 none) := rfl
set_option maxRecDepth 200000 in
theorem pm_cw102 : lw_tbl[938]? = some (.code ⟨"SnowHouse$Scene", "learn", "(I)V"⟩ prog_10_method_14_code 6 none) := rfl
set_option maxRecDepth 200000 in
theorem pm_cw103 : lw_tbl[942]? = some (.code ⟨"SnowHouse$Evening", "noteMinute", "(I)V"⟩ prog_6_method_6_code 3 none) := rfl
set_option maxRecDepth 200000 in
theorem pm_cw104 : lw_tbl[946]? = some (.code ⟨"SnowHouse$Diary", "noteMinute", "(LSnowHouse$Scene;)V"⟩ prog_5_method_6_code 4 none) := rfl
set_option maxRecDepth 200000 in
theorem pm_cw105 : lw_tbl[950]? = some (.code ⟨"SnowHouse", "was", "(II)I"⟩ prog_1_method_14_code 3 (some .int)) := rfl
set_option maxRecDepth 200000 in
theorem pm_cw106 : lw_tbl[954]? = some (.code ⟨"SnowHouse$Evening", "had", "(I)Z"⟩ prog_6_method_7_code 2 (some .boolean)) := rfl
set_option maxRecDepth 200000 in
theorem pm_cw107 : lw_tbl[958]? = some (.code ⟨"SnowHouse$Evening", "roomThen", "(II)I"⟩ prog_6_method_10_code 3 (some .int)) := rfl
set_option maxRecDepth 200000 in
theorem pm_cw108 : lw_tbl[962]? = some (.code ⟨"SnowHouse", "alive", "(II)I"⟩ prog_1_method_15_code 3 (some .int)) := rfl
set_option maxRecDepth 200000 in
theorem pm_cw109 : lw_tbl[966]? = some (.code ⟨"SnowHouse$Evening", "livedThen", "(II)Z"⟩ prog_6_method_12_code 3 (some .boolean)) := rfl
set_option maxRecDepth 200000 in
theorem pm_cw110 : lw_tbl[970]? = some (.code ⟨"SnowHouse$Evening", "companyThen", "(II)I"⟩ prog_6_method_11_code 3 (some .int)) := rfl
set_option maxRecDepth 200000 in
theorem pm_cw111 : lw_tbl[975]? = some (.code ⟨"SnowHouse", "where", "(II)I"⟩ prog_1_method_16_code 4 (some .int)) := rfl
set_option maxRecDepth 200000 in
theorem pm_cw112 : lw_tbl[979]? = some (.code ⟨"SnowHouse$Diary", "placeThen", "(II)I"⟩ prog_5_method_8_code 3 (some .int)) := rfl
set_option maxRecDepth 200000 in
theorem pm_cw113 : lw_tbl[983]? = some (.code ⟨"SnowHouse", "did", "(II)I"⟩ prog_1_method_17_code 3 (some .int)) := rfl
set_option maxRecDepth 200000 in
theorem pm_cw114 : lw_tbl[987]? = some (.code ⟨"SnowHouse$Diary", "doneThen", "(II)I"⟩ prog_5_method_9_code 4 (some .int)) := rfl
set_option maxRecDepth 200000 in
theorem pm_cw115 : lw_tbl[991]? = some (.code ⟨"SnowHouse", "mood", "(II)I"⟩ prog_1_method_18_code 3 (some .int)) := rfl
set_option maxRecDepth 200000 in
theorem pm_cw116 : lw_tbl[996]? = some (.code ⟨"SnowHouse$Diary", "moodThen", "(II)I"⟩ prog_5_method_10_code 4 (some .int)) := rfl
set_option maxRecDepth 200000 in
theorem pm_cw117 : lw_tbl[1001]? = some (.code ⟨"SnowHouse", "deed", "(II)I"⟩ prog_1_method_19_code 3 (some .int)) := rfl
set_option maxRecDepth 200000 in
theorem pm_cw118 : lw_tbl[1005]? = some (.code ⟨"SnowHouse$Evening", "deedPart", "(II)I"⟩ prog_6_method_8_code 4 (some .int)) := rfl
set_option maxRecDepth 200000 in
theorem pm_cw119 : lw_tbl[1009]? = some (.code ⟨"SnowHouse", "trace", "(II)I"⟩ prog_1_method_20_code 3 (some .int)) := rfl
set_option maxRecDepth 200000 in
theorem pm_cw120 : lw_tbl[1013]? = some (.code ⟨"SnowHouse$Diary", "tracePart", "(II)I"⟩ prog_5_method_7_code 4 (some .int)) := rfl
set_option maxRecDepth 200000 in
theorem pm_cw121 : lw_tbl[1019]? = some (.code ⟨"SnowHouse", "saw", "(III)I"⟩ prog_1_method_21_code 4 (some .int)) := rfl
set_option maxRecDepth 200000 in
theorem pm_cw122 : lw_tbl[1023]? = some (.code ⟨"SnowHouse$Evening", "witnesses", "(II)I"⟩ prog_6_method_13_code 3 (some .int)) := rfl
set_option maxRecDepth 200000 in
theorem pm_cw123 : lw_tbl[1027]? = some (.code ⟨"SnowHouse", "knows", "(II)I"⟩ prog_1_method_22_code 3 (some .int)) := rfl
set_option maxRecDepth 200000 in
theorem pm_cw124 : lw_tbl[1031]? = some (.code ⟨"SnowHouse", "needed", "(II)I"⟩ prog_1_method_23_code 3 (some .int)) := rfl
set_option maxRecDepth 200000 in
theorem pm_cw125 : lw_tbl[1035]? = some (.code ⟨"SnowHouse$Changes", "killsWithout", "(LSnowHouse$Story;LSnowHouse$Evening;II)Z"⟩ prog_3_method_3_code 5 (some .boolean)) := rfl
set_option maxRecDepth 200000 in
theorem pm_cw126 : lw_tbl[1039]? = some (.code ⟨"SnowHouse$Breakfast", "change", "(LSnowHouse$Breakfast;III)V"⟩ prog_2_method_6_code 6 none) := rfl
set_option maxRecDepth 200000 in
theorem pm_cw127 : lw_tbl[1047]? = some (.code ⟨"SnowHouse$Evening", "hasDeed", "(II)Z"⟩ prog_6_method_9_code 4 (some .boolean)) := rfl
set_option maxRecDepth 200000 in
theorem pm_cw128 : lw_tbl[1052]? = some (.code ⟨"SnowHouse", "span", "(IIZ)I"⟩ prog_1_method_24_code 4 (some .int)) := rfl
set_option maxRecDepth 200000 in
theorem pm_cw129 : lw_tbl[1056]? = some (.code ⟨"SnowHouse", "dead", "(I)Z"⟩ prog_1_method_30_code 2 (some .boolean)) := rfl
set_option maxRecDepth 200000 in
theorem pm_cw130 : lw_tbl[1060]? = some (.code ⟨"SnowHouse", "isSet", "(II)Z"⟩ prog_1_method_31_code 3 (some .boolean)) := rfl
set_option maxRecDepth 200000 in
theorem pm_cw131 : lw_tbl[1064]? = some (.code ⟨"SnowHouse$Finder", "look", "(LSnowHouse$Evening;II)V"⟩ prog_7_method_2_code 7 none) := rfl
set_option maxRecDepth 200000 in
theorem pm_cw132 : lw_tbl[1069]? = some (.code ⟨"SnowHouse$Evening", "livingLast", "(I)I"⟩ prog_6_method_14_code 4 (some .int)) := rfl
set_option maxRecDepth 200000 in
theorem pm_cw133 : lw_tbl[1077]? = some (.code ⟨"SnowHouse$Finder", "setSpan", "(I)V"⟩ prog_7_method_3_code 4 none) := rfl
set_option maxRecDepth 200000 in
theorem pm_cw134 : lw_tbl[1081]? = some (.code ⟨"SnowHouse", "could", "(III)I"⟩ prog_1_method_25_code 5 (some .int)) := rfl
set_option maxRecDepth 200000 in
theorem pm_cw135 : lw_tbl[1085]? = some (.code ⟨"SnowHouse$Finder", "suspects", "(I)I"⟩ prog_7_method_4_code 4 (some .int)) := rfl
set_option maxRecDepth 200000 in
theorem pm_cw136 : lw_tbl[1090]? = some (.code ⟨"SnowHouse$Finder", "cleared", "(II)Z"⟩ prog_7_method_5_code 4 (some .boolean)) := rfl
set_option maxRecDepth 200000 in
theorem pm_cw137 : lw_tbl[1094]? = some (.code ⟨"SnowHouse", "least", "(IZ)I"⟩ prog_1_method_26_code 4 (some .int)) := rfl
set_option maxRecDepth 200000 in
theorem pm_cw138 : lw_tbl[1098]? = some (.code ⟨"SnowHouse$Finder", "fewest", "()I"⟩ prog_7_method_7_code 4 (some .int)) := rfl
set_option maxRecDepth 200000 in
theorem pm_cw139 : lw_tbl[1102]? = some (.code ⟨"SnowHouse$Finder", "known", "(I)Z"⟩ prog_7_method_6_code 2 (some .boolean)) := rfl
set_option maxRecDepth 200000 in
theorem pm_cw140 : lw_tbl[1106]? = some (.code ⟨"java/lang/Integer", "bitCount", "(I)I"⟩ prog_14_method_49_code 1 (some .int)) := rfl
set_option maxRecDepth 200000 in
theorem pm_cw141 : lw_tbl[1114]? = some (.code ⟨"SnowHouse", "fair", "(I)I"⟩ prog_1_method_27_code 2 (some .int)) := rfl
set_option maxRecDepth 200000 in
theorem pm_cw142 : lw_tbl[1119]? = some (.code ⟨"SnowHouse", "claim", "(I)I"⟩ prog_1_method_28_code 3 (some .int)) := rfl
set_option maxRecDepth 200000 in
theorem pm_cw143 : lw_tbl[1123]? = some (.code ⟨"SnowHouse$Claim", "holds", "(LSnowHouse$Evening;)Z"⟩ prog_4_method_2_code 3 (some .boolean)) := rfl
set_option maxRecDepth 200000 in
theorem pm_cw144 : lw_tbl[1129]? = some (.code ⟨"SnowHouse$Claim", "catching", "(LSnowHouse$Evening;I)I"⟩ prog_4_method_3_code 7 (some .int)) := rfl
set_option maxRecDepth 200000 in
theorem pm_cw145 : lw_tbl[1135]? = some (.code ⟨"SnowHouse", "caught", "(IZ)I"⟩ prog_1_method_29_code 4 (some .int)) := rfl
set_option maxRecDepth 200000 in
theorem pm_cw146 : lw_tbl[1139]? = some (.code ⟨"SnowHouse", "spare", "(I)I"⟩ prog_1_method_32_code 2 (some .int)) := rfl
set_option maxRecDepth 200000 in
theorem pm_cw147 : lw_tbl[1143]? = some (.code ⟨"SnowHouse$Changes", "seekSparing", "(LSnowHouse$Story;LSnowHouse$Evening;)V"⟩ prog_3_method_4_code 7 none) := rfl
set_option maxRecDepth 200000 in
theorem pm_cw148 : lw_tbl[1148]? = some (.code ⟨"SnowHouse$Changes", "changeable", "(LSnowHouse$Story;I)I"⟩ prog_3_method_6_code 3 (some .int)) := rfl
set_option maxRecDepth 200000 in
theorem pm_cw149 : lw_tbl[1152]? = some (.code ⟨"SnowHouse", "fairest", "(I)I"⟩ prog_1_method_33_code 2 (some .int)) := rfl
set_option maxRecDepth 200000 in
theorem pm_cw150 : lw_tbl[1156]? = some (.code ⟨"SnowHouse$Changes", "seekFairest", "(LSnowHouse$Story;LSnowHouse$Evening;LSnowHouse$Finder;)V"⟩ prog_3_method_5_code 8 none) := rfl
set_option maxRecDepth 200000 in
theorem pm_cw151 : lw_tbl[1160]? = some (.code ⟨"SnowHouse$Changes", "leastToAsk", "(LSnowHouse$Story;LSnowHouse$Finder;)I"⟩ prog_3_method_7_code 4 (some .int)) := rfl
set_option maxRecDepth 200000 in
theorem pm_cw152 : lw_tbl[1168]? = some (.code ⟨"SnowHouseModel", "<init>", "()V"⟩ prog_13_method_1_code 1 none) := rfl
set_option maxRecDepth 200000 in
theorem pm_cw153 : lw_tbl[1412]? = some (.code ⟨"SnowHouseModel", "feed", "(IIIII)I"⟩ prog_13_method_4_code 6 (some .int)) := rfl
set_option maxRecDepth 200000 in
theorem pm_cw154 : lw_tbl[1416]? = some (.code ⟨"SnowHouseModel", "put", "(I)V"⟩ prog_13_method_3_code 3 none) := rfl
set_option maxRecDepth 200000 in
theorem pm_cw155 : lw_tbl[1420]? = some (.code ⟨"SnowHouseModel", "end", "(I)Z"⟩ prog_13_method_5_code 2 (some .boolean)) := rfl
set_option maxRecDepth 200000 in
theorem pm_cw156 : lw_tbl[1424]? = some (.code ⟨"SnowHouseModel", "text", "()I"⟩ prog_13_method_39_code 2 (some .int)) := rfl
set_option maxRecDepth 200000 in
theorem pm_cw157 : lw_tbl[1428]? = some (.code ⟨"SnowHouseModel", "next", "()V"⟩ prog_13_method_9_code 6 none) := rfl
set_option maxRecDepth 200000 in
theorem pm_cw158 : lw_tbl[1431]? = some (.code ⟨"SnowHouseModel", "isLetter", "(I)Z"⟩ prog_13_method_7_code 1 (some .boolean)) := rfl
set_option maxRecDepth 200000 in
theorem pm_cw159 : lw_tbl[1434]? = some (.code ⟨"SnowHouseModel", "isDigit", "(I)Z"⟩ prog_13_method_8_code 1 (some .boolean)) := rfl
set_option maxRecDepth 200000 in
theorem pm_cw160 : lw_tbl[1438]? = some (.code ⟨"SnowHouseModel", "blame", "(II)V"⟩ prog_13_method_6_code 3 none) := rfl
set_option maxRecDepth 200000 in
theorem pm_cw161 : lw_tbl[1442]? = some (.code ⟨"SnowHouseModel", "statement", "()V"⟩ prog_13_method_38_code 2 none) := rfl
set_option maxRecDepth 200000 in
theorem pm_cw162 : lw_tbl[1447]? = some (.code ⟨"SnowHouseModel", "isWord", "(J)Z"⟩ prog_13_method_11_code 3 (some .boolean)) := rfl
set_option maxRecDepth 200000 in
theorem pm_cw163 : lw_tbl[1456]? = some (.code ⟨"SnowHouseModel", "rule", "(I)V"⟩ prog_13_method_37_code 3 none) := rfl
set_option maxRecDepth 200000 in
theorem pm_cw164 : lw_tbl[1460]? = some (.code ⟨"SnowHouseModel", "counts", "(Z)Z"⟩ prog_13_method_30_code 2 (some .boolean)) := rfl
set_option maxRecDepth 200000 in
theorem pm_cw165 : lw_tbl[1464]? = some (.code ⟨"SnowHouseModel", "asked", "(II)I"⟩ prog_13_method_17_code 4 (some .int)) := rfl
set_option maxRecDepth 200000 in
theorem pm_cw166 : lw_tbl[1468]? = some (.code ⟨"SnowHouseModel", "looked", "(II)I"⟩ prog_13_method_16_code 4 (some .int)) := rfl
set_option maxRecDepth 200000 in
theorem pm_cw167 : lw_tbl[1472]? = some (.code ⟨"SnowHouseModel", "isOwn", "(J)Z"⟩ prog_13_method_13_code 3 (some .boolean)) := rfl
set_option maxRecDepth 200000 in
theorem pm_cw168 : lw_tbl[1497]? = some (.code ⟨"SnowHouseModel", "named", "(IJ)I"⟩ prog_13_method_14_code 8 (some .int)) := rfl
set_option maxRecDepth 200000 in
theorem pm_cw169 : lw_tbl[1501]? = some (.code ⟨"SnowHouseModel", "reads", "(Z)V"⟩ prog_13_method_29_code 3 none) := rfl
set_option maxRecDepth 200000 in
theorem pm_cw170 : lw_tbl[1505]? = some (.code ⟨"SnowHouseModel", "pushes", "(I)V"⟩ prog_13_method_23_code 2 none) := rfl
set_option maxRecDepth 200000 in
theorem pm_cw171 : lw_tbl[1509]? = some (.code ⟨"SnowHouseModel", "operand", "()Z"⟩ prog_13_method_27_code 4 (some .boolean)) := rfl
set_option maxRecDepth 200000 in
theorem pm_cw172 : lw_tbl[1512]? = some (.code ⟨"SnowHouseModel", "isTest", "(I)Z"⟩ prog_13_method_25_code 1 (some .boolean)) := rfl
set_option maxRecDepth 200000 in
theorem pm_cw173 : lw_tbl[1516]? = some (.code ⟨"SnowHouseModel", "holdsBack", "(I)V"⟩ prog_13_method_22_code 2 none) := rfl
set_option maxRecDepth 200000 in
theorem pm_cw174 : lw_tbl[1520]? = some (.code ⟨"SnowHouseModel", "isSign", "(I)Z"⟩ prog_13_method_10_code 2 (some .boolean)) := rfl
set_option maxRecDepth 200000 in
theorem pm_cw175 : lw_tbl[1524]? = some (.code ⟨"SnowHouseModel", "opens", "(I)V"⟩ prog_13_method_24_code 2 none) := rfl
set_option maxRecDepth 200000 in
theorem pm_cw176 : lw_tbl[1528]? = some (.code ⟨"SnowHouseModel", "add", "(II)V"⟩ prog_13_method_19_code 3 none) := rfl
set_option maxRecDepth 200000 in
theorem pm_cw177 : lw_tbl[1532]? = some (.code ⟨"SnowHouseModel", "fact", "()Z"⟩ prog_13_method_26_code 4 (some .boolean)) := rfl
set_option maxRecDepth 200000 in
theorem pm_cw178 : lw_tbl[1536]? = some (.code ⟨"SnowHouseModel", "goesOn", "()Z"⟩ prog_13_method_28_code 5 (some .boolean)) := rfl
set_option maxRecDepth 200000 in
theorem pm_cw179 : lw_tbl[1540]? = some (.code ⟨"SnowHouseModel", "joins", "(I)V"⟩ prog_13_method_21_code 2 none) := rfl
set_option maxRecDepth 200000 in
theorem pm_cw180 : lw_tbl[1543]? = some (.code ⟨"SnowHouseModel", "rank", "(I)I"⟩ prog_13_method_20_code 1 (some .int)) := rfl
set_option maxRecDepth 200000 in
theorem pm_cw181 : lw_tbl[1547]? = some (.code ⟨"SnowHouseModel", "must", "(J)V"⟩ prog_13_method_31_code 3 none) := rfl
set_option maxRecDepth 200000 in
theorem pm_cw182 : lw_tbl[1551]? = some (.code ⟨"SnowHouseModel", "room", "()V"⟩ prog_13_method_32_code 2 none) := rfl
set_option maxRecDepth 200000 in
theorem pm_cw183 : lw_tbl[1555]? = some (.code ⟨"SnowHouseModel", "fresh", "()J"⟩ prog_13_method_15_code 3 (some .long)) := rfl
set_option maxRecDepth 200000 in
theorem pm_cw184 : lw_tbl[1559]? = some (.code ⟨"SnowHouseModel", "door", "()V"⟩ prog_13_method_33_code 3 none) := rfl
set_option maxRecDepth 200000 in
theorem pm_cw185 : lw_tbl[1563]? = some (.code ⟨"SnowHouseModel", "who", "()V"⟩ prog_13_method_34_code 2 none) := rfl
set_option maxRecDepth 200000 in
theorem pm_cw186 : lw_tbl[1567]? = some (.code ⟨"SnowHouseModel", "thing", "()V"⟩ prog_13_method_35_code 2 none) := rfl
set_option maxRecDepth 200000 in
theorem pm_cw187 : lw_tbl[1571]? = some (.code ⟨"SnowHouseModel", "says", "()V"⟩ prog_13_method_36_code 2 none) := rfl
set_option maxRecDepth 200000 in
theorem pm_cw188 : lw_tbl[1575]? = some (.code ⟨"SnowHouseModel", "number", "(II)I"⟩ prog_13_method_18_code 4 (some .int)) := rfl
set_option maxRecDepth 200000 in
theorem pm_cw189 : lw_tbl[1578]? = some (.code ⟨"SnowHouseModel", "is", "(III)Z"⟩ prog_13_method_2_code 3 (some .boolean)) := rfl
set_option maxRecDepth 200000 in
theorem pm_cw190 : lw_tbl[1582]? = some (.code ⟨"SnowHouseModel", "must", "(I)V"⟩ prog_13_method_12_code 2 none) := rfl
set_option maxRecDepth 200000 in
theorem pm_cw191 : lw_tbl[1586]? = some (.code ⟨"SnowHouseModel", "clears", "()V"⟩ prog_13_method_47_code 2 none) := rfl
set_option maxRecDepth 200000 in
theorem pm_cw192 : lw_tbl[1590]? = some (.code ⟨"SnowHouseModel", "fault", "(I)I"⟩ prog_13_method_40_code 2 (some .int)) := rfl
set_option maxRecDepth 200000 in
theorem pm_cw193 : lw_tbl[1594]? = some (.code ⟨"SnowHouseModel", "has", "(I)I"⟩ prog_13_method_41_code 2 (some .int)) := rfl
set_option maxRecDepth 200000 in
theorem pm_cw194 : lw_tbl[1598]? = some (.code ⟨"SnowHouseModel", "letter", "(III)I"⟩ prog_13_method_46_code 4 (some .int)) := rfl
set_option maxRecDepth 200000 in
theorem pm_cw195 : lw_tbl[1602]? = some (.code ⟨"SnowHouseModel", "isRoom", "(I)Z"⟩ prog_13_method_43_code 2 (some .boolean)) := rfl
set_option maxRecDepth 200000 in
theorem pm_cw196 : lw_tbl[1605]? = some (.code ⟨"SnowHouseModel", "letterOf", "(JI)I"⟩ prog_13_method_42_code 6 (some .int)) := rfl
set_option maxRecDepth 200000 in
theorem pm_cw197 : lw_tbl[1610]? = some (.code ⟨"SnowHouseModel", "isWho", "(I)Z"⟩ prog_13_method_44_code 2 (some .boolean)) := rfl
set_option maxRecDepth 200000 in
theorem pm_cw198 : lw_tbl[1614]? = some (.code ⟨"SnowHouseModel", "isThing", "(I)Z"⟩ prog_13_method_45_code 2 (some .boolean)) := rfl
set_option maxRecDepth 200000 in
theorem pm_cw199 : lw_tbl[1618]? = some (.code ⟨"SnowHouseModel", "begin", "(II)Z"⟩ prog_13_method_49_code 3 (some .boolean)) := rfl
set_option maxRecDepth 200000 in
theorem pm_cw200 : lw_tbl[1622]? = some (.code ⟨"SnowHouseModel", "put", "(II)Z"⟩ prog_13_method_50_code 3 (some .boolean)) := rfl
set_option maxRecDepth 200000 in
theorem pm_cw201 : lw_tbl[1626]? = some (.code ⟨"SnowHouseModel", "skip", "(IZ)Z"⟩ prog_13_method_51_code 3 (some .boolean)) := rfl
set_option maxRecDepth 200000 in
theorem pm_cw202 : lw_tbl[1630]? = some (.code ⟨"SnowHouseModel", "anew", "()V"⟩ prog_13_method_52_code 1 none) := rfl
set_option maxRecDepth 200000 in
theorem pm_cw203 : lw_tbl[1634]? = some (.code ⟨"SnowHouseModel", "run", "(I)I"⟩ prog_13_method_72_code 2 (some .int)) := rfl
set_option maxRecDepth 200000 in
theorem pm_cw204 : lw_tbl[1638]? = some (.code ⟨"SnowHouseModel", "copies", "(II)V"⟩ prog_13_method_48_code 4 none) := rfl
set_option maxRecDepth 200000 in
theorem pm_cw205 : lw_tbl[1642]? = some (.code ⟨"SnowHouseModel", "goes", "(III)I"⟩ prog_13_method_71_code 6 (some .int)) := rfl
set_option maxRecDepth 200000 in
theorem pm_cw206 : lw_tbl[1646]? = some (.code ⟨"SnowHouseModel", "at", "(II)I"⟩ prog_13_method_53_code 3 (some .int)) := rfl
set_option maxRecDepth 200000 in
theorem pm_cw207 : lw_tbl[1650]? = some (.code ⟨"SnowHouseModel", "turn", "(II)V"⟩ prog_13_method_68_code 5 none) := rfl
set_option maxRecDepth 200000 in
theorem pm_cw208 : lw_tbl[1654]? = some (.code ⟨"SnowHouseModel", "isOf", "(III)Z"⟩ prog_13_method_67_code 4 (some .boolean)) := rfl
set_option maxRecDepth 200000 in
theorem pm_cw209 : lw_tbl[1658]? = some (.code ⟨"SnowHouseModel", "holds", "(I)Z"⟩ prog_13_method_66_code 3 (some .boolean)) := rfl
set_option maxRecDepth 200000 in
theorem pm_cw210 : lw_tbl[1662]? = some (.code ⟨"SnowHouseModel", "works", "(II)J"⟩ prog_13_method_59_code 6 (some .long)) := rfl
set_option maxRecDepth 200000 in
theorem pm_cw211 : lw_tbl[1666]? = some (.code ⟨"SnowHouseModel", "leaf", "(II)J"⟩ prog_13_method_58_code 5 (some .long)) := rfl
set_option maxRecDepth 200000 in
theorem pm_cw212 : lw_tbl[1670]? = some (.code ⟨"SnowHouseModel", "others", "(II)I"⟩ prog_13_method_57_code 5 (some .int)) := rfl
set_option maxRecDepth 200000 in
theorem pm_cw213 : lw_tbl[1673]? = some (.code ⟨"SnowHouseModel", "joined", "(IJJ)J"⟩ prog_13_method_56_code 5 (some .long)) := rfl
set_option maxRecDepth 200000 in
theorem pm_cw214 : lw_tbl[1676]? = some (.code ⟨"SnowHouseModel", "held", "(J)J"⟩ prog_13_method_54_code 2 (some .long)) := rfl
set_option maxRecDepth 200000 in
theorem pm_cw215 : lw_tbl[1681]? = some (.code ⟨"SnowHouseModel", "over", "(JJ)J"⟩ prog_13_method_55_code 6 (some .long)) := rfl
set_option maxRecDepth 200000 in
theorem pm_cw216 : lw_tbl[1685]? = some (.code ⟨"SnowHouseModel", "does", "(I)Z"⟩ prog_13_method_65_code 6 (some .boolean)) := rfl
set_option maxRecDepth 200000 in
theorem pm_cw217 : lw_tbl[1689]? = some (.code ⟨"SnowHouseModel", "step", "(II)I"⟩ prog_13_method_61_code 5 (some .int)) := rfl
set_option maxRecDepth 200000 in
theorem pm_cw218 : lw_tbl[1693]? = some (.code ⟨"SnowHouseModel", "ways", "(I)V"⟩ prog_13_method_60_code 5 none) := rfl
set_option maxRecDepth 200000 in
theorem pm_cw219 : lw_tbl[1697]? = some (.code ⟨"SnowHouseModel", "leaves", "(III)V"⟩ prog_13_method_62_code 5 none) := rfl
set_option maxRecDepth 200000 in
theorem pm_cw220 : lw_tbl[1701]? = some (.code ⟨"SnowHouseModel", "wipes", "(I)Z"⟩ prog_13_method_63_code 5 (some .boolean)) := rfl
set_option maxRecDepth 200000 in
theorem pm_cw221 : lw_tbl[1705]? = some (.code ⟨"SnowHouseModel", "kills", "(IIII)Z"⟩ prog_13_method_64_code 6 (some .boolean)) := rfl
set_option maxRecDepth 200000 in
theorem pm_cw222 : lw_tbl[1709]? = some (.code ⟨"SnowHouseModel", "ends", "()V"⟩ prog_13_method_69_code 3 none) := rfl
set_option maxRecDepth 200000 in
theorem pm_cw223 : lw_tbl[1713]? = some (.code ⟨"SnowHouseModel", "sees", "(IIII)I"⟩ prog_13_method_70_code 6 (some .int)) := rfl
set_option maxRecDepth 200000 in
theorem pm_cw224 : lw_tbl[1717]? = some (.code ⟨"SnowHouseModel", "was", "(II)I"⟩ prog_13_method_74_code 3 (some .int)) := rfl
set_option maxRecDepth 200000 in
theorem pm_cw225 : lw_tbl[1721]? = some (.code ⟨"SnowHouseModel", "isMinute", "(I)Z"⟩ prog_13_method_73_code 2 (some .boolean)) := rfl
set_option maxRecDepth 200000 in
theorem pm_cw226 : lw_tbl[1725]? = some (.code ⟨"SnowHouseModel", "alive", "(II)I"⟩ prog_13_method_75_code 3 (some .int)) := rfl
set_option maxRecDepth 200000 in
theorem pm_cw227 : lw_tbl[1729]? = some (.code ⟨"SnowHouseModel", "where", "(II)I"⟩ prog_13_method_76_code 3 (some .int)) := rfl
set_option maxRecDepth 200000 in
theorem pm_cw228 : lw_tbl[1733]? = some (.code ⟨"SnowHouseModel", "did", "(II)I"⟩ prog_13_method_77_code 3 (some .int)) := rfl
set_option maxRecDepth 200000 in
theorem pm_cw229 : lw_tbl[1737]? = some (.code ⟨"SnowHouseModel", "mood", "(II)I"⟩ prog_13_method_78_code 3 (some .int)) := rfl
set_option maxRecDepth 200000 in
theorem pm_cw230 : lw_tbl[1742]? = some (.code ⟨"SnowHouseModel", "deed", "(II)I"⟩ prog_13_method_79_code 3 (some .int)) := rfl
set_option maxRecDepth 200000 in
theorem pm_cw231 : lw_tbl[1746]? = some (.code ⟨"SnowHouseModel", "trace", "(II)I"⟩ prog_13_method_80_code 3 (some .int)) := rfl
set_option maxRecDepth 200000 in
theorem pm_cw232 : lw_tbl[1750]? = some (.code ⟨"SnowHouseModel", "saw", "(III)I"⟩ prog_13_method_81_code 4 (some .int)) := rfl
set_option maxRecDepth 200000 in
theorem pm_cw233 : lw_tbl[1754]? = some (.code ⟨"SnowHouseModel", "knows", "(II)I"⟩ prog_13_method_82_code 3 (some .int)) := rfl
set_option maxRecDepth 200000 in
theorem pm_cw234 : lw_tbl[1758]? = some (.code ⟨"SnowHouseModel", "needed", "(II)I"⟩ prog_13_method_83_code 5 (some .int)) := rfl
set_option maxRecDepth 200000 in
theorem pm_cw235 : lw_tbl[1762]? = some (.code ⟨"SnowHouseModel", "span", "(IIZ)I"⟩ prog_13_method_94_code 4 (some .int)) := rfl
set_option maxRecDepth 200000 in
theorem pm_cw236 : lw_tbl[1766]? = some (.code ⟨"SnowHouseModel", "isVictim", "(I)Z"⟩ prog_13_method_92_code 2 (some .boolean)) := rfl
set_option maxRecDepth 200000 in
theorem pm_cw237 : lw_tbl[1770]? = some (.code ⟨"SnowHouseModel", "isDead", "(II)Z"⟩ prog_13_method_84_code 3 (some .boolean)) := rfl
set_option maxRecDepth 200000 in
theorem pm_cw238 : lw_tbl[1774]? = some (.code ⟨"SnowHouseModel", "isSet", "(I)Z"⟩ prog_13_method_93_code 2 (some .boolean)) := rfl
set_option maxRecDepth 200000 in
theorem pm_cw239 : lw_tbl[1778]? = some (.code ⟨"SnowHouseModel", "everybody", "()I"⟩ prog_13_method_90_code 1 (some .int)) := rfl
set_option maxRecDepth 200000 in
theorem pm_cw240 : lw_tbl[1782]? = some (.code ⟨"SnowHouseModel", "heard", "(II)I"⟩ prog_13_method_85_code 5 (some .int)) := rfl
set_option maxRecDepth 200000 in
theorem pm_cw241 : lw_tbl[1786]? = some (.code ⟨"SnowHouseModel", "spans", "(III)V"⟩ prog_13_method_86_code 7 none) := rfl
set_option maxRecDepth 200000 in
theorem pm_cw242 : lw_tbl[1790]? = some (.code ⟨"SnowHouseModel", "could", "(III)I"⟩ prog_13_method_95_code 4 (some .int)) := rfl
set_option maxRecDepth 200000 in
theorem pm_cw243 : lw_tbl[1794]? = some (.code ⟨"SnowHouseModel", "coulds", "(III)I"⟩ prog_13_method_88_code 11 (some .int)) := rfl
set_option maxRecDepth 200000 in
theorem pm_cw244 : lw_tbl[1798]? = some (.code ⟨"SnowHouseModel", "isClear", "(IIIII)Z"⟩ prog_13_method_87_code 8 (some .boolean)) := rfl
set_option maxRecDepth 200000 in
theorem pm_cw245 : lw_tbl[1802]? = some (.code ⟨"SnowHouseModel", "least", "(IZ)I"⟩ prog_13_method_96_code 4 (some .int)) := rfl
set_option maxRecDepth 200000 in
theorem pm_cw246 : lw_tbl[1806]? = some (.code ⟨"SnowHouseModel", "leastSet", "(II)I"⟩ prog_13_method_91_code 5 (some .int)) := rfl
set_option maxRecDepth 200000 in
theorem pm_cw247 : lw_tbl[1809]? = some (.code ⟨"SnowHouseModel", "bitsOf", "(I)I"⟩ prog_13_method_89_code 3 (some .int)) := rfl
set_option maxRecDepth 200000 in
theorem pm_cw248 : lw_tbl[1813]? = some (.code ⟨"SnowHouseModel", "fair", "(I)I"⟩ prog_13_method_98_code 2 (some .int)) := rfl
set_option maxRecDepth 200000 in
theorem pm_cw249 : lw_tbl[1817]? = some (.code ⟨"SnowHouseModel", "isFair", "(II)Z"⟩ prog_13_method_97_code 3 (some .boolean)) := rfl
set_option maxRecDepth 200000 in
theorem pm_cw250 : lw_tbl[1821]? = some (.code ⟨"SnowHouseModel", "claim", "(I)I"⟩ prog_13_method_103_code 2 (some .int)) := rfl
set_option maxRecDepth 200000 in
theorem pm_cw251 : lw_tbl[1825]? = some (.code ⟨"SnowHouseModel", "isClaim", "(I)Z"⟩ prog_13_method_102_code 2 (some .boolean)) := rfl
set_option maxRecDepth 200000 in
theorem pm_cw252 : lw_tbl[1829]? = some (.code ⟨"SnowHouseModel", "isLie", "(I)Z"⟩ prog_13_method_100_code 4 (some .boolean)) := rfl
set_option maxRecDepth 200000 in
theorem pm_cw253 : lw_tbl[1833]? = some (.code ⟨"SnowHouseModel", "claimLast", "(I)I"⟩ prog_13_method_99_code 3 (some .int)) := rfl
set_option maxRecDepth 200000 in
theorem pm_cw254 : lw_tbl[1837]? = some (.code ⟨"SnowHouseModel", "catches", "(I)V"⟩ prog_13_method_101_code 6 none) := rfl
set_option maxRecDepth 200000 in
theorem pm_cw255 : lw_tbl[1841]? = some (.code ⟨"SnowHouseModel", "caught", "(IZ)I"⟩ prog_13_method_104_code 3 (some .int)) := rfl
set_option maxRecDepth 200000 in
theorem pm_cw256 : lw_tbl[1845]? = some (.code ⟨"SnowHouseModel", "spare", "(I)I"⟩ prog_13_method_106_code 4 (some .int)) := rfl
set_option maxRecDepth 200000 in
theorem pm_cw257 : lw_tbl[1849]? = some (.code ⟨"SnowHouseModel", "changes", "(I)Z"⟩ prog_13_method_105_code 4 (some .boolean)) := rfl
set_option maxRecDepth 200000 in
theorem pm_cw258 : lw_tbl[1853]? = some (.code ⟨"SnowHouseModel", "fairest", "(I)I"⟩ prog_13_method_107_code 7 (some .int)) := rfl
theorem pm_cwAll : ∀ m, m < 259 → ∃ y : pm_MY, pm_nth pm_mys m = some y ∧ lw_tbl[y.2.2.2.2.1]? = some (.code y.1 y.2.1 y.2.2.1 y.2.2.2.1) := fun m h => match m, h with
  | 0, _ => ⟨_, rfl, pm_cw0⟩
  | 1, _ => ⟨_, rfl, pm_cw1⟩
  | 2, _ => ⟨_, rfl, pm_cw2⟩
  | 3, _ => ⟨_, rfl, pm_cw3⟩
  | 4, _ => ⟨_, rfl, pm_cw4⟩
  | 5, _ => ⟨_, rfl, pm_cw5⟩
  | 6, _ => ⟨_, rfl, pm_cw6⟩
  | 7, _ => ⟨_, rfl, pm_cw7⟩
  | 8, _ => ⟨_, rfl, pm_cw8⟩
  | 9, _ => ⟨_, rfl, pm_cw9⟩
  | 10, _ => ⟨_, rfl, pm_cw10⟩
  | 11, _ => ⟨_, rfl, pm_cw11⟩
  | 12, _ => ⟨_, rfl, pm_cw12⟩
  | 13, _ => ⟨_, rfl, pm_cw13⟩
  | 14, _ => ⟨_, rfl, pm_cw14⟩
  | 15, _ => ⟨_, rfl, pm_cw15⟩
  | 16, _ => ⟨_, rfl, pm_cw16⟩
  | 17, _ => ⟨_, rfl, pm_cw17⟩
  | 18, _ => ⟨_, rfl, pm_cw18⟩
  | 19, _ => ⟨_, rfl, pm_cw19⟩
  | 20, _ => ⟨_, rfl, pm_cw20⟩
  | 21, _ => ⟨_, rfl, pm_cw21⟩
  | 22, _ => ⟨_, rfl, pm_cw22⟩
  | 23, _ => ⟨_, rfl, pm_cw23⟩
  | 24, _ => ⟨_, rfl, pm_cw24⟩
  | 25, _ => ⟨_, rfl, pm_cw25⟩
  | 26, _ => ⟨_, rfl, pm_cw26⟩
  | 27, _ => ⟨_, rfl, pm_cw27⟩
  | 28, _ => ⟨_, rfl, pm_cw28⟩
  | 29, _ => ⟨_, rfl, pm_cw29⟩
  | 30, _ => ⟨_, rfl, pm_cw30⟩
  | 31, _ => ⟨_, rfl, pm_cw31⟩
  | 32, _ => ⟨_, rfl, pm_cw32⟩
  | 33, _ => ⟨_, rfl, pm_cw33⟩
  | 34, _ => ⟨_, rfl, pm_cw34⟩
  | 35, _ => ⟨_, rfl, pm_cw35⟩
  | 36, _ => ⟨_, rfl, pm_cw36⟩
  | 37, _ => ⟨_, rfl, pm_cw37⟩
  | 38, _ => ⟨_, rfl, pm_cw38⟩
  | 39, _ => ⟨_, rfl, pm_cw39⟩
  | 40, _ => ⟨_, rfl, pm_cw40⟩
  | 41, _ => ⟨_, rfl, pm_cw41⟩
  | 42, _ => ⟨_, rfl, pm_cw42⟩
  | 43, _ => ⟨_, rfl, pm_cw43⟩
  | 44, _ => ⟨_, rfl, pm_cw44⟩
  | 45, _ => ⟨_, rfl, pm_cw45⟩
  | 46, _ => ⟨_, rfl, pm_cw46⟩
  | 47, _ => ⟨_, rfl, pm_cw47⟩
  | 48, _ => ⟨_, rfl, pm_cw48⟩
  | 49, _ => ⟨_, rfl, pm_cw49⟩
  | 50, _ => ⟨_, rfl, pm_cw50⟩
  | 51, _ => ⟨_, rfl, pm_cw51⟩
  | 52, _ => ⟨_, rfl, pm_cw52⟩
  | 53, _ => ⟨_, rfl, pm_cw53⟩
  | 54, _ => ⟨_, rfl, pm_cw54⟩
  | 55, _ => ⟨_, rfl, pm_cw55⟩
  | 56, _ => ⟨_, rfl, pm_cw56⟩
  | 57, _ => ⟨_, rfl, pm_cw57⟩
  | 58, _ => ⟨_, rfl, pm_cw58⟩
  | 59, _ => ⟨_, rfl, pm_cw59⟩
  | 60, _ => ⟨_, rfl, pm_cw60⟩
  | 61, _ => ⟨_, rfl, pm_cw61⟩
  | 62, _ => ⟨_, rfl, pm_cw62⟩
  | 63, _ => ⟨_, rfl, pm_cw63⟩
  | 64, _ => ⟨_, rfl, pm_cw64⟩
  | 65, _ => ⟨_, rfl, pm_cw65⟩
  | 66, _ => ⟨_, rfl, pm_cw66⟩
  | 67, _ => ⟨_, rfl, pm_cw67⟩
  | 68, _ => ⟨_, rfl, pm_cw68⟩
  | 69, _ => ⟨_, rfl, pm_cw69⟩
  | 70, _ => ⟨_, rfl, pm_cw70⟩
  | 71, _ => ⟨_, rfl, pm_cw71⟩
  | 72, _ => ⟨_, rfl, pm_cw72⟩
  | 73, _ => ⟨_, rfl, pm_cw73⟩
  | 74, _ => ⟨_, rfl, pm_cw74⟩
  | 75, _ => ⟨_, rfl, pm_cw75⟩
  | 76, _ => ⟨_, rfl, pm_cw76⟩
  | 77, _ => ⟨_, rfl, pm_cw77⟩
  | 78, _ => ⟨_, rfl, pm_cw78⟩
  | 79, _ => ⟨_, rfl, pm_cw79⟩
  | 80, _ => ⟨_, rfl, pm_cw80⟩
  | 81, _ => ⟨_, rfl, pm_cw81⟩
  | 82, _ => ⟨_, rfl, pm_cw82⟩
  | 83, _ => ⟨_, rfl, pm_cw83⟩
  | 84, _ => ⟨_, rfl, pm_cw84⟩
  | 85, _ => ⟨_, rfl, pm_cw85⟩
  | 86, _ => ⟨_, rfl, pm_cw86⟩
  | 87, _ => ⟨_, rfl, pm_cw87⟩
  | 88, _ => ⟨_, rfl, pm_cw88⟩
  | 89, _ => ⟨_, rfl, pm_cw89⟩
  | 90, _ => ⟨_, rfl, pm_cw90⟩
  | 91, _ => ⟨_, rfl, pm_cw91⟩
  | 92, _ => ⟨_, rfl, pm_cw92⟩
  | 93, _ => ⟨_, rfl, pm_cw93⟩
  | 94, _ => ⟨_, rfl, pm_cw94⟩
  | 95, _ => ⟨_, rfl, pm_cw95⟩
  | 96, _ => ⟨_, rfl, pm_cw96⟩
  | 97, _ => ⟨_, rfl, pm_cw97⟩
  | 98, _ => ⟨_, rfl, pm_cw98⟩
  | 99, _ => ⟨_, rfl, pm_cw99⟩
  | 100, _ => ⟨_, rfl, pm_cw100⟩
  | 101, _ => ⟨_, rfl, pm_cw101⟩
  | 102, _ => ⟨_, rfl, pm_cw102⟩
  | 103, _ => ⟨_, rfl, pm_cw103⟩
  | 104, _ => ⟨_, rfl, pm_cw104⟩
  | 105, _ => ⟨_, rfl, pm_cw105⟩
  | 106, _ => ⟨_, rfl, pm_cw106⟩
  | 107, _ => ⟨_, rfl, pm_cw107⟩
  | 108, _ => ⟨_, rfl, pm_cw108⟩
  | 109, _ => ⟨_, rfl, pm_cw109⟩
  | 110, _ => ⟨_, rfl, pm_cw110⟩
  | 111, _ => ⟨_, rfl, pm_cw111⟩
  | 112, _ => ⟨_, rfl, pm_cw112⟩
  | 113, _ => ⟨_, rfl, pm_cw113⟩
  | 114, _ => ⟨_, rfl, pm_cw114⟩
  | 115, _ => ⟨_, rfl, pm_cw115⟩
  | 116, _ => ⟨_, rfl, pm_cw116⟩
  | 117, _ => ⟨_, rfl, pm_cw117⟩
  | 118, _ => ⟨_, rfl, pm_cw118⟩
  | 119, _ => ⟨_, rfl, pm_cw119⟩
  | 120, _ => ⟨_, rfl, pm_cw120⟩
  | 121, _ => ⟨_, rfl, pm_cw121⟩
  | 122, _ => ⟨_, rfl, pm_cw122⟩
  | 123, _ => ⟨_, rfl, pm_cw123⟩
  | 124, _ => ⟨_, rfl, pm_cw124⟩
  | 125, _ => ⟨_, rfl, pm_cw125⟩
  | 126, _ => ⟨_, rfl, pm_cw126⟩
  | 127, _ => ⟨_, rfl, pm_cw127⟩
  | 128, _ => ⟨_, rfl, pm_cw128⟩
  | 129, _ => ⟨_, rfl, pm_cw129⟩
  | 130, _ => ⟨_, rfl, pm_cw130⟩
  | 131, _ => ⟨_, rfl, pm_cw131⟩
  | 132, _ => ⟨_, rfl, pm_cw132⟩
  | 133, _ => ⟨_, rfl, pm_cw133⟩
  | 134, _ => ⟨_, rfl, pm_cw134⟩
  | 135, _ => ⟨_, rfl, pm_cw135⟩
  | 136, _ => ⟨_, rfl, pm_cw136⟩
  | 137, _ => ⟨_, rfl, pm_cw137⟩
  | 138, _ => ⟨_, rfl, pm_cw138⟩
  | 139, _ => ⟨_, rfl, pm_cw139⟩
  | 140, _ => ⟨_, rfl, pm_cw140⟩
  | 141, _ => ⟨_, rfl, pm_cw141⟩
  | 142, _ => ⟨_, rfl, pm_cw142⟩
  | 143, _ => ⟨_, rfl, pm_cw143⟩
  | 144, _ => ⟨_, rfl, pm_cw144⟩
  | 145, _ => ⟨_, rfl, pm_cw145⟩
  | 146, _ => ⟨_, rfl, pm_cw146⟩
  | 147, _ => ⟨_, rfl, pm_cw147⟩
  | 148, _ => ⟨_, rfl, pm_cw148⟩
  | 149, _ => ⟨_, rfl, pm_cw149⟩
  | 150, _ => ⟨_, rfl, pm_cw150⟩
  | 151, _ => ⟨_, rfl, pm_cw151⟩
  | 152, _ => ⟨_, rfl, pm_cw152⟩
  | 153, _ => ⟨_, rfl, pm_cw153⟩
  | 154, _ => ⟨_, rfl, pm_cw154⟩
  | 155, _ => ⟨_, rfl, pm_cw155⟩
  | 156, _ => ⟨_, rfl, pm_cw156⟩
  | 157, _ => ⟨_, rfl, pm_cw157⟩
  | 158, _ => ⟨_, rfl, pm_cw158⟩
  | 159, _ => ⟨_, rfl, pm_cw159⟩
  | 160, _ => ⟨_, rfl, pm_cw160⟩
  | 161, _ => ⟨_, rfl, pm_cw161⟩
  | 162, _ => ⟨_, rfl, pm_cw162⟩
  | 163, _ => ⟨_, rfl, pm_cw163⟩
  | 164, _ => ⟨_, rfl, pm_cw164⟩
  | 165, _ => ⟨_, rfl, pm_cw165⟩
  | 166, _ => ⟨_, rfl, pm_cw166⟩
  | 167, _ => ⟨_, rfl, pm_cw167⟩
  | 168, _ => ⟨_, rfl, pm_cw168⟩
  | 169, _ => ⟨_, rfl, pm_cw169⟩
  | 170, _ => ⟨_, rfl, pm_cw170⟩
  | 171, _ => ⟨_, rfl, pm_cw171⟩
  | 172, _ => ⟨_, rfl, pm_cw172⟩
  | 173, _ => ⟨_, rfl, pm_cw173⟩
  | 174, _ => ⟨_, rfl, pm_cw174⟩
  | 175, _ => ⟨_, rfl, pm_cw175⟩
  | 176, _ => ⟨_, rfl, pm_cw176⟩
  | 177, _ => ⟨_, rfl, pm_cw177⟩
  | 178, _ => ⟨_, rfl, pm_cw178⟩
  | 179, _ => ⟨_, rfl, pm_cw179⟩
  | 180, _ => ⟨_, rfl, pm_cw180⟩
  | 181, _ => ⟨_, rfl, pm_cw181⟩
  | 182, _ => ⟨_, rfl, pm_cw182⟩
  | 183, _ => ⟨_, rfl, pm_cw183⟩
  | 184, _ => ⟨_, rfl, pm_cw184⟩
  | 185, _ => ⟨_, rfl, pm_cw185⟩
  | 186, _ => ⟨_, rfl, pm_cw186⟩
  | 187, _ => ⟨_, rfl, pm_cw187⟩
  | 188, _ => ⟨_, rfl, pm_cw188⟩
  | 189, _ => ⟨_, rfl, pm_cw189⟩
  | 190, _ => ⟨_, rfl, pm_cw190⟩
  | 191, _ => ⟨_, rfl, pm_cw191⟩
  | 192, _ => ⟨_, rfl, pm_cw192⟩
  | 193, _ => ⟨_, rfl, pm_cw193⟩
  | 194, _ => ⟨_, rfl, pm_cw194⟩
  | 195, _ => ⟨_, rfl, pm_cw195⟩
  | 196, _ => ⟨_, rfl, pm_cw196⟩
  | 197, _ => ⟨_, rfl, pm_cw197⟩
  | 198, _ => ⟨_, rfl, pm_cw198⟩
  | 199, _ => ⟨_, rfl, pm_cw199⟩
  | 200, _ => ⟨_, rfl, pm_cw200⟩
  | 201, _ => ⟨_, rfl, pm_cw201⟩
  | 202, _ => ⟨_, rfl, pm_cw202⟩
  | 203, _ => ⟨_, rfl, pm_cw203⟩
  | 204, _ => ⟨_, rfl, pm_cw204⟩
  | 205, _ => ⟨_, rfl, pm_cw205⟩
  | 206, _ => ⟨_, rfl, pm_cw206⟩
  | 207, _ => ⟨_, rfl, pm_cw207⟩
  | 208, _ => ⟨_, rfl, pm_cw208⟩
  | 209, _ => ⟨_, rfl, pm_cw209⟩
  | 210, _ => ⟨_, rfl, pm_cw210⟩
  | 211, _ => ⟨_, rfl, pm_cw211⟩
  | 212, _ => ⟨_, rfl, pm_cw212⟩
  | 213, _ => ⟨_, rfl, pm_cw213⟩
  | 214, _ => ⟨_, rfl, pm_cw214⟩
  | 215, _ => ⟨_, rfl, pm_cw215⟩
  | 216, _ => ⟨_, rfl, pm_cw216⟩
  | 217, _ => ⟨_, rfl, pm_cw217⟩
  | 218, _ => ⟨_, rfl, pm_cw218⟩
  | 219, _ => ⟨_, rfl, pm_cw219⟩
  | 220, _ => ⟨_, rfl, pm_cw220⟩
  | 221, _ => ⟨_, rfl, pm_cw221⟩
  | 222, _ => ⟨_, rfl, pm_cw222⟩
  | 223, _ => ⟨_, rfl, pm_cw223⟩
  | 224, _ => ⟨_, rfl, pm_cw224⟩
  | 225, _ => ⟨_, rfl, pm_cw225⟩
  | 226, _ => ⟨_, rfl, pm_cw226⟩
  | 227, _ => ⟨_, rfl, pm_cw227⟩
  | 228, _ => ⟨_, rfl, pm_cw228⟩
  | 229, _ => ⟨_, rfl, pm_cw229⟩
  | 230, _ => ⟨_, rfl, pm_cw230⟩
  | 231, _ => ⟨_, rfl, pm_cw231⟩
  | 232, _ => ⟨_, rfl, pm_cw232⟩
  | 233, _ => ⟨_, rfl, pm_cw233⟩
  | 234, _ => ⟨_, rfl, pm_cw234⟩
  | 235, _ => ⟨_, rfl, pm_cw235⟩
  | 236, _ => ⟨_, rfl, pm_cw236⟩
  | 237, _ => ⟨_, rfl, pm_cw237⟩
  | 238, _ => ⟨_, rfl, pm_cw238⟩
  | 239, _ => ⟨_, rfl, pm_cw239⟩
  | 240, _ => ⟨_, rfl, pm_cw240⟩
  | 241, _ => ⟨_, rfl, pm_cw241⟩
  | 242, _ => ⟨_, rfl, pm_cw242⟩
  | 243, _ => ⟨_, rfl, pm_cw243⟩
  | 244, _ => ⟨_, rfl, pm_cw244⟩
  | 245, _ => ⟨_, rfl, pm_cw245⟩
  | 246, _ => ⟨_, rfl, pm_cw246⟩
  | 247, _ => ⟨_, rfl, pm_cw247⟩
  | 248, _ => ⟨_, rfl, pm_cw248⟩
  | 249, _ => ⟨_, rfl, pm_cw249⟩
  | 250, _ => ⟨_, rfl, pm_cw250⟩
  | 251, _ => ⟨_, rfl, pm_cw251⟩
  | 252, _ => ⟨_, rfl, pm_cw252⟩
  | 253, _ => ⟨_, rfl, pm_cw253⟩
  | 254, _ => ⟨_, rfl, pm_cw254⟩
  | 255, _ => ⟨_, rfl, pm_cw255⟩
  | 256, _ => ⟨_, rfl, pm_cw256⟩
  | 257, _ => ⟨_, rfl, pm_cw257⟩
  | 258, _ => ⟨_, rfl, pm_cw258⟩
  | n + 259, h => absurd h (by omega)
def pm_lays : List (List Nat × Nat × Nat) := [([160, 162, 164], 146, 114), ([547, 549, 551, 553, 555, 557], 530, 126), ([229, 231, 233, 235], 216, 116), ([445, 447, 449, 451, 453, 455], 433, 124), ([475, 477, 479, 481, 483, 485, 487, 489], 383, 122), ([510, 512, 514, 516, 518, 520, 522, 524, 526], 493, 125), ([357, 359, 361, 363, 365, 367, 369, 371, 373, 375, 377], 290, 117), ([201, 203, 205, 207, 209, 211, 213], 173, 115), ([411, 413, 415, 417, 419, 421, 423, 425, 427], 389, 123), ([264, 266, 268, 270, 272, 274, 276, 278, 280, 282, 284, 286], 140, 113), ([569, 571, 573, 575, 577, 579, 581, 583, 585], 132, 112), ([1249, 1251, 1253, 1255, 1257, 1259, 1261, 1263, 1265, 1267, 1269, 1271, 1273, 1275, 1277, 1279, 1281, 1283, 1285, 1287, 1289, 1291, 1293, 1295, 1297, 1299, 1301, 1303, 1305, 1307, 1309, 1311, 1313, 1315, 1317, 1319, 1321, 1323, 1325, 1327, 1329, 1331, 1333, 1335, 1337, 1339, 1341, 1343, 1345, 1347, 1349, 1351, 1353, 1355, 1357, 1359, 1361, 1363, 1365, 1367, 1369, 1371, 1373, 1375, 1377, 1379, 1381, 1383, 1385, 1387, 1389, 1391, 1393, 1395, 1397, 1399, 1401, 1403, 1405], 1165, 127)]
def pm_tok (t : Nat) (ty : FieldType) : Bool := match t, ty with
  | 0, .int => true
  | 1, .long => true
  | 3, .boolean => true
  | 2, .object _ => true
  | 2, .array _ => true
  | _, _ => false
def pm_okC (ci : Nat) : Bool := match pm_nth pm_cl ci, pm_nth pm_Ys ci, pm_nth pm_lays ci with
  | some (C, T, N), some Y, some (ps, p1, p2) => Nat.beq N (pm_nf ci) && (List.range N).all (fun k => decide ((T k).1 = C) && decide (parseFieldDescriptor (T k).2.2.1 = some (Y k)) && pm_tok (pm_ft ci k) (Y k) && (List.range N).all (fun j => Nat.beq j k || decide ((T j).2.1 ≠ (T k).2.1))) &&
    pm_place p1 (.instantiable C N) && pm_place p2 (.initialized C) && decide (u_ws C T N = ps.filterMap (fun i => lw_tbl[i]?))
  | _, _, _ => false
theorem pm_okC0 : pm_okC 0 = true := by decide +kernel
theorem pm_okC1 : pm_okC 1 = true := by decide +kernel
theorem pm_okC2 : pm_okC 2 = true := by decide +kernel
theorem pm_okC3 : pm_okC 3 = true := by decide +kernel
theorem pm_okC4 : pm_okC 4 = true := by decide +kernel
theorem pm_okC5 : pm_okC 5 = true := by decide +kernel
theorem pm_okC6 : pm_okC 6 = true := by decide +kernel
theorem pm_okC7 : pm_okC 7 = true := by decide +kernel
theorem pm_okC8 : pm_okC 8 = true := by decide +kernel
theorem pm_okC9 : pm_okC 9 = true := by decide +kernel
theorem pm_okC10 : pm_okC 10 = true := by decide +kernel
theorem pm_okC11 : pm_okC 11 = true := by decide +kernel
theorem pm_okCs : ∀ ci, ci < 12 → pm_okC ci = true := by
  intro ci h
  match ci, h with
  | 0, _ => exact pm_okC0
  | 1, _ => exact pm_okC1
  | 2, _ => exact pm_okC2
  | 3, _ => exact pm_okC3
  | 4, _ => exact pm_okC4
  | 5, _ => exact pm_okC5
  | 6, _ => exact pm_okC6
  | 7, _ => exact pm_okC7
  | 8, _ => exact pm_okC8
  | 9, _ => exact pm_okC9
  | 10, _ => exact pm_okC10
  | 11, _ => exact pm_okC11
