def fT : Nat → u_T := fun c => match c with
  | 0 => TX0
  | 1 => TX1
  | 2 => TX2
  | 3 => TX3
  | 4 => TX4
  | 5 => TX5
  | _ => TX6
def fty : Nat → Nat → FieldType := fun c => match c with
  | 0 => tyX0
  | 1 => tyX1
  | 2 => tyX2
  | 3 => tyX3
  | 4 => tyX4
  | 5 => tyX5
  | _ => tyX6
/-- whether a field holds a reference -/
def rfl_ : Nat → Nat → Bool := fun c => match c with
  | 0 => fun k => [10, 11, 12, 13, 14, 15, 16, 17].contains k
  | 1 => fun k => [1, 2].contains k
  | 2 => fun k => [0].contains k
  | 3 => fun k => [0, 2].contains k
  | 4 => fun k => [0].contains k
  | 5 => fun k => [0, 1, 3, 4].contains k
  | _ => fun k => [0, 1, 3, 5, 7].contains k
def gws : List Cond := lw_tbl.filter goodWord
theorem inG {w : Cond} (i : Nat) (h : lw_tbl[i]? = some w) (g : goodWord w = true) : w ∈ gws := List.mem_filter.mpr ⟨List.mem_of_getElem? h, g⟩
/-- a word of the tables, at its place, and good -/
def wAt (i : Nat) (w : Cond) : Bool := decide (lw_tbl[i]? = some w) && goodWord w
theorem wAt.mem {i : Nat} {w : Cond} (h : wAt i w = true) : w ∈ gws := by
  simp only [wAt, Bool.and_eq_true, decide_eq_true_eq] at h
  exact inG i h.1 h.2
def fpl : Nat → Nat → Nat := fun c => match c with
  | 0 => fun k => [152, 154, 156, 158, 160, 162, 164, 166, 168, 170, 172, 174, 176, 178, 180, 182, 184, 186].getD k 0
  | 1 => fun k => [113, 115, 117, 119, 121].getD k 0
  | 2 => fun k => [88, 90].getD k 0
  | 3 => fun k => [240, 242, 244, 246, 248].getD k 0
  | 4 => fun k => [205, 207, 209, 211, 213, 215, 217, 219, 221, 223].getD k 0
  | 5 => fun k => [256, 258, 260, 262, 264].getD k 0
  | _ => fun k => [657, 659, 661, 663, 665, 667, 669, 671].getD k 0
def vwc (c : Nat) : vw_C := vwCl.getD c ("", TX0, 0)
theorem fld_ok : ((List.range 7).all fun c => (List.range (nfl c)).all fun k => wAt (fpl c k) (u_lay (cnm c) (fT c) k)) = true := by decide +kernel
theorem vw_ok : ∀ c, c < 7 → vwCl[c]? = some (cnm c, fT c, nfl c) := by
  intro c hc
  match c, hc with
  | 0, _ => rfl
  | 1, _ => rfl
  | 2, _ => rfl
  | 3, _ => rfl
  | 4, _ => rfl
  | 5, _ => rfl
  | 6, _ => rfl
  | n + 7, h => exact absurd h (by omega)
theorem fty_ok : ∀ c, c < 7 → ∀ k, k < nfl c → parseFieldDescriptor (fT c k).2.2.1 = some (fty c k) := by decide +kernel
theorem fnm_ok : ∀ c, c < 7 → ∀ a, a < nfl c → ∀ b, b < nfl c → a ≠ b → (fT c a).2.1 ≠ (fT c b).2.1 := by decide +kernel
theorem fcl_ok : ∀ c, c < 7 → ∀ k, k < nfl c → (fT c k).1 = cnm c := by decide +kernel
def ipl : Nat → Nat := fun c => [73, 95, 79, 228, 66, 58, 639].getD c 0
def npl : Nat → Nat := fun c => [50, 52, 51, 53, 49, 48, 54, 56, 47].getD c 0
/-- the words of a method: its code, instanceMethod, selects (or static) -/
def mpl : List (Nat × Nat × Nat) := [(76, 75, 0), (345, 343, 344), (358, 356, 357), (286, 284, 285), (513, 511, 512), (362, 360, 361), (382, 380, 381), (530, 528, 529), (505, 503, 504), (403, 401, 402), (411, 409, 410), (415, 413, 414), (419, 417, 418), (447, 445, 446), (427, 425, 426), (431, 429, 430), (435, 433, 434), (387, 385, 386), (443, 441, 442), (391, 389, 390), (463, 461, 462), (628, 626, 627), (98, 97, 0), (349, 347, 348), (298, 296, 297), (82, 81, 0), (518, 516, 517), (399, 397, 398), (423, 421, 422), (439, 437, 438), (353, 351, 352), (293, 291, 292), (635, 633, 634), (231, 230, 0), (554, 552, 553), (598, 596, 597), (606, 604, 605), (602, 600, 601), (586, 584, 585), (566, 564, 565), (578, 576, 577), (582, 580, 581), (590, 588, 589), (574, 572, 573), (594, 592, 593), (570, 568, 569), (69, 68, 0), (192, 190, 191), (282, 280, 281), (329, 327, 328), (538, 536, 537), (542, 540, 541), (546, 544, 545), (313, 311, 312), (317, 315, 316), (321, 319, 320), (325, 323, 324), (337, 335, 336), (341, 339, 340), (366, 364, 365), (467, 465, 466), (471, 469, 470), (475, 473, 474), (370, 368, 369), (407, 405, 406), (374, 372, 373), (378, 376, 377), (395, 393, 394), (455, 453, 454), (459, 457, 458), (61, 60, 0), (270, 268, 269), (305, 303, 304), (480, 478, 479), (484, 482, 483), (488, 486, 487), (492, 490, 491), (496, 494, 495), (500, 498, 499), (509, 507, 508), (522, 520, 521), (526, 524, 525), (534, 532, 533), (550, 548, 549), (558, 556, 557), (562, 560, 561), (610, 608, 609), (614, 612, 613), (622, 620, 621), (309, 308, 2), (333, 332, 3), (618, 617, 4), (274, 273, 0), (278, 277, 1), (642, 641, 0), (696, 0, 695), (719, 718, 13), (648, 647, 5), (681, 680, 6), (711, 0, 710), (770, 0, 769), (704, 703, 10), (708, 707, 11), (763, 762, 21), (767, 766, 22), (778, 777, 24), (786, 785, 26), (802, 801, 30), (759, 758, 20), (774, 773, 23), (755, 754, 19), (782, 781, 25), (806, 805, 31), (798, 797, 29), (794, 793, 28), (790, 789, 27), (751, 750, 18), (814, 813, 33), (810, 809, 32), (818, 817, 34), (747, 746, 17), (700, 699, 9), (693, 692, 8), (715, 714, 12), (689, 688, 7), (723, 722, 14), (743, 742, 16), (826, 825, 35), (834, 833, 36), (731, 730, 15), (677, 675, 676), (685, 683, 684), (727, 725, 726), (735, 733, 734), (739, 737, 738), (822, 820, 821), (830, 828, 829), (838, 836, 837), (842, 841, 37), (850, 849, 38), (846, 844, 845), (854, 852, 853), (858, 856, 857), (862, 860, 861), (866, 865, 39), (870, 868, 869), (874, 872, 873), (882, 881, 40), (894, 893, 43), (890, 889, 42), (886, 885, 41), (898, 897, 44), (878, 876, 877), (902, 900, 901), (906, 904, 905), (910, 909, 45), (914, 912, 913), (920, 919, 46), (450, 0, 449)]
/-- the methods by number: class, name, descriptor, arguments (without this), how called (0 virtual, 1 a constructor, 2 static) -/
def mtab : List (Nat × String × String × Nat × Nat) := [(0, "<init>", "()V", 0, 1), (0, "start", "(IIII)V", 4, 0), (0, "goBack", "()V", 0, 0), (0, "become", "(LBarrierStreams$Node;)V", 1, 0), (0, "hasIn", "(I)Z", 1, 0), (0, "channel", "(I)LBarrierStreams$Row;", 1, 0), (0, "isFedBy", "(II)Z", 2, 0), (0, "sinkRow", "(I)LBarrierStreams$Row;", 1, 0), (0, "fact", "(I)I", 1, 0), (0, "itemHere", "()I", 0, 0), (0, "inToTake", "()I", 0, 0), (0, "canTakeFrom", "(I)Z", 1, 0), (0, "take", "(I)I", 1, 0), (0, "meetItem", "(II)I", 2, 0), (0, "meetBarrier", "(IZ)I", 2, 0), (0, "meetAligned", "(I)I", 1, 0), (0, "meetRecording", "(I)I", 1, 0), (0, "markPosition", "()V", 0, 0), (0, "storeSums", "()I", 0, 0), (0, "completePart", "(I)V", 1, 0), (0, "settlePart", "()I", 0, 0), (0, "digestFrom", "(J)J", 1, 0), (1, "<init>", "()V", 0, 1), (1, "startAnew", "()V", 0, 0), (1, "become", "(LBarrierStreams$Part;)V", 1, 0), (2, "<init>", "(I)V", 1, 1), (2, "at", "(I)I", 1, 0), (2, "put", "(I)V", 1, 0), (2, "takeFirst", "()I", 0, 0), (2, "append", "(LBarrierStreams$Row;)I", 1, 0), (2, "drop", "()V", 0, 0), (2, "become", "(LBarrierStreams$Row;)V", 1, 0), (2, "digestFrom", "(J)J", 1, 0), (3, "<init>", "()V", 0, 1), (3, "put", "(I)V", 1, 0), (3, "sign", "(I)I", 1, 0), (3, "number", "(II)I", 2, 0), (3, "cell", "(I)I", 1, 0), (3, "setCell", "(II)V", 2, 0), (3, "read", "()I", 0, 0), (3, "readOrder", "()Z", 0, 0), (3, "numbersOf", "(I)I", 1, 0), (3, "readNumber", "(IZ)Z", 2, 0), (3, "byteHere", "()I", 0, 0), (3, "figureHere", "()Z", 0, 0), (3, "skipBlanks", "()V", 0, 0), (4, "<init>", "()V", 0, 1), (4, "startAnew", "()V", 0, 0), (4, "become", "(LBarrierStreams$Works;)V", 1, 0), (4, "hasNode", "(I)Z", 1, 0), (4, "tally", "(I)I", 1, 0), (4, "numbersStored", "()I", 0, 0), (4, "lettersOnTheirWay", "()I", 0, 0), (4, "refusal", "(IIIII)I", 5, 0), (4, "nodeRefusal", "(IIII)I", 4, 0), (4, "isNodeAsTold", "(IIII)Z", 4, 0), (4, "canFeed", "(I)Z", 1, 0), (4, "carryOut", "(IIIII)I", 5, 0), (4, "addNode", "(IIII)I", 4, 0), (4, "changeLength", "(I)I", 1, 0), (4, "changeAligned", "(Z)I", 1, 0), (4, "beginSnapshot", "()I", 0, 0), (4, "goBack", "()I", 0, 0), (4, "goOn", "(I)I", 1, 0), (4, "actAsTaker", "(I)V", 1, 0), (4, "actAsSource", "(I)V", 1, 0), (4, "hasRoom", "(I)Z", 1, 0), (4, "send", "(II)V", 2, 0), (4, "allPartsAreWhole", "()Z", 0, 0), (4, "settleSnapshot", "()V", 0, 0), (5, "<init>", "()V", 0, 1), (5, "begins", "()I", 0, 0), (5, "node", "(IIII)I", 4, 0), (5, "lengthens", "(I)I", 1, 0), (5, "aligns", "(I)I", 1, 0), (5, "steps", "(I)I", 1, 0), (5, "marks", "()I", 0, 0), (5, "fails", "()I", 0, 0), (5, "of", "(II)I", 2, 0), (5, "letter", "(III)I", 3, 0), (5, "sum", "(II)I", 2, 0), (5, "row", "(III)I", 3, 0), (5, "count", "(I)I", 1, 0), (5, "type", "(I)I", 1, 0), (5, "clear", "()I", 0, 0), (5, "does", "()I", 0, 0), (5, "back", "()I", 0, 0), (5, "told", "(I)I", 1, 0), (5, "digest", "()J", 0, 0), (5, "order", "(IIIII)I", 5, 0), (5, "refuse", "(I)I", 1, 0), (5, "toldFact", "(I)I", 1, 0), (5, "keepState", "()V", 0, 0), (5, "dropOldestState", "()V", 0, 0), (6, "<init>", "()V", 0, 1), (6, "in", "(III)Z", 3, 2), (6, "refuse", "(I)I", 1, 0), (6, "anew", "()V", 0, 0), (6, "keeps", "()V", 0, 0), (6, "at", "(I)I", 1, 2), (6, "rowAt", "(II)I", 2, 2), (6, "isNode", "(I)Z", 1, 0), (6, "kind", "(I)I", 1, 0), (6, "ins", "(I)I", 1, 0), (6, "from", "(II)I", 2, 0), (6, "puts", "(II)V", 2, 0), (6, "takes", "(I)I", 1, 0), (6, "pours", "(II)V", 2, 0), (6, "hasRoom", "(I)Z", 1, 0), (6, "sends", "(II)V", 2, 0), (6, "source", "(I)V", 1, 0), (6, "inOf", "(I)I", 1, 0), (6, "item", "(III)V", 3, 0), (6, "isPart", "(III)V", 3, 0), (6, "joinBarrier", "(II)V", 2, 0), (6, "barrier", "(II)V", 2, 0), (6, "acts", "(I)V", 1, 0), (6, "copiesRow", "(II)V", 2, 0), (6, "isWhole", "()V", 0, 0), (6, "putsOut", "(I)V", 1, 0), (6, "step", "()V", 0, 0), (6, "isIn", "(I)Z", 1, 0), (6, "isTold", "(IIII)Z", 4, 0), (6, "joins", "()I", 0, 0), (6, "whyNode", "(IIII)I", 4, 0), (6, "comes", "(IIII)I", 4, 0), (6, "goes", "(I)I", 1, 0), (6, "beginsOne", "()I", 0, 0), (6, "failsOnce", "()I", 0, 0), (6, "become", "(II)I", 2, 0), (6, "begins", "()I", 0, 0), (6, "node", "(IIII)I", 4, 0), (6, "lengthens", "(I)I", 1, 0), (6, "aligns", "(I)I", 1, 0), (6, "steps", "(I)I", 1, 0), (6, "marks", "()I", 0, 0), (6, "fails", "()I", 0, 0), (6, "of", "(II)I", 2, 0), (6, "ofNode", "(II)I", 2, 0), (6, "place", "(II)I", 2, 0), (6, "letter", "(III)I", 3, 0), (6, "sum", "(II)I", 2, 0), (6, "row", "(III)I", 3, 0), (6, "count", "(I)I", 1, 0), (6, "countOf", "(I)I", 1, 0), (6, "type", "(I)I", 1, 0), (6, "clear", "()I", 0, 0), (6, "here", "()I", 0, 0), (6, "isFigure", "()Z", 0, 0), (6, "number", "(IZ)Z", 2, 0), (6, "order", "()Z", 0, 0), (6, "isDone", "(I)Z", 1, 0), (6, "does", "()I", 0, 0), (6, "back", "()I", 0, 0), (6, "told", "(I)I", 1, 0), (6, "toldOf", "(I)I", 1, 0), (6, "digest", "()J", 0, 0), (6, "rowInto", "(JI)J", 2, 0), (7, "floorMod", "(II)I", 2, 2), (8, "law", "([I)Z", 1, 2)]
abbrev mt_T : Type := Nat × MethodName × ByteArray × Nat × Option FieldType × Nat × Nat
/-- a method as the tables tell it (159: the law itself) -/
def mt (j : Nat) : mt_T := match mtab.getD j (99, "", "", 0, 0) with
  | (cl, _, _, np, kn) => if j = 159 then (cl, x, code, maxLocals, ret, np, kn) else match lw_tbl[(mpl.getD j (0, 0, 0)).1]? with
    | some (.code y bs mx rt) => (cl, y, bs, mx, rt, np, kn)
    | _ => (99, ⟨"", "", ""⟩, ⟨#[]⟩, 0, none, 0, 0)
def mok (j : Nat) : Bool := match mtab.getD j (99, "", "", 0, 0), mpl.getD j (0, 0, 0) with
  | (cl, nm, ds, np, kn), (p1, p2, p3) => match lw_tbl[p1]? with
    | some (.code y _ mx rt) => decide (y = ⟨cnm cl, nm, ds⟩) && (decide (cl = mcl j) && (decide (mx = mxl j) && (plainFor y && (decide (y.cls ≠ "java/lang/invoke/MethodHandle" ∧ y.cls ≠ "java/lang/invoke/VarHandle" ∧ (parseMethodDescriptor y.desc).map (fun d => d.parameters.length) = some np) && (wAt (npl cl) (.initialized (cnm cl)) && (match kn with
      | 0 => decide (mar j = np + 1) && (wAt p2 (.instanceMethod y) && wAt p3 (.selects (cnm cl) y y))
      | 1 => decide (mar j = np + 1) && (wAt p2 (.instanceMethod y) && (decide (y.name = "<init>") && decide (rt = none)))
      | _ => decide (mar j = np) && wAt p3 (.static y)))))))
    | _ => false
theorem mok_0 : ((List.range 20).all fun i => mok (0 + i)) = true := by decide +kernel
theorem mok_20 : ((List.range 20).all fun i => mok (20 + i)) = true := by decide +kernel
theorem mok_40 : ((List.range 20).all fun i => mok (40 + i)) = true := by decide +kernel
theorem mok_60 : ((List.range 20).all fun i => mok (60 + i)) = true := by decide +kernel
theorem mok_80 : ((List.range 20).all fun i => mok (80 + i)) = true := by decide +kernel
theorem mok_100 : ((List.range 20).all fun i => mok (100 + i)) = true := by decide +kernel
theorem mok_120 : ((List.range 20).all fun i => mok (120 + i)) = true := by decide +kernel
theorem mok_140 : ((List.range 19).all fun i => mok (140 + i)) = true := by decide +kernel
theorem mok_ok : ∀ j, j < 159 → mok j = true := by
  intro j hj
  by_cases h0 : j < 20
  · have := List.all_eq_true.mp mok_0 (j - 0) (List.mem_range.mpr (by omega))
    rwa [show 0 + (j - 0) = j by omega] at this
  by_cases h20 : j < 40
  · have := List.all_eq_true.mp mok_20 (j - 20) (List.mem_range.mpr (by omega))
    rwa [show 20 + (j - 20) = j by omega] at this
  by_cases h40 : j < 60
  · have := List.all_eq_true.mp mok_40 (j - 40) (List.mem_range.mpr (by omega))
    rwa [show 40 + (j - 40) = j by omega] at this
  by_cases h60 : j < 80
  · have := List.all_eq_true.mp mok_60 (j - 60) (List.mem_range.mpr (by omega))
    rwa [show 60 + (j - 60) = j by omega] at this
  by_cases h80 : j < 100
  · have := List.all_eq_true.mp mok_80 (j - 80) (List.mem_range.mpr (by omega))
    rwa [show 80 + (j - 80) = j by omega] at this
  by_cases h100 : j < 120
  · have := List.all_eq_true.mp mok_100 (j - 100) (List.mem_range.mpr (by omega))
    rwa [show 100 + (j - 100) = j by omega] at this
  by_cases h120 : j < 140
  · have := List.all_eq_true.mp mok_120 (j - 120) (List.mem_range.mpr (by omega))
    rwa [show 120 + (j - 120) = j by omega] at this
  by_cases h140 : j < 159
  · have := List.all_eq_true.mp mok_140 (j - 140) (List.mem_range.mpr (by omega))
    rwa [show 140 + (j - 140) = j by omega] at this
  omega
/-- field links: class, entry, class of the field, field, place -/
def fln : List (Nat × Nat × Nat × Nat × Nat) := [(5, 12, 5, 0, 251), (5, 16, 5, 1, 252), (5, 23, 5, 3, 254), (5, 27, 5, 4, 255), (5, 31, 4, 1, 196), (5, 53, 4, 0, 194), (5, 74, 0, 0, 126), (5, 77, 0, 10, 141), (5, 86, 3, 1, 235), (5, 97, 3, 3, 238), (5, 113, 5, 2, 253), (0, 9, 0, 7, 136), (0, 15, 0, 8, 137), (0, 18, 0, 10, 140), (0, 27, 0, 11, 142), (0, 31, 0, 12, 144), (0, 34, 0, 13, 146), (0, 37, 0, 14, 147), (0, 40, 0, 15, 148), (0, 46, 0, 16, 149), (0, 50, 0, 17, 150), (0, 53, 0, 0, 124), (0, 56, 0, 1, 127), (0, 59, 0, 2, 129), (0, 62, 0, 3, 130), (0, 74, 0, 5, 133), (0, 78, 0, 6, 135), (0, 81, 0, 9, 138), (0, 84, 1, 0, 103), (0, 87, 0, 4, 131), (0, 88, 1, 1, 105), (0, 95, 1, 3, 109), (0, 102, 1, 2, 107), (0, 112, 2, 1, 87), (0, 149, 1, 4, 112), (1, 9, 1, 1, 104), (1, 20, 1, 2, 106), (1, 24, 1, 3, 108), (1, 28, 1, 0, 102), (1, 34, 1, 4, 110), (2, 9, 2, 0, 84), (2, 15, 2, 1, 85), (3, 9, 3, 0, 233), (3, 15, 3, 2, 236), (3, 18, 3, 1, 234), (3, 26, 3, 3, 237), (3, 29, 3, 4, 239), (4, 11, 4, 0, 193), (4, 21, 4, 1, 195), (4, 25, 4, 2, 197), (4, 28, 4, 3, 198), (4, 31, 4, 4, 199), (4, 34, 4, 5, 200), (4, 37, 4, 6, 201), (4, 41, 4, 7, 202), (4, 44, 4, 8, 203), (4, 47, 4, 9, 204), (4, 61, 0, 17, 151), (4, 65, 1, 4, 111), (4, 70, 0, 11, 143), (4, 74, 2, 1, 86), (4, 77, 0, 12, 145), (4, 95, 0, 0, 125), (4, 122, 0, 5, 134), (4, 125, 0, 9, 139), (4, 165, 0, 1, 128), (4, 171, 0, 4, 132), (6, 7, 6, 0, 649), (6, 14, 6, 1, 650), (6, 17, 6, 3, 652), (6, 20, 6, 5, 654), (6, 23, 6, 7, 656), (6, 29, 6, 2, 651), (6, 154, 6, 4, 653), (6, 157, 6, 6, 655)]
theorem fln_ok : (fln.all fun q => decide (q.2.2.1 < 7) && (decide (q.2.2.2.1 < nfl q.2.2.1) && wAt q.2.2.2.2 (.fieldLink (cnm q.1) q.2.1 (cnm q.2.2.1) (fT q.2.2.1 q.2.2.2.1).2.1 (fT q.2.2.1 q.2.2.2.1).2.2.1))) = true := by decide +kernel
/-- method links: class, entry, method, by the nest (1), place -/
def mln : List (Nat × Nat × Nat × Nat × Nat) := [(5, 11, 46, 0, 67), (5, 22, 33, 1, 229), (5, 35, 92, 0, 271), (5, 38, 47, 0, 301), (5, 41, 89, 0, 306), (5, 45, 49, 0, 501), (5, 49, 90, 0, 330), (5, 57, 8, 0, 502), (5, 62, 4, 0, 510), (5, 65, 5, 0, 514), (5, 69, 26, 0, 515), (5, 80, 7, 0, 527), (5, 83, 50, 0, 535), (5, 89, 34, 0, 551), (5, 93, 39, 0, 563), (5, 100, 35, 0, 595), (5, 103, 36, 0, 603), (5, 107, 53, 0, 310), (5, 110, 57, 0, 334), (5, 116, 48, 0, 279), (5, 120, 91, 0, 615), (5, 127, 21, 0, 625), (5, 131, 93, 0, 275), (0, 24, 25, 0, 80), (0, 45, 22, 1, 96), (0, 65, 23, 0, 346), (0, 68, 30, 0, 354), (0, 71, 2, 0, 355), (0, 98, 5, 0, 359), (0, 105, 31, 0, 290), (0, 109, 24, 0, 295), (0, 115, 11, 0, 412), (0, 119, 28, 0, 420), (0, 123, 158, 0, 448), (0, 129, 27, 0, 451), (0, 132, 15, 0, 428), (0, 136, 16, 0, 432), (0, 139, 29, 0, 436), (0, 143, 18, 0, 440), (0, 146, 19, 0, 388), (0, 154, 8, 0, 630), (0, 157, 4, 0, 631), (0, 160, 32, 0, 632), (0, 164, 7, 0, 637), (1, 17, 25, 0, 101), (1, 31, 30, 0, 350), (1, 43, 31, 0, 300), (3, 22, 37, 0, 599), (3, 32, 45, 0, 567), (3, 35, 40, 0, 575), (3, 39, 43, 0, 571), (3, 43, 41, 0, 579), (3, 46, 38, 0, 583), (3, 50, 42, 0, 587), (3, 54, 44, 0, 591), (4, 17, 0, 1, 74), (4, 18, 47, 0, 189), (4, 50, 3, 0, 283), (4, 54, 51, 0, 539), (4, 58, 52, 0, 543), (4, 80, 54, 0, 314), (4, 84, 55, 0, 318), (4, 88, 56, 0, 322), (4, 92, 49, 0, 326), (4, 98, 58, 0, 338), (4, 101, 59, 0, 363), (4, 105, 63, 0, 367), (4, 108, 60, 0, 464), (4, 112, 61, 0, 468), (4, 115, 62, 0, 472), (4, 118, 1, 0, 342), (4, 128, 2, 0, 476), (4, 130, 65, 0, 371), (4, 134, 64, 0, 404), (4, 137, 68, 0, 452), (4, 141, 69, 0, 456), (4, 144, 10, 0, 408), (4, 147, 66, 0, 375), (4, 150, 12, 0, 416), (4, 153, 14, 0, 424), (4, 157, 13, 0, 444), (4, 161, 67, 0, 392), (4, 168, 17, 0, 384), (4, 174, 9, 0, 400), (4, 177, 6, 0, 379), (4, 181, 5, 0, 383), (4, 185, 27, 0, 396), (4, 188, 20, 0, 460), (8, 9, 70, 0, 59), (8, 12, 94, 0, 640), (8, 13, 71, 0, 267), (8, 17, 130, 0, 674), (8, 18, 72, 0, 302), (8, 22, 131, 0, 682), (8, 23, 73, 0, 477), (8, 27, 132, 0, 724), (8, 28, 74, 0, 481), (8, 31, 133, 0, 732), (8, 32, 75, 0, 485), (8, 35, 134, 0, 736), (8, 36, 76, 0, 489), (8, 39, 135, 0, 819), (8, 40, 77, 0, 493), (8, 43, 136, 0, 827), (8, 44, 78, 0, 497), (8, 48, 137, 0, 835), (8, 49, 79, 0, 506), (8, 53, 140, 0, 843), (8, 54, 80, 0, 519), (8, 57, 141, 0, 851), (8, 58, 81, 0, 523), (8, 61, 142, 0, 855), (8, 62, 82, 0, 531), (8, 65, 143, 0, 859), (8, 66, 83, 0, 547), (8, 69, 145, 0, 867), (8, 70, 84, 0, 555), (8, 73, 146, 0, 871), (8, 74, 85, 0, 559), (8, 77, 152, 0, 875), (8, 78, 86, 0, 607), (8, 81, 153, 0, 899), (8, 82, 87, 0, 611), (8, 85, 154, 0, 903), (8, 86, 88, 0, 619), (8, 90, 156, 0, 911), (6, 26, 97, 0, 645), (6, 33, 95, 0, 694), (6, 37, 99, 0, 709), (6, 41, 102, 0, 705), (6, 44, 105, 0, 775), (6, 48, 103, 0, 760), (6, 51, 104, 0, 764), (6, 55, 100, 0, 768), (6, 58, 108, 0, 756), (6, 62, 109, 0, 771), (6, 65, 113, 0, 795), (6, 69, 114, 0, 791), (6, 72, 107, 0, 799), (6, 75, 110, 0, 752), (6, 79, 111, 0, 779), (6, 82, 106, 0, 783), (6, 85, 115, 0, 787), (6, 88, 112, 0, 803), (6, 91, 117, 0, 811), (6, 94, 119, 0, 815), (6, 97, 116, 0, 748), (6, 100, 118, 0, 807), (6, 103, 101, 0, 701), (6, 106, 121, 0, 697), (6, 109, 122, 0, 690), (6, 113, 123, 0, 712), (6, 117, 120, 0, 744), (6, 120, 98, 0, 678), (6, 123, 124, 0, 686), (6, 127, 96, 0, 716), (6, 130, 125, 0, 720), (6, 133, 129, 0, 728), (6, 136, 126, 0, 740), (6, 139, 127, 0, 823), (6, 142, 128, 0, 831), (6, 145, 138, 0, 839), (6, 148, 139, 0, 847), (6, 151, 144, 0, 863), (6, 160, 147, 0, 879), (6, 163, 148, 0, 891), (6, 167, 149, 0, 887), (6, 171, 150, 0, 883), (6, 174, 151, 0, 895), (6, 177, 155, 0, 907), (6, 184, 157, 0, 917)]
theorem mln_ok : (mln.all fun q => decide (q.2.2.1 < 159) && (q.2.2.2.1 == 1 || wAt q.2.2.2.2 (.methodLink (cnm q.1) q.2.1 (mt q.2.2.1).2.1))) = true := by decide +kernel
def oin : List (Nat × Nat × Nat) := [(5, 3, 62), (0, 3, 77), (1, 3, 99), (2, 3, 83), (3, 3, 232), (4, 3, 70), (6, 1, 643)]
theorem oin_ok : (oin.all fun q => wAt q.2.2 (.methodLink (cnm q.1) q.2.1 Lib.objectInit)) = true := by decide +kernel
def acn : List (Nat × Nat × Nat) := [(0, 89, 287), (1, 37, 299), (2, 19, 294)]
theorem acn_ok : (acn.all fun q => wAt q.2.2 (.methodLink (cnm q.1) q.2.1 arraycopyName)) = true := by decide +kernel
theorem obi_ok : (wAt 63 (.instanceMethod Lib.objectInit) && wAt 64 (.code Lib.objectInit ⟨#[0xb1]⟩ 1 none)) = true := by decide +kernel
theorem arc_ok : (wAt 289 (.native arraycopyName) && (wAt 288 (.static arraycopyName) && wAt 55 (.initialized "java/lang/System"))) = true := by decide +kernel
/-- class links: class, entry, class, place -/
def cln : List (Nat × Nat × Nat × Nat) := [(5, 9, 4, 65), (5, 20, 3, 227), (0, 22, 2, 78), (0, 43, 1, 94), (1, 15, 2, 100), (4, 9, 0, 71), (8, 7, 5, 57), (8, 10, 6, 638)]
theorem cln_ok : (cln.all fun q => decide (q.2.2.1 < 7) && wAt q.2.2.2 (.classLink (cnm q.1) q.2.1 (cnm q.2.2.1))) = true := by decide +kernel
theorem cls_ok : ((List.range 7).all fun c => wAt (ipl c) (.instantiable (cnm c) (nfl c)) && wAt (npl c) (.initialized (cnm c))) = true := by decide +kernel
theorem arr_ok : wAt 93 (.arrayClass .int) = true := by decide +kernel
def kln : List (Nat × Nat × Int × Nat) := [(6, 13, 37370, 644)]
theorem kln_ok : (kln.all fun q => wAt q.2.2.2 (.constant (cnm q.1) q.2.1 (Int32.ofInt q.2.2.1))) = true := by decide +kernel
def lln : List (Nat × Nat × Nat × Nat) := [(5, 123, 2545, 623), (5, 125, 31, 624), (0, 152, 31, 629), (2, 25, 31, 636), (6, 180, 2545, 915), (6, 182, 31, 916)]
theorem lln_ok : (lln.all fun q => wAt q.2.2.2 (.constantLong (cnm q.1) q.2.1 (Int64.ofNat q.2.2.1))) = true := by decide +kernel
