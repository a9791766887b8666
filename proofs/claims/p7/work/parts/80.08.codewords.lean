def cwH : List (Nat × Nat) := [(1, 26), (1, 47), (2, 215), (4, 13), (4, 65), (5, 118), (1, 37), (3, 206), (4, 103), (4, 178), (4, 85), (4, 98), (3, 198), (4, 33), (4, 41), (4, 45), (4, 49), (4, 200), (5, 82), (5, 37), (5, 78), (4, 188), (5, 206), (4, 192), (3, 185), (4, 148), (1, 43), (3, 202), (3, 209), (4, 21), (4, 196), (5, 210), (2, 1), (3, 217), (4, 37), (4, 62), (5, 54), (4, 170), (4, 166), (3, 222), (5, 58), (3, 227), (3, 231), (4, 17), (4, 10), (4, 0), (4, 3), (2, 61), (5, 129), (5, 134), (5, 139), (5, 144), (5, 148), (5, 152), (5, 160), (5, 164), (5, 169), (5, 172), (2, 86), (2, 207), (3, 57), (3, 74), (3, 106), (3, 90), (3, 53), (3, 144), (3, 148), (3, 156), (3, 78), (3, 82), (3, 86), (3, 102), (3, 110), (3, 134), (3, 114), (3, 118), (3, 122), (3, 126), (2, 31), (4, 211), (4, 239), (5, 3), (4, 215), (4, 219), (4, 231), (4, 224), (1, 203), (1, 208), (3, 65), (3, 69), (3, 236), (4, 124), (4, 120), (3, 140), (3, 152), (3, 160), (3, 98), (3, 130), (2, 92), (3, 49), (3, 61), (3, 94), (2, 212), (2, 219), (3, 39), (2, 222), (3, 42), (2, 226), (3, 45), (1, 31), (4, 89), (3, 181), (4, 144), (4, 108), (5, 103), (5, 202), (5, 215), (1, 23), (2, 180), (2, 187), (2, 191), (2, 195), (2, 199), (2, 203), (3, 165), (3, 169), (3, 173), (4, 54), (4, 58), (3, 177), (4, 69), (4, 73), (4, 77), (4, 94), (4, 112), (4, 116), (4, 134), (4, 140), (4, 152), (4, 158), (4, 162), (4, 174), (4, 184), (4, 207), (5, 9), (5, 13), (5, 17), (5, 26), (5, 42), (5, 29), (5, 46), (5, 50), (5, 62), (5, 66), (5, 74), (5, 87), (5, 91), (5, 95), (5, 99), (5, 107), (5, 111), (5, 115), (5, 156), (5, 125), (5, 178), (5, 182), (5, 186), (5, 190), (5, 194), (5, 198), (5, 220), (5, 224), (4, 81), (3, 194), (5, 70), (3, 190), (5, 33), (2, 183), (4, 26), (5, 22), (5, 229), (5, 233), (6, 113), (7, 119), (7, 173), (6, 186), (8, 114), (7, 162), (7, 69), (6, 110), (6, 117), (6, 125), (6, 121), (6, 129), (6, 145), (6, 152), (6, 148), (6, 156), (6, 141), (6, 176), (6, 173), (6, 170), (6, 167), (6, 183), (6, 180), (7, 9), (7, 21), (7, 25), (6, 237), (7, 5), (6, 230), (6, 226), (6, 234), (7, 41), (7, 37), (7, 29), (7, 33), (7, 17), (7, 1), (6, 222), (7, 13), (6, 218), (6, 214), (6, 198), (6, 202), (6, 210), (6, 194), (6, 206), (6, 190), (6, 164), (6, 160), (6, 137), (6, 133), (7, 45), (7, 49), (7, 111), (7, 108), (7, 116), (7, 105), (7, 101), (7, 97), (7, 93), (7, 89), (7, 81), (7, 85), (7, 146), (7, 203), (7, 207), (7, 123), (7, 127), (7, 77), (7, 73), (7, 170), (7, 142), (7, 65), (7, 53), (7, 61), (7, 57), (7, 138), (7, 134), (7, 150), (7, 154), (7, 158), (7, 166), (7, 181), (7, 177), (7, 190), (7, 194), (7, 199), (7, 215), (7, 211), (7, 223), (7, 227), (7, 219), (7, 238), (7, 235), (7, 231), (8, 6), (8, 2), (8, 10), (8, 14), (8, 31), (8, 27), (8, 23), (8, 35), (8, 43), (8, 39), (8, 95), (8, 59), (8, 51), (8, 55), (8, 63), (8, 47), (8, 71), (8, 67), (8, 75), (8, 79), (8, 87), (8, 83), (8, 91), (8, 99), (8, 103), (8, 111), (8, 122), (8, 118), (8, 107), (8, 130), (8, 134), (8, 138), (8, 126), (8, 142), (8, 19), (8, 146), (8, 154), (8, 158), (8, 150), (8, 162), (8, 166), (8, 170), (8, 174), (8, 178)]
def cwW (M : Nat) : Cond := .code (mY M) (mB M) (mL M) (mR M)
def cwP (M : Nat) : Prop := (tb ((cwH.getD M (0, 0)).1))[((cwH.getD M (0, 0)).2)]? = some (cwW M)
theorem cwU0 : ∀ a, a < 0 → cwP a := lt_0
set_option maxRecDepth 100000 in
theorem cwU1 : ∀ a, a < 1 → cwP a := lt_s cwU0 (rfl : (tb 1)[26]? = some (Cond.code ⟨"java/lang/Object", "<init>", "()V"⟩ object_method_1_code 1 (none)))
set_option maxRecDepth 100000 in
theorem cwU2 : ∀ a, a < 2 → cwP a := lt_s cwU1 (rfl : (tb 1)[47]? = some (Cond.code ⟨"java/lang/Math", "max", "(II)I"⟩ prog_14_method_65_code 2 (some .int)))
set_option maxRecDepth 100000 in
theorem cwU3 : ∀ a, a < 3 → cwP a := lt_s cwU2 (rfl : (tb 2)[215]? = some (Cond.code ⟨"java/lang/Math", "min", "(II)I"⟩ prog_14_method_69_code 2 (some .int)))
set_option maxRecDepth 100000 in
theorem cwU4 : ∀ a, a < 4 → cwP a := lt_s cwU3 (rfl : (tb 4)[13]? = some (Cond.code ⟨"java/lang/Math", "abs", "(I)I"⟩ prog_14_method_59_code 1 (some .int)))
set_option maxRecDepth 100000 in
theorem cwU5 : ∀ a, a < 5 → cwP a := lt_s cwU4 (rfl : (tb 4)[65]? = some (Cond.code ⟨"java/lang/Integer", "compare", "(II)I"⟩ prog_13_method_40_code 2 (some .int)))
set_option maxRecDepth 100000 in
theorem cwU6 : ∀ a, a < 6 → cwP a := lt_s cwU5 (rfl : (tb 5)[118]? = some (Cond.code ⟨"java/lang/Integer", "bitCount", "(I)I"⟩ prog_13_method_49_code 1 (some .int)))
set_option maxRecDepth 100000 in
theorem cwU7 : ∀ a, a < 7 → cwP a := lt_s cwU6 (rfl : (tb 1)[37]? = some (Cond.code ⟨"HookSwings$Hook", "<init>", "(I)V"⟩ prog_2_method_1_code 2 (none)))
set_option maxRecDepth 100000 in
theorem cwU8 : ∀ a, a < 8 → cwP a := lt_s cwU7 (rfl : (tb 3)[206]? = some (Cond.code ⟨"HookSwings$Hook", "away", "()I"⟩ prog_2_method_2_code 1 (some .int)))
set_option maxRecDepth 100000 in
theorem cwU9 : ∀ a, a < 9 → cwP a := lt_s cwU8 (rfl : (tb 4)[103]? = some (Cond.code ⟨"HookSwings$Hook", "swung", "()I"⟩ prog_2_method_3_code 1 (some .int)))
set_option maxRecDepth 100000 in
theorem cwU10 : ∀ a, a < 10 → cwP a := lt_s cwU9 (rfl : (tb 4)[178]? = some (Cond.code ⟨"HookSwings$Hook", "keptCount", "()I"⟩ prog_2_method_4_code 1 (some .int)))
set_option maxRecDepth 100000 in
theorem cwU11 : ∀ a, a < 11 → cwP a := lt_s cwU10 (rfl : (tb 4)[85]? = some (Cond.code ⟨"HookSwings$Hook", "hasLanded", "(I)Z"⟩ prog_2_method_5_code 2 (some .boolean)))
set_option maxRecDepth 100000 in
theorem cwU12 : ∀ a, a < 12 → cwP a := lt_s cwU11 (rfl : (tb 4)[98]? = some (Cond.code ⟨"HookSwings$Hook", "hangsStill", "(I)Z"⟩ prog_2_method_6_code 2 (some .boolean)))
set_option maxRecDepth 100000 in
theorem cwU13 : ∀ a, a < 13 → cwP a := lt_s cwU12 (rfl : (tb 3)[198]? = some (Cond.code ⟨"HookSwings$Hook", "tenthBy", "(ILHookSwings$Laws;)V"⟩ prog_2_method_7_code 4 (none)))
set_option maxRecDepth 100000 in
theorem cwU14 : ∀ a, a < 14 → cwP a := lt_s cwU13 (rfl : (tb 4)[33]? = some (Cond.code ⟨"HookSwings$Hook", "roll", "()V"⟩ prog_2_method_8_code 2 (none)))
set_option maxRecDepth 100000 in
theorem cwU15 : ∀ a, a < 15 → cwP a := lt_s cwU14 (rfl : (tb 4)[41]? = some (Cond.code ⟨"HookSwings$Hook", "blow", "()V"⟩ prog_2_method_9_code 1 (none)))
set_option maxRecDepth 100000 in
theorem cwU16 : ∀ a, a < 16 → cwP a := lt_s cwU15 (rfl : (tb 4)[45]? = some (Cond.code ⟨"HookSwings$Hook", "drawn", "()I"⟩ prog_2_method_10_code 2 (some .int)))
set_option maxRecDepth 100000 in
theorem cwU17 : ∀ a, a < 17 → cwP a := lt_s cwU16 (rfl : (tb 4)[49]? = some (Cond.code ⟨"HookSwings$Hook", "renewX", "()V"⟩ prog_2_method_11_code 1 (none)))
set_option maxRecDepth 100000 in
theorem cwU18 : ∀ a, a < 18 → cwP a := lt_s cwU17 (rfl : (tb 4)[200]? = some (Cond.code ⟨"HookSwings$Hook", "tenthAhead", "(ZLHookSwings$Laws;)V"⟩ prog_2_method_12_code 3 (none)))
set_option maxRecDepth 100000 in
theorem cwU19 : ∀ a, a < 19 → cwP a := lt_s cwU18 (rfl : (tb 5)[82]? = some (Cond.code ⟨"HookSwings$Hook", "stillIn", "(IILHookSwings$Laws;)I"⟩ prog_2_method_13_code 5 (some .int)))
set_option maxRecDepth 100000 in
theorem cwU20 : ∀ a, a < 20 → cwP a := lt_s cwU19 (rfl : (tb 5)[37]? = some (Cond.code ⟨"HookSwings$Hook", "farthest", "(ILHookSwings$Laws;)I"⟩ prog_2_method_14_code 5 (some .int)))
set_option maxRecDepth 100000 in
theorem cwU21 : ∀ a, a < 21 → cwP a := lt_s cwU20 (rfl : (tb 5)[78]? = some (Cond.code ⟨"HookSwings$Hook", "rest", "(III)V"⟩ prog_2_method_15_code 4 (none)))
set_option maxRecDepth 100000 in
theorem cwU22 : ∀ a, a < 22 → cwP a := lt_s cwU21 (rfl : (tb 4)[188]? = some (Cond.code ⟨"HookSwings$Hook", "startAs", "(LHookSwings$Hook;)V"⟩ prog_2_method_16_code 2 (none)))
set_option maxRecDepth 100000 in
theorem cwU23 : ∀ a, a < 23 → cwP a := lt_s cwU22 (rfl : (tb 5)[206]? = some (Cond.code ⟨"HookSwings$Hook", "copyWhole", "(LHookSwings$Hook;)V"⟩ prog_2_method_17_code 2 (none)))
set_option maxRecDepth 100000 in
theorem cwU24 : ∀ a, a < 24 → cwP a := lt_s cwU23 (rfl : (tb 4)[192]? = some (Cond.code ⟨"HookSwings$Hook", "copyParts", "(LHookSwings$Hook;)V"⟩ prog_2_method_18_code 2 (none)))
set_option maxRecDepth 100000 in
theorem cwU25 : ∀ a, a < 25 → cwP a := lt_s cwU24 (rfl : (tb 3)[185]? = some (Cond.code ⟨"HookSwings$Hook", "save", "([II)V"⟩ prog_2_method_19_code 4 (none)))
set_option maxRecDepth 100000 in
theorem cwU26 : ∀ a, a < 26 → cwP a := lt_s cwU25 (rfl : (tb 4)[148]? = some (Cond.code ⟨"HookSwings$Hook", "restore", "([II)V"⟩ prog_2_method_20_code 4 (none)))
set_option maxRecDepth 100000 in
theorem cwU27 : ∀ a, a < 27 → cwP a := lt_s cwU26 (rfl : (tb 1)[43]? = some (Cond.code ⟨"HookSwings$Kept", "<init>", "(I)V"⟩ prog_3_method_1_code 2 (none)))
set_option maxRecDepth 100000 in
theorem cwU28 : ∀ a, a < 28 → cwP a := lt_s cwU27 (rfl : (tb 3)[202]? = some (Cond.code ⟨"HookSwings$Kept", "keep", "(LHookSwings$Hook;I)V"⟩ prog_3_method_2_code 3 (none)))
set_option maxRecDepth 100000 in
theorem cwU29 : ∀ a, a < 29 → cwP a := lt_s cwU28 (rfl : (tb 3)[209]? = some (Cond.code ⟨"HookSwings$Kept", "packed", "(II)J"⟩ prog_3_method_3_code 2 (some .long)))
set_option maxRecDepth 100000 in
theorem cwU30 : ∀ a, a < 30 → cwP a := lt_s cwU29 (rfl : (tb 4)[21]? = some (Cond.code ⟨"HookSwings$Kept", "part", "(II)I"⟩ prog_3_method_4_code 3 (some .int)))
set_option maxRecDepth 100000 in
theorem cwU31 : ∀ a, a < 31 → cwP a := lt_s cwU30 (rfl : (tb 4)[196]? = some (Cond.code ⟨"HookSwings$Kept", "copyLatest", "(LHookSwings$Kept;I)V"⟩ prog_3_method_5_code 4 (none)))
set_option maxRecDepth 100000 in
theorem cwU32 : ∀ a, a < 32 → cwP a := lt_s cwU31 (rfl : (tb 5)[210]? = some (Cond.code ⟨"HookSwings$Kept", "copyAll", "(LHookSwings$Kept;)V"⟩ prog_3_method_6_code 2 (none)))
set_option maxRecDepth 100000 in
theorem cwU33 : ∀ a, a < 33 → cwP a := lt_s cwU32 (rfl : (tb 2)[1]? = some (Cond.code ⟨"HookSwings$Laws", "<init>", "(LHookSwings$Text;LHookSwings$Kept;)V"⟩ prog_4_method_1_code 3 (none)))
set_option maxRecDepth 100000 in
theorem cwU34 : ∀ a, a < 34 → cwP a := lt_s cwU33 (rfl : (tb 3)[217]? = some (Cond.code ⟨"HookSwings$Laws", "paces", "(LHookSwings$Hook;)I"⟩ prog_4_method_2_code 2 (some .int)))
set_option maxRecDepth 100000 in
theorem cwU35 : ∀ a, a < 35 → cwP a := lt_s cwU34 (rfl : (tb 4)[37]? = some (Cond.code ⟨"HookSwings$Laws", "swings", "(LHookSwings$Hook;)I"⟩ prog_4_method_3_code 2 (some .int)))
set_option maxRecDepth 100000 in
theorem cwU36 : ∀ a, a < 36 → cwP a := lt_s cwU35 (rfl : (tb 4)[62]? = some (Cond.code ⟨"HookSwings$Laws", "command", "(LHookSwings$Hook;)I"⟩ prog_4_method_4_code 2 (some .int)))
set_option maxRecDepth 100000 in
theorem cwU37 : ∀ a, a < 37 → cwP a := lt_s cwU36 (rfl : (tb 5)[54]? = some (Cond.code ⟨"HookSwings$Laws", "commandThen", "(LHookSwings$Hook;I)I"⟩ prog_4_method_5_code 3 (some .int)))
set_option maxRecDepth 100000 in
theorem cwU38 : ∀ a, a < 38 → cwP a := lt_s cwU37 (rfl : (tb 4)[170]? = some (Cond.code ⟨"HookSwings$Laws", "holds", "(I)I"⟩ prog_4_method_6_code 2 (some .int)))
set_option maxRecDepth 100000 in
theorem cwU39 : ∀ a, a < 39 → cwP a := lt_s cwU38 (rfl : (tb 4)[166]? = some (Cond.code ⟨"HookSwings$Laws", "lasts", "(III)I"⟩ prog_4_method_7_code 4 (some .int)))
set_option maxRecDepth 100000 in
theorem cwU40 : ∀ a, a < 40 → cwP a := lt_s cwU39 (rfl : (tb 3)[222]? = some (Cond.code ⟨"HookSwings$Laws", "look", "(LHookSwings$Hook;)V"⟩ prog_4_method_8_code 2 (none)))
set_option maxRecDepth 100000 in
theorem cwU41 : ∀ a, a < 41 → cwP a := lt_s cwU40 (rfl : (tb 5)[58]? = some (Cond.code ⟨"HookSwings$Laws", "lookBack", "(LHookSwings$Hook;I)V"⟩ prog_4_method_9_code 4 (none)))
set_option maxRecDepth 100000 in
theorem cwU42 : ∀ a, a < 42 → cwP a := lt_s cwU41 (rfl : (tb 3)[227]? = some (Cond.code ⟨"HookSwings$Laws", "lookAround", "(LHookSwings$Hook;I)V"⟩ prog_4_method_10_code 3 (none)))
set_option maxRecDepth 100000 in
theorem cwU43 : ∀ a, a < 43 → cwP a := lt_s cwU42 (rfl : (tb 3)[231]? = some (Cond.code ⟨"HookSwings$Laws", "reckon", "(LHookSwings$Text;I)I"⟩ prog_4_method_11_code 10 (some .int)))
set_option maxRecDepth 100000 in
theorem cwU44 : ∀ a, a < 44 → cwP a := lt_s cwU43 (rfl : (tb 4)[17]? = some (Cond.code ⟨"HookSwings$Laws", "fetched", "(II)I"⟩ prog_4_method_12_code 5 (some .int)))
set_option maxRecDepth 100000 in
theorem cwU45 : ∀ a, a < 45 → cwP a := lt_s cwU44 (rfl : (tb 4)[10]? = some (Cond.code ⟨"HookSwings$Laws", "changed", "(II)I"⟩ prog_4_method_13_code 2 (some .int)))
set_option maxRecDepth 100000 in
theorem cwU46 : ∀ a, a < 46 → cwP a := lt_s cwU45 (rfl : (tb 4)[0]? = some (Cond.code ⟨"HookSwings$Laws", "joined", "(III)I"⟩ prog_4_method_14_code 3 (some .int)))
set_option maxRecDepth 100000 in
theorem cwU47 : ∀ a, a < 47 → cwP a := lt_s cwU46 (rfl : (tb 4)[3]? = some (Cond.code ⟨"HookSwings$Laws", "cut", "(J)I"⟩ prog_4_method_15_code 2 (some .int)))
set_option maxRecDepth 100000 in
theorem cwU48 : ∀ a, a < 48 → cwP a := lt_s cwU47 (rfl : (tb 2)[61]? = some (Cond.code ⟨"HookSwings$Plan", "<init>", "()V"⟩ prog_5_method_1_code 1 (none)))
set_option maxRecDepth 100000 in
theorem cwU49 : ∀ a, a < 49 → cwP a := lt_s cwU48 (rfl : (tb 5)[129]? = some (Cond.code ⟨"HookSwings$Plan", "weigh", "(LHookSwings$World;I)V"⟩ prog_5_method_2_code 4 (none)))
set_option maxRecDepth 100000 in
theorem cwU50 : ∀ a, a < 50 → cwP a := lt_s cwU49 (rfl : (tb 5)[134]? = some (Cond.code ⟨"HookSwings$Plan", "cheapest", "(LHookSwings$World;II)I"⟩ prog_5_method_3_code 6 (some .int)))
set_option maxRecDepth 100000 in
theorem cwU51 : ∀ a, a < 51 → cwP a := lt_s cwU50 (rfl : (tb 5)[139]? = some (Cond.code ⟨"HookSwings$Plan", "cost", "(LHookSwings$World;II)I"⟩ prog_5_method_4_code 6 (some .int)))
set_option maxRecDepth 100000 in
theorem cwU52 : ∀ a, a < 52 → cwP a := lt_s cwU51 (rfl : (tb 5)[144]? = some (Cond.code ⟨"HookSwings$Plan", "leastCost", "()I"⟩ prog_5_method_5_code 1 (some .int)))
set_option maxRecDepth 100000 in
theorem cwU53 : ∀ a, a < 53 → cwP a := lt_s cwU52 (rfl : (tb 5)[148]? = some (Cond.code ⟨"HookSwings$Plan", "orderAt", "(LHookSwings$World;II)I"⟩ prog_5_method_6_code 7 (some .int)))
set_option maxRecDepth 100000 in
theorem cwU54 : ∀ a, a < 54 → cwP a := lt_s cwU53 (rfl : (tb 5)[152]? = some (Cond.code ⟨"HookSwings$Plan", "lowest", "(LHookSwings$World;II)I"⟩ prog_5_method_7_code 5 (some .int)))
set_option maxRecDepth 100000 in
theorem cwU55 : ∀ a, a < 55 → cwP a := lt_s cwU54 (rfl : (tb 5)[160]? = some (Cond.code ⟨"HookSwings$Plan", "placeAll", "(LHookSwings$World;I)V"⟩ prog_5_method_8_code 3 (none)))
set_option maxRecDepth 100000 in
theorem cwU56 : ∀ a, a < 56 → cwP a := lt_s cwU55 (rfl : (tb 5)[164]? = some (Cond.code ⟨"HookSwings$Plan", "place", "(LHookSwings$World;IIII)V"⟩ prog_5_method_9_code 9 (none)))
set_option maxRecDepth 100000 in
theorem cwU57 : ∀ a, a < 57 → cwP a := lt_s cwU56 (rfl : (tb 5)[169]? = some (Cond.code ⟨"HookSwings$Plan", "earliest", "(LHookSwings$World;II)I"⟩ prog_5_method_10_code 6 (some .int)))
set_option maxRecDepth 100000 in
theorem cwU58 : ∀ a, a < 58 → cwP a := lt_s cwU57 (rfl : (tb 5)[172]? = some (Cond.code ⟨"HookSwings$Plan", "bindsTo", "(LHookSwings$World;II)Z"⟩ prog_5_method_11_code 3 (some .boolean)))
set_option maxRecDepth 100000 in
theorem cwU59 : ∀ a, a < 59 → cwP a := lt_s cwU58 (rfl : (tb 2)[86]? = some (Cond.code ⟨"HookSwings$Reader", "<init>", "(LHookSwings$Text;)V"⟩ prog_6_method_1_code 2 (none)))
set_option maxRecDepth 100000 in
theorem cwU60 : ∀ a, a < 60 → cwP a := lt_s cwU59 (rfl : (tb 2)[207]? = some (Cond.code ⟨"HookSwings$Reader", "read", "([IILHookSwings$Text;)Z"⟩ prog_6_method_2_code 5 (some .boolean)))
set_option maxRecDepth 100000 in
theorem cwU61 : ∀ a, a < 61 → cwP a := lt_s cwU60 (rfl : (tb 3)[57]? = some (Cond.code ⟨"HookSwings$Reader", "fail", "(I)V"⟩ prog_6_method_3_code 2 (none)))
set_option maxRecDepth 100000 in
theorem cwU62 : ∀ a, a < 62 → cwP a := lt_s cwU61 (rfl : (tb 3)[74]? = some (Cond.code ⟨"HookSwings$Reader", "step", "()V"⟩ prog_6_method_4_code 1 (none)))
set_option maxRecDepth 100000 in
theorem cwU63 : ∀ a, a < 63 → cwP a := lt_s cwU62 (rfl : (tb 3)[106]? = some (Cond.code ⟨"HookSwings$Reader", "take", "(I)V"⟩ prog_6_method_5_code 2 (none)))
set_option maxRecDepth 100000 in
theorem cwU64 : ∀ a, a < 64 → cwP a := lt_s cwU63 (rfl : (tb 3)[90]? = some (Cond.code ⟨"HookSwings$Reader", "number", "(II)I"⟩ prog_6_method_6_code 4 (some .int)))
set_option maxRecDepth 100000 in
theorem cwU65 : ∀ a, a < 65 → cwP a := lt_s cwU64 (rfl : (tb 3)[53]? = some (Cond.code ⟨"HookSwings$Reader", "clause", "()V"⟩ prog_6_method_7_code 3 (none)))
set_option maxRecDepth 100000 in
theorem cwU66 : ∀ a, a < 66 → cwP a := lt_s cwU65 (rfl : (tb 3)[144]? = some (Cond.code ⟨"HookSwings$Reader", "deedParts", "(I)V"⟩ prog_6_method_8_code 2 (none)))
set_option maxRecDepth 100000 in
theorem cwU67 : ∀ a, a < 67 → cwP a := lt_s cwU66 (rfl : (tb 3)[148]? = some (Cond.code ⟨"HookSwings$Reader", "orderParts", "()V"⟩ prog_6_method_9_code 1 (none)))
set_option maxRecDepth 100000 in
theorem cwU68 : ∀ a, a < 68 → cwP a := lt_s cwU67 (rfl : (tb 3)[156]? = some (Cond.code ⟨"HookSwings$Reader", "side", "()V"⟩ prog_6_method_10_code 1 (none)))
set_option maxRecDepth 100000 in
theorem cwU69 : ∀ a, a < 69 → cwP a := lt_s cwU68 (rfl : (tb 3)[78]? = some (Cond.code ⟨"HookSwings$Reader", "sum", "()V"⟩ prog_6_method_11_code 3 (none)))
set_option maxRecDepth 100000 in
theorem cwU70 : ∀ a, a < 70 → cwP a := lt_s cwU69 (rfl : (tb 3)[82]? = some (Cond.code ⟨"HookSwings$Reader", "product", "()V"⟩ prog_6_method_12_code 3 (none)))
set_option maxRecDepth 100000 in
theorem cwU71 : ∀ a, a < 71 → cwP a := lt_s cwU70 (rfl : (tb 3)[86]? = some (Cond.code ⟨"HookSwings$Reader", "one", "()V"⟩ prog_6_method_13_code 2 (none)))
set_option maxRecDepth 100000 in
theorem cwU72 : ∀ a, a < 72 → cwP a := lt_s cwU71 (rfl : (tb 3)[102]? = some (Cond.code ⟨"HookSwings$Reader", "opens", "()Z"⟩ prog_6_method_14_code 1 (some .boolean)))
set_option maxRecDepth 100000 in
theorem cwU73 : ∀ a, a < 73 → cwP a := lt_s cwU72 (rfl : (tb 3)[110]? = some (Cond.code ⟨"HookSwings$Reader", "changedOne", "(I)V"⟩ prog_6_method_15_code 2 (none)))
set_option maxRecDepth 100000 in
theorem cwU74 : ∀ a, a < 74 → cwP a := lt_s cwU73 (rfl : (tb 3)[134]? = some (Cond.code ⟨"HookSwings$Reader", "name", "(III)V"⟩ prog_6_method_16_code 5 (none)))
set_option maxRecDepth 100000 in
theorem cwU75 : ∀ a, a < 75 → cwP a := lt_s cwU74 (rfl : (tb 3)[114]? = some (Cond.code ⟨"HookSwings$Reader", "choice", "()V"⟩ prog_6_method_17_code 3 (none)))
set_option maxRecDepth 100000 in
theorem cwU76 : ∀ a, a < 76 → cwP a := lt_s cwU75 (rfl : (tb 3)[118]? = some (Cond.code ⟨"HookSwings$Reader", "either", "()V"⟩ prog_6_method_18_code 2 (none)))
set_option maxRecDepth 100000 in
theorem cwU77 : ∀ a, a < 77 → cwP a := lt_s cwU76 (rfl : (tb 3)[122]? = some (Cond.code ⟨"HookSwings$Reader", "both", "()V"⟩ prog_6_method_19_code 2 (none)))
set_option maxRecDepth 100000 in
theorem cwU78 : ∀ a, a < 78 → cwP a := lt_s cwU77 (rfl : (tb 3)[126]? = some (Cond.code ⟨"HookSwings$Reader", "ask", "()V"⟩ prog_6_method_20_code 2 (none)))
set_option maxRecDepth 100000 in
theorem cwU79 : ∀ a, a < 79 → cwP a := lt_s cwU78 (rfl : (tb 2)[31]? = some (Cond.code ⟨"HookSwings$Search", "<init>", "()V"⟩ prog_7_method_1_code 1 (none)))
set_option maxRecDepth 100000 in
theorem cwU80 : ∀ a, a < 80 → cwP a := lt_s cwU79 (rfl : (tb 4)[211]? = some (Cond.code ⟨"HookSwings$Search", "begin", "(LHookSwings$Hook;LHookSwings$Laws;IZ)V"⟩ prog_7_method_2_code 5 (none)))
set_option maxRecDepth 100000 in
theorem cwU81 : ∀ a, a < 81 → cwP a := lt_s cwU80 (rfl : (tb 4)[239]? = some (Cond.code ⟨"HookSwings$Search", "found", "()Z"⟩ prog_7_method_3_code 1 (some .boolean)))
set_option maxRecDepth 100000 in
theorem cwU82 : ∀ a, a < 82 → cwP a := lt_s cwU81 (rfl : (tb 5)[3]? = some (Cond.code ⟨"HookSwings$Search", "commandAt", "(I)I"⟩ prog_7_method_4_code 2 (some .int)))
set_option maxRecDepth 100000 in
theorem cwU83 : ∀ a, a < 83 → cwP a := lt_s cwU82 (rfl : (tb 4)[215]? = some (Cond.code ⟨"HookSwings$Search", "search", "(LHookSwings$Hook;LHookSwings$Laws;II)V"⟩ prog_7_method_5_code 6 (none)))
set_option maxRecDepth 100000 in
theorem cwU84 : ∀ a, a < 84 → cwP a := lt_s cwU83 (rfl : (tb 4)[219]? = some (Cond.code ⟨"HookSwings$Search", "better", "(II)Z"⟩ prog_7_method_6_code 3 (some .boolean)))
set_option maxRecDepth 100000 in
theorem cwU85 : ∀ a, a < 85 → cwP a := lt_s cwU84 (rfl : (tb 4)[231]? = some (Cond.code ⟨"HookSwings$Search", "outOfReach", "(LHookSwings$Hook;I)Z"⟩ prog_7_method_7_code 3 (some .boolean)))
set_option maxRecDepth 100000 in
theorem cwU86 : ∀ a, a < 86 → cwP a := lt_s cwU85 (rfl : (tb 4)[224]? = some (Cond.code ⟨"HookSwings$Search", "take", "(II)V"⟩ prog_7_method_8_code 3 (none)))
set_option maxRecDepth 100000 in
theorem cwU87 : ∀ a, a < 87 → cwP a := lt_s cwU86 (rfl : (tb 1)[203]? = some (Cond.code ⟨"HookSwings$Text", "<init>", "()V"⟩ prog_8_method_1_code 1 (none)))
set_option maxRecDepth 100000 in
theorem cwU88 : ∀ a, a < 88 → cwP a := lt_s cwU87 (rfl : (tb 1)[208]? = some (Cond.code ⟨"HookSwings$Text", "clear", "()V"⟩ prog_8_method_2_code 2 (none)))
set_option maxRecDepth 100000 in
theorem cwU89 : ∀ a, a < 89 → cwP a := lt_s cwU88 (rfl : (tb 3)[65]? = some (Cond.code ⟨"HookSwings$Text", "has", "(I)Z"⟩ prog_8_method_3_code 2 (some .boolean)))
set_option maxRecDepth 100000 in
theorem cwU90 : ∀ a, a < 90 → cwP a := lt_s cwU89 (rfl : (tb 3)[69]? = some (Cond.code ⟨"HookSwings$Text", "begin", "(I)I"⟩ prog_8_method_4_code 2 (some .int)))
set_option maxRecDepth 100000 in
theorem cwU91 : ∀ a, a < 91 → cwP a := lt_s cwU90 (rfl : (tb 3)[236]? = some (Cond.code ⟨"HookSwings$Text", "stop", "(I)I"⟩ prog_8_method_5_code 2 (some .int)))
set_option maxRecDepth 100000 in
theorem cwU92 : ∀ a, a < 92 → cwP a := lt_s cwU91 (rfl : (tb 4)[124]? = some (Cond.code ⟨"HookSwings$Text", "kind", "(I)I"⟩ prog_8_method_6_code 2 (some .int)))
set_option maxRecDepth 100000 in
theorem cwU93 : ∀ a, a < 93 → cwP a := lt_s cwU92 (rfl : (tb 4)[120]? = some (Cond.code ⟨"HookSwings$Text", "arg", "(II)I"⟩ prog_8_method_7_code 3 (some .int)))
set_option maxRecDepth 100000 in
theorem cwU94 : ∀ a, a < 94 → cwP a := lt_s cwU93 (rfl : (tb 3)[140]? = some (Cond.code ⟨"HookSwings$Text", "setLaw", "(II)V"⟩ prog_8_method_8_code 3 (none)))
set_option maxRecDepth 100000 in
theorem cwU95 : ∀ a, a < 95 → cwP a := lt_s cwU94 (rfl : (tb 3)[152]? = some (Cond.code ⟨"HookSwings$Text", "setArg", "(II)V"⟩ prog_8_method_9_code 3 (none)))
set_option maxRecDepth 100000 in
theorem cwU96 : ∀ a, a < 96 → cwP a := lt_s cwU95 (rfl : (tb 3)[160]? = some (Cond.code ⟨"HookSwings$Text", "closeClause", "(I)V"⟩ prog_8_method_10_code 2 (none)))
set_option maxRecDepth 100000 in
theorem cwU97 : ∀ a, a < 97 → cwP a := lt_s cwU96 (rfl : (tb 3)[98]? = some (Cond.code ⟨"HookSwings$Text", "addDeed", "(II)V"⟩ prog_8_method_11_code 3 (none)))
set_option maxRecDepth 100000 in
theorem cwU98 : ∀ a, a < 98 → cwP a := lt_s cwU97 (rfl : (tb 3)[130]? = some (Cond.code ⟨"HookSwings$Text", "leapHere", "(I)V"⟩ prog_8_method_12_code 2 (none)))
set_option maxRecDepth 100000 in
theorem cwU99 : ∀ a, a < 99 → cwP a := lt_s cwU98 (rfl : (tb 2)[92]? = some (Cond.code ⟨"HookSwings$Tokens", "<init>", "()V"⟩ prog_9_method_1_code 1 (none)))
set_option maxRecDepth 100000 in
theorem cwU100 : ∀ a, a < 100 → cwP a := lt_s cwU99 (rfl : (tb 3)[49]? = some (Cond.code ⟨"HookSwings$Tokens", "kindAt", "(I)I"⟩ prog_9_method_2_code 2 (some .int)))
set_option maxRecDepth 100000 in
theorem cwU101 : ∀ a, a < 101 → cwP a := lt_s cwU100 (rfl : (tb 3)[61]? = some (Cond.code ⟨"HookSwings$Tokens", "placeAt", "(I)I"⟩ prog_9_method_3_code 2 (some .int)))
set_option maxRecDepth 100000 in
theorem cwU102 : ∀ a, a < 102 → cwP a := lt_s cwU101 (rfl : (tb 3)[94]? = some (Cond.code ⟨"HookSwings$Tokens", "valueAt", "(I)I"⟩ prog_9_method_4_code 2 (some .int)))
set_option maxRecDepth 100000 in
theorem cwU103 : ∀ a, a < 103 → cwP a := lt_s cwU102 (rfl : (tb 2)[212]? = some (Cond.code ⟨"HookSwings$Tokens", "scan", "([II)V"⟩ prog_9_method_5_code 5 (none)))
set_option maxRecDepth 100000 in
theorem cwU104 : ∀ a, a < 104 → cwP a := lt_s cwU103 (rfl : (tb 2)[219]? = some (Cond.code ⟨"HookSwings$Tokens", "scanOne", "([II)I"⟩ prog_9_method_6_code 6 (some .int)))
set_option maxRecDepth 100000 in
theorem cwU105 : ∀ a, a < 105 → cwP a := lt_s cwU104 (rfl : (tb 3)[39]? = some (Cond.code ⟨"HookSwings$Tokens", "add", "(IIII)I"⟩ prog_9_method_7_code 5 (some .int)))
set_option maxRecDepth 100000 in
theorem cwU106 : ∀ a, a < 106 → cwP a := lt_s cwU105 (rfl : (tb 2)[222]? = some (Cond.code ⟨"HookSwings$Tokens", "isLetter", "(I)Z"⟩ prog_9_method_8_code 1 (some .boolean)))
set_option maxRecDepth 100000 in
theorem cwU107 : ∀ a, a < 107 → cwP a := lt_s cwU106 (rfl : (tb 3)[42]? = some (Cond.code ⟨"HookSwings$Tokens", "isDigit", "(I)Z"⟩ prog_9_method_9_code 1 (some .boolean)))
set_option maxRecDepth 100000 in
theorem cwU108 : ∀ a, a < 108 → cwP a := lt_s cwU107 (rfl : (tb 2)[226]? = some (Cond.code ⟨"HookSwings$Tokens", "word", "([III)I"⟩ prog_9_method_10_code 8 (some .int)))
set_option maxRecDepth 100000 in
theorem cwU109 : ∀ a, a < 109 → cwP a := lt_s cwU108 (rfl : (tb 3)[45]? = some (Cond.code ⟨"HookSwings$Tokens", "single", "(I)I"⟩ prog_9_method_11_code 1 (some .int)))
set_option maxRecDepth 100000 in
theorem cwU110 : ∀ a, a < 110 → cwP a := lt_s cwU109 (rfl : (tb 1)[31]? = some (Cond.code ⟨"HookSwings$World", "<init>", "()V"⟩ prog_10_method_1_code 1 (none)))
set_option maxRecDepth 100000 in
theorem cwU111 : ∀ a, a < 111 → cwP a := lt_s cwU110 (rfl : (tb 4)[89]? = some (Cond.code ⟨"HookSwings$World", "told", "(II)I"⟩ prog_10_method_2_code 4 (some .int)))
set_option maxRecDepth 100000 in
theorem cwU112 : ∀ a, a < 112 → cwP a := lt_s cwU111 (rfl : (tb 3)[181]? = some (Cond.code ⟨"HookSwings$World", "keepStep", "()V"⟩ prog_10_method_3_code 1 (none)))
set_option maxRecDepth 100000 in
theorem cwU113 : ∀ a, a < 113 → cwP a := lt_s cwU112 (rfl : (tb 4)[144]? = some (Cond.code ⟨"HookSwings$World", "takeBack", "()Z"⟩ prog_10_method_4_code 1 (some .boolean)))
set_option maxRecDepth 100000 in
theorem cwU114 : ∀ a, a < 114 → cwP a := lt_s cwU113 (rfl : (tb 4)[108]? = some (Cond.code ⟨"HookSwings$World", "writeDown", "(I)V"⟩ prog_10_method_5_code 2 (none)))
set_option maxRecDepth 100000 in
theorem cwU115 : ∀ a, a < 115 → cwP a := lt_s cwU114 (rfl : (tb 5)[103]? = some (Cond.code ⟨"HookSwings$World", "bans", "(II)Z"⟩ prog_10_method_6_code 5 (some .boolean)))
set_option maxRecDepth 100000 in
theorem cwU116 : ∀ a, a < 116 → cwP a := lt_s cwU115 (rfl : (tb 5)[202]? = some (Cond.code ⟨"HookSwings$World", "copy", "(LHookSwings$World;)V"⟩ prog_10_method_7_code 2 (none)))
set_option maxRecDepth 100000 in
theorem cwU117 : ∀ a, a < 117 → cwP a := lt_s cwU116 (rfl : (tb 5)[215]? = some (Cond.code ⟨"HookSwings$World", "copyRow", "([I[I)V"⟩ prog_10_method_8_code 2 (none)))
set_option maxRecDepth 100000 in
theorem cwU118 : ∀ a, a < 118 → cwP a := lt_s cwU117 (rfl : (tb 1)[23]? = some (Cond.code ⟨"HookSwings", "<init>", "()V"⟩ prog_1_method_1_code 2 (none)))
set_option maxRecDepth 100000 in
theorem cwU119 : ∀ a, a < 119 → cwP a := lt_s cwU118 (rfl : (tb 2)[180]? = some (Cond.code ⟨"HookSwings", "order", "(IIIII)I"⟩ prog_1_method_2_code 8 (some .int)))
set_option maxRecDepth 100000 in
theorem cwU120 : ∀ a, a < 120 → cwP a := lt_s cwU119 (rfl : (tb 2)[187]? = some (Cond.code ⟨"HookSwings", "near", "(I)Z"⟩ prog_1_method_3_code 2 (some .boolean)))
set_option maxRecDepth 100000 in
theorem cwU121 : ∀ a, a < 121 → cwP a := lt_s cwU120 (rfl : (tb 2)[191]? = some (Cond.code ⟨"HookSwings", "feed", "(IIIII)I"⟩ prog_1_method_4_code 6 (some .int)))
set_option maxRecDepth 100000 in
theorem cwU122 : ∀ a, a < 122 → cwP a := lt_s cwU121 (rfl : (tb 2)[195]? = some (Cond.code ⟨"HookSwings", "feedFour", "(I)V"⟩ prog_1_method_5_code 3 (none)))
set_option maxRecDepth 100000 in
theorem cwU123 : ∀ a, a < 123 → cwP a := lt_s cwU122 (rfl : (tb 2)[199]? = some (Cond.code ⟨"HookSwings", "end", "(I)I"⟩ prog_1_method_6_code 2 (some .int)))
set_option maxRecDepth 100000 in
theorem cwU124 : ∀ a, a < 124 → cwP a := lt_s cwU123 (rfl : (tb 2)[203]? = some (Cond.code ⟨"HookSwings", "text", "()I"⟩ prog_1_method_7_code 2 (some .int)))
set_option maxRecDepth 100000 in
theorem cwU125 : ∀ a, a < 125 → cwP a := lt_s cwU124 (rfl : (tb 3)[165]? = some (Cond.code ⟨"HookSwings", "fault", "(I)I"⟩ prog_1_method_8_code 2 (some .int)))
set_option maxRecDepth 100000 in
theorem cwU126 : ∀ a, a < 126 → cwP a := lt_s cwU125 (rfl : (tb 3)[169]? = some (Cond.code ⟨"HookSwings", "by", "(I)Z"⟩ prog_1_method_9_code 2 (some .boolean)))
set_option maxRecDepth 100000 in
theorem cwU127 : ∀ a, a < 127 → cwP a := lt_s cwU126 (rfl : (tb 3)[173]? = some (Cond.code ⟨"HookSwings", "move", "(I)I"⟩ prog_1_method_10_code 2 (some .int)))
set_option maxRecDepth 100000 in
theorem cwU128 : ∀ a, a < 128 → cwP a := lt_s cwU127 (rfl : (tb 4)[54]? = some (Cond.code ⟨"HookSwings", "run", "(I)I"⟩ prog_1_method_11_code 2 (some .int)))
set_option maxRecDepth 100000 in
theorem cwU129 : ∀ a, a < 129 → cwP a := lt_s cwU128 (rfl : (tb 4)[58]? = some (Cond.code ⟨"HookSwings", "runTenths", "(I)I"⟩ prog_1_method_12_code 5 (some .int)))
set_option maxRecDepth 100000 in
theorem cwU130 : ∀ a, a < 130 → cwP a := lt_s cwU129 (rfl : (tb 3)[177]? = some (Cond.code ⟨"HookSwings", "fitsAhead", "(I)Z"⟩ prog_1_method_13_code 2 (some .boolean)))
set_option maxRecDepth 100000 in
theorem cwU131 : ∀ a, a < 131 → cwP a := lt_s cwU130 (rfl : (tb 4)[69]? = some (Cond.code ⟨"HookSwings", "hoist", "(I)Z"⟩ prog_1_method_14_code 2 (some .boolean)))
set_option maxRecDepth 100000 in
theorem cwU132 : ∀ a, a < 132 → cwP a := lt_s cwU131 (rfl : (tb 4)[73]? = some (Cond.code ⟨"HookSwings", "aim", "(I)Z"⟩ prog_1_method_15_code 2 (some .boolean)))
set_option maxRecDepth 100000 in
theorem cwU133 : ∀ a, a < 133 → cwP a := lt_s cwU132 (rfl : (tb 4)[77]? = some (Cond.code ⟨"HookSwings", "hook", "(I)Z"⟩ prog_1_method_16_code 2 (some .boolean)))
set_option maxRecDepth 100000 in
theorem cwU134 : ∀ a, a < 134 → cwP a := lt_s cwU133 (rfl : (tb 4)[94]? = some (Cond.code ⟨"HookSwings", "land", "()I"⟩ prog_1_method_17_code 2 (some .int)))
set_option maxRecDepth 100000 in
theorem cwU135 : ∀ a, a < 135 → cwP a := lt_s cwU134 (rfl : (tb 4)[112]? = some (Cond.code ⟨"HookSwings", "played", "(I)I"⟩ prog_1_method_18_code 4 (some .int)))
set_option maxRecDepth 100000 in
theorem cwU136 : ∀ a, a < 136 → cwP a := lt_s cwU135 (rfl : (tb 4)[116]? = some (Cond.code ⟨"HookSwings", "playClause", "(LHookSwings$Text;I)Z"⟩ prog_1_method_19_code 4 (some .boolean)))
set_option maxRecDepth 100000 in
theorem cwU137 : ∀ a, a < 137 → cwP a := lt_s cwU136 (rfl : (tb 4)[134]? = some (Cond.code ⟨"HookSwings", "storm", "(II)I"⟩ prog_1_method_20_code 6 (some .int)))
set_option maxRecDepth 100000 in
theorem cwU138 : ∀ a, a < 138 → cwP a := lt_s cwU137 (rfl : (tb 4)[140]? = some (Cond.code ⟨"HookSwings", "undo", "()I"⟩ prog_1_method_21_code 1 (some .int)))
set_option maxRecDepth 100000 in
theorem cwU139 : ∀ a, a < 139 → cwP a := lt_s cwU138 (rfl : (tb 4)[152]? = some (Cond.code ⟨"HookSwings", "jib", "(I)I"⟩ prog_1_method_22_code 3 (some .int)))
set_option maxRecDepth 100000 in
theorem cwU140 : ∀ a, a < 140 → cwP a := lt_s cwU139 (rfl : (tb 4)[158]? = some (Cond.code ⟨"HookSwings", "ofOrder", "(II)I"⟩ prog_1_method_23_code 3 (some .int)))
set_option maxRecDepth 100000 in
theorem cwU141 : ∀ a, a < 141 → cwP a := lt_s cwU140 (rfl : (tb 4)[162]? = some (Cond.code ⟨"HookSwings", "lasting", "(I)I"⟩ prog_1_method_24_code 2 (some .int)))
set_option maxRecDepth 100000 in
theorem cwU142 : ∀ a, a < 142 → cwP a := lt_s cwU141 (rfl : (tb 4)[174]? = some (Cond.code ⟨"HookSwings", "ago", "(II)I"⟩ prog_1_method_25_code 3 (some .int)))
set_option maxRecDepth 100000 in
theorem cwU143 : ∀ a, a < 143 → cwP a := lt_s cwU142 (rfl : (tb 4)[184]? = some (Cond.code ⟨"HookSwings", "foretold", "(IZI)I"⟩ prog_1_method_26_code 8 (some .int)))
set_option maxRecDepth 100000 in
theorem cwU144 : ∀ a, a < 144 → cwP a := lt_s cwU143 (rfl : (tb 4)[207]? = some (Cond.code ⟨"HookSwings", "soonest", "(I)I"⟩ prog_1_method_27_code 2 (some .int)))
set_option maxRecDepth 100000 in
theorem cwU145 : ∀ a, a < 145 → cwP a := lt_s cwU144 (rfl : (tb 5)[9]? = some (Cond.code ⟨"HookSwings", "fewest", "(I)I"⟩ prog_1_method_28_code 2 (some .int)))
set_option maxRecDepth 100000 in
theorem cwU146 : ∀ a, a < 146 → cwP a := lt_s cwU145 (rfl : (tb 5)[13]? = some (Cond.code ⟨"HookSwings", "toAndFro", "(I)I"⟩ prog_1_method_29_code 6 (some .int)))
set_option maxRecDepth 100000 in
theorem cwU147 : ∀ a, a < 147 → cwP a := lt_s cwU146 (rfl : (tb 5)[17]? = some (Cond.code ⟨"HookSwings", "calm", "(IIZ)J"⟩ prog_1_method_30_code 9 (some .long)))
set_option maxRecDepth 100000 in
theorem cwU148 : ∀ a, a < 148 → cwP a := lt_s cwU147 (rfl : (tb 5)[26]? = some (Cond.code ⟨"HookSwings", "dies", "(II)I"⟩ prog_1_method_31_code 6 (some .int)))
set_option maxRecDepth 100000 in
theorem cwU149 : ∀ a, a < 149 → cwP a := lt_s cwU148 (rfl : (tb 5)[42]? = some (Cond.code ⟨"HookSwings", "calmest", "(I)I"⟩ prog_1_method_32_code 6 (some .int)))
set_option maxRecDepth 100000 in
theorem cwU150 : ∀ a, a < 150 → cwP a := lt_s cwU149 (rfl : (tb 5)[29]? = some (Cond.code ⟨"HookSwings", "isHandSpan", "(I)Z"⟩ prog_1_method_33_code 1 (some .boolean)))
set_option maxRecDepth 100000 in
theorem cwU151 : ∀ a, a < 151 → cwP a := lt_s cwU150 (rfl : (tb 5)[46]? = some (Cond.code ⟨"HookSwings", "whoseHand", "()I"⟩ prog_1_method_34_code 3 (some .int)))
set_option maxRecDepth 100000 in
theorem cwU152 : ∀ a, a < 152 → cwP a := lt_s cwU151 (rfl : (tb 5)[50]? = some (Cond.code ⟨"HookSwings", "gaveAll", "(LHookSwings$Laws;)Z"⟩ prog_1_method_35_code 5 (some .boolean)))
set_option maxRecDepth 100000 in
theorem cwU153 : ∀ a, a < 153 → cwP a := lt_s cwU152 (rfl : (tb 5)[62]? = some (Cond.code ⟨"HookSwings", "dayEnds", "(II)I"⟩ prog_1_method_36_code 6 (some .int)))
set_option maxRecDepth 100000 in
theorem cwU154 : ∀ a, a < 154 → cwP a := lt_s cwU153 (rfl : (tb 5)[66]? = some (Cond.code ⟨"HookSwings", "saves", "(III)I"⟩ prog_1_method_37_code 4 (some .int)))
set_option maxRecDepth 100000 in
theorem cwU155 : ∀ a, a < 155 → cwP a := lt_s cwU154 (rfl : (tb 5)[74]? = some (Cond.code ⟨"HookSwings", "tenthsOfHand", "(II)I"⟩ prog_1_method_38_code 7 (some .int)))
set_option maxRecDepth 100000 in
theorem cwU156 : ∀ a, a < 156 → cwP a := lt_s cwU155 (rfl : (tb 5)[87]? = some (Cond.code ⟨"HookSwings", "whenToGo", "()I"⟩ prog_1_method_39_code 6 (some .int)))
set_option maxRecDepth 100000 in
theorem cwU157 : ∀ a, a < 157 → cwP a := lt_s cwU156 (rfl : (tb 5)[91]? = some (Cond.code ⟨"HookSwings", "whichRope", "()I"⟩ prog_1_method_40_code 6 (some .int)))
set_option maxRecDepth 100000 in
theorem cwU158 : ∀ a, a < 158 → cwP a := lt_s cwU157 (rfl : (tb 5)[95]? = some (Cond.code ⟨"HookSwings", "bar", "(IIII)I"⟩ prog_1_method_41_code 7 (some .int)))
set_option maxRecDepth 100000 in
theorem cwU159 : ∀ a, a < 159 → cwP a := lt_s cwU158 (rfl : (tb 5)[99]? = some (Cond.code ⟨"HookSwings", "barred", "(IZ)I"⟩ prog_1_method_42_code 5 (some .int)))
set_option maxRecDepth 100000 in
theorem cwU160 : ∀ a, a < 160 → cwP a := lt_s cwU159 (rfl : (tb 5)[107]? = some (Cond.code ⟨"HookSwings", "howFar", "(I)I"⟩ prog_1_method_43_code 5 (some .int)))
set_option maxRecDepth 100000 in
theorem cwU161 : ∀ a, a < 161 → cwP a := lt_s cwU160 (rfl : (tb 5)[111]? = some (Cond.code ⟨"HookSwings", "over", "()I"⟩ prog_1_method_44_code 4 (some .int)))
set_option maxRecDepth 100000 in
theorem cwU162 : ∀ a, a < 162 → cwP a := lt_s cwU161 (rfl : (tb 5)[115]? = some (Cond.code ⟨"HookSwings", "first", "(II)I"⟩ prog_1_method_45_code 3 (some .int)))
set_option maxRecDepth 100000 in
theorem cwU163 : ∀ a, a < 163 → cwP a := lt_s cwU162 (rfl : (tb 5)[156]? = some (Cond.code ⟨"HookSwings", "twoJibs", "(II)I"⟩ prog_1_method_46_code 4 (some .int)))
set_option maxRecDepth 100000 in
theorem cwU164 : ∀ a, a < 164 → cwP a := lt_s cwU163 (rfl : (tb 5)[125]? = some (Cond.code ⟨"HookSwings", "fillLasting", "()V"⟩ prog_1_method_47_code 2 (none)))
set_option maxRecDepth 100000 in
theorem cwU165 : ∀ a, a < 165 → cwP a := lt_s cwU164 (rfl : (tb 5)[178]? = some (Cond.code ⟨"HookSwings", "said", "(IZ)I"⟩ prog_1_method_48_code 3 (some .int)))
set_option maxRecDepth 100000 in
theorem cwU166 : ∀ a, a < 166 → cwP a := lt_s cwU165 (rfl : (tb 5)[182]? = some (Cond.code ⟨"HookSwings", "left", "(Z)J"⟩ prog_1_method_49_code 7 (some .long)))
set_option maxRecDepth 100000 in
theorem cwU167 : ∀ a, a < 167 → cwP a := lt_s cwU166 (rfl : (tb 5)[186]? = some (Cond.code ⟨"HookSwings", "landed", "(II)I"⟩ prog_1_method_50_code 3 (some .int)))
set_option maxRecDepth 100000 in
theorem cwU168 : ∀ a, a < 168 → cwP a := lt_s cwU167 (rfl : (tb 5)[190]? = some (Cond.code ⟨"HookSwings", "hour", "(I)I"⟩ prog_1_method_51_code 4 (some .int)))
set_option maxRecDepth 100000 in
theorem cwU169 : ∀ a, a < 169 → cwP a := lt_s cwU168 (rfl : (tb 5)[194]? = some (Cond.code ⟨"HookSwings", "mean", "(Z)I"⟩ prog_1_method_52_code 4 (some .int)))
set_option maxRecDepth 100000 in
theorem cwU170 : ∀ a, a < 170 → cwP a := lt_s cwU169 (rfl : (tb 5)[198]? = some (Cond.code ⟨"HookSwings", "image", "()I"⟩ prog_1_method_53_code 1 (some .int)))
set_option maxRecDepth 100000 in
theorem cwU171 : ∀ a, a < 171 → cwP a := lt_s cwU170 (rfl : (tb 5)[220]? = some (Cond.code ⟨"HookSwings", "back", "()I"⟩ prog_1_method_54_code 1 (some .int)))
set_option maxRecDepth 100000 in
theorem cwU172 : ∀ a, a < 172 → cwP a := lt_s cwU171 (rfl : (tb 5)[224]? = some (Cond.code ⟨"HookSwings", "about", "(I)I"⟩ prog_1_method_55_code 2 (some .int)))
set_option maxRecDepth 100000 in
theorem cwU173 : ∀ a, a < 173 → cwP a := lt_s cwU172 (rfl : (tb 4)[81]? = some (Cond.code ⟨"HookSwings", "isOrder", "(I)Z"⟩ prog_1_method_56_code 2 (some .boolean)))
set_option maxRecDepth 100000 in
theorem cwU174 : ∀ a, a < 174 → cwP a := lt_s cwU173 (rfl : (tb 3)[194]? = some (Cond.code ⟨"HookSwings", "isText", "(I)Z"⟩ prog_1_method_57_code 2 (some .boolean)))
set_option maxRecDepth 100000 in
theorem cwU175 : ∀ a, a < 175 → cwP a := lt_s cwU174 (rfl : (tb 5)[70]? = some (Cond.code ⟨"HookSwings", "isSet", "(I)Z"⟩ prog_1_method_58_code 2 (some .boolean)))
set_option maxRecDepth 100000 in
theorem cwU176 : ∀ a, a < 176 → cwP a := lt_s cwU175 (rfl : (tb 3)[190]? = some (Cond.code ⟨"HookSwings", "ruled", "()LHookSwings$Laws;"⟩ prog_1_method_59_code 2 (some (.object "HookSwings$Laws"))))
set_option maxRecDepth 100000 in
theorem cwU177 : ∀ a, a < 177 → cwP a := lt_s cwU176 (rfl : (tb 5)[33]? = some (Cond.code ⟨"HookSwings", "ruledWithHand", "(I)LHookSwings$Laws;"⟩ prog_1_method_60_code 3 (some (.object "HookSwings$Laws"))))
set_option maxRecDepth 100000 in
theorem cwU178 : ∀ a, a < 178 → cwP a := lt_s cwU177 (rfl : (tb 2)[183]? = some (Cond.code ⟨"HookSwings", "within", "(III)Z"⟩ prog_1_method_61_code 3 (some .boolean)))
set_option maxRecDepth 100000 in
theorem cwU179 : ∀ a, a < 179 → cwP a := lt_s cwU178 (rfl : (tb 4)[26]? = some (Cond.code ⟨"HookSwings", "bounded", "(III)I"⟩ prog_1_method_62_code 3 (some .int)))
set_option maxRecDepth 100000 in
theorem cwU180 : ∀ a, a < 180 → cwP a := lt_s cwU179 (rfl : (tb 5)[22]? = some (Cond.code ⟨"HookSwings", "inLowestTerms", "(JJZ)J"⟩ prog_1_method_63_code 12 (some .long)))
set_option maxRecDepth 100000 in
theorem cwU181 : ∀ a, a < 181 → cwP a := lt_s cwU180 (rfl : (tb 5)[229]? = some (Cond.code ⟨"HookSwingsModel", "<init>", "()V"⟩ prog_12_method_1_code 1 (none)))
set_option maxRecDepth 100000 in
theorem cwU182 : ∀ a, a < 182 → cwP a := lt_s cwU181 (rfl : (tb 5)[233]? = some (Cond.code ⟨"HookSwingsModel", "copy", "([I[I)V"⟩ prog_12_method_2_code 3 (none)))
set_option maxRecDepth 100000 in
theorem cwU183 : ∀ a, a < 183 → cwP a := lt_s cwU182 (rfl : (tb 6)[113]? = some (Cond.code ⟨"HookSwingsModel", "isIn", "(III)Z"⟩ prog_12_method_3_code 3 (some .boolean)))
set_option maxRecDepth 100000 in
theorem cwU184 : ∀ a, a < 184 → cwP a := lt_s cwU183 (rfl : (tb 7)[119]? = some (Cond.code ⟨"HookSwingsModel", "cut", "(III)I"⟩ prog_12_method_4_code 3 (some .int)))
set_option maxRecDepth 100000 in
theorem cwU185 : ∀ a, a < 185 → cwP a := lt_s cwU184 (rfl : (tb 7)[173]? = some (Cond.code ⟨"HookSwingsModel", "sizeOf", "(I)I"⟩ prog_12_method_5_code 1 (some .int)))
set_option maxRecDepth 100000 in
theorem cwU186 : ∀ a, a < 186 → cwP a := lt_s cwU185 (rfl : (tb 6)[186]? = some (Cond.code ⟨"HookSwingsModel", "has", "(II)Z"⟩ prog_12_method_6_code 2 (some .boolean)))
set_option maxRecDepth 100000 in
theorem cwU187 : ∀ a, a < 187 → cwP a := lt_s cwU186 (rfl : (tb 8)[114]? = some (Cond.code ⟨"HookSwingsModel", "bits", "(I)I"⟩ prog_12_method_7_code 3 (some .int)))
set_option maxRecDepth 100000 in
theorem cwU188 : ∀ a, a < 188 → cwP a := lt_s cwU187 (rfl : (tb 7)[162]? = some (Cond.code ⟨"HookSwingsModel", "isOrder", "(I)Z"⟩ prog_12_method_8_code 2 (some .boolean)))
set_option maxRecDepth 100000 in
theorem cwU189 : ∀ a, a < 189 → cwP a := lt_s cwU188 (rfl : (tb 7)[69]? = some (Cond.code ⟨"HookSwingsModel", "get", "(II)I"⟩ prog_12_method_9_code 3 (some .int)))
set_option maxRecDepth 100000 in
theorem cwU190 : ∀ a, a < 190 → cwP a := lt_s cwU189 (rfl : (tb 6)[110]? = some (Cond.code ⟨"HookSwingsModel", "order", "(IIIII)I"⟩ prog_12_method_10_code 7 (some .int)))
set_option maxRecDepth 100000 in
theorem cwU191 : ∀ a, a < 191 → cwP a := lt_s cwU190 (rfl : (tb 6)[117]? = some (Cond.code ⟨"HookSwingsModel", "near", "(I)Z"⟩ prog_12_method_11_code 2 (some .boolean)))
set_option maxRecDepth 100000 in
theorem cwU192 : ∀ a, a < 192 → cwP a := lt_s cwU191 (rfl : (tb 6)[125]? = some (Cond.code ⟨"HookSwingsModel", "four", "(I)V"⟩ prog_12_method_12_code 3 (none)))
set_option maxRecDepth 100000 in
theorem cwU193 : ∀ a, a < 193 → cwP a := lt_s cwU192 (rfl : (tb 6)[121]? = some (Cond.code ⟨"HookSwingsModel", "feed", "(IIIII)I"⟩ prog_12_method_13_code 6 (some .int)))
set_option maxRecDepth 100000 in
theorem cwU194 : ∀ a, a < 194 → cwP a := lt_s cwU193 (rfl : (tb 6)[129]? = some (Cond.code ⟨"HookSwingsModel", "end", "(I)I"⟩ prog_12_method_14_code 2 (some .int)))
set_option maxRecDepth 100000 in
theorem cwU195 : ∀ a, a < 195 → cwP a := lt_s cwU194 (rfl : (tb 6)[145]? = some (Cond.code ⟨"HookSwingsModel", "byteAt", "(I)I"⟩ prog_12_method_15_code 2 (some .int)))
set_option maxRecDepth 100000 in
theorem cwU196 : ∀ a, a < 196 → cwP a := lt_s cwU195 (rfl : (tb 6)[152]? = some (Cond.code ⟨"HookSwingsModel", "isLetterByte", "(I)Z"⟩ prog_12_method_16_code 1 (some .boolean)))
set_option maxRecDepth 100000 in
theorem cwU197 : ∀ a, a < 197 → cwP a := lt_s cwU196 (rfl : (tb 6)[148]? = some (Cond.code ⟨"HookSwingsModel", "isFigure", "(I)Z"⟩ prog_12_method_17_code 1 (some .boolean)))
set_option maxRecDepth 100000 in
theorem cwU198 : ∀ a, a < 198 → cwP a := lt_s cwU197 (rfl : (tb 6)[156]? = some (Cond.code ⟨"HookSwingsModel", "isSign", "(I)Z"⟩ prog_12_method_18_code 1 (some .boolean)))
set_option maxRecDepth 100000 in
theorem cwU199 : ∀ a, a < 199 → cwP a := lt_s cwU198 (rfl : (tb 6)[141]? = some (Cond.code ⟨"HookSwingsModel", "nextToken", "()V"⟩ prog_12_method_19_code 2 (none)))
set_option maxRecDepth 100000 in
theorem cwU200 : ∀ a, a < 200 → cwP a := lt_s cwU199 (rfl : (tb 6)[176]? = some (Cond.code ⟨"HookSwingsModel", "w2", "(II)J"⟩ prog_12_method_20_code 2 (some .long)))
set_option maxRecDepth 100000 in
theorem cwU201 : ∀ a, a < 201 → cwP a := lt_s cwU200 (rfl : (tb 6)[173]? = some (Cond.code ⟨"HookSwingsModel", "w3", "(III)J"⟩ prog_12_method_21_code 3 (some .long)))
set_option maxRecDepth 100000 in
theorem cwU202 : ∀ a, a < 202 → cwP a := lt_s cwU201 (rfl : (tb 6)[170]? = some (Cond.code ⟨"HookSwingsModel", "w4", "(IIII)J"⟩ prog_12_method_22_code 4 (some .long)))
set_option maxRecDepth 100000 in
theorem cwU203 : ∀ a, a < 203 → cwP a := lt_s cwU202 (rfl : (tb 6)[167]? = some (Cond.code ⟨"HookSwingsModel", "w5", "(IIIII)J"⟩ prog_12_method_23_code 5 (some .long)))
set_option maxRecDepth 100000 in
theorem cwU204 : ∀ a, a < 204 → cwP a := lt_s cwU203 (rfl : (tb 6)[183]? = some (Cond.code ⟨"HookSwingsModel", "w6", "(IIIIII)J"⟩ prog_12_method_24_code 6 (some .long)))
set_option maxRecDepth 100000 in
theorem cwU205 : ∀ a, a < 205 → cwP a := lt_s cwU204 (rfl : (tb 6)[180]? = some (Cond.code ⟨"HookSwingsModel", "isWord", "(J)Z"⟩ prog_12_method_25_code 3 (some .boolean)))
set_option maxRecDepth 100000 in
theorem cwU206 : ∀ a, a < 206 → cwP a := lt_s cwU205 (rfl : (tb 7)[9]? = some (Cond.code ⟨"HookSwingsModel", "emit", "(II)V"⟩ prog_12_method_26_code 3 (none)))
set_option maxRecDepth 100000 in
theorem cwU207 : ∀ a, a < 207 → cwP a := lt_s cwU206 (rfl : (tb 7)[21]? = some (Cond.code ⟨"HookSwingsModel", "nameOf", "()I"⟩ prog_12_method_27_code 1 (some .int)))
set_option maxRecDepth 100000 in
theorem cwU208 : ∀ a, a < 208 → cwP a := lt_s cwU207 (rfl : (tb 7)[25]? = some (Cond.code ⟨"HookSwingsModel", "isOf", "(I)Z"⟩ prog_12_method_28_code 2 (some .boolean)))
set_option maxRecDepth 100000 in
theorem cwU209 : ∀ a, a < 209 → cwP a := lt_s cwU208 (rfl : (tb 6)[237]? = some (Cond.code ⟨"HookSwingsModel", "rank", "(I)I"⟩ prog_12_method_29_code 1 (some .int)))
set_option maxRecDepth 100000 in
theorem cwU210 : ∀ a, a < 210 → cwP a := lt_s cwU209 (rfl : (tb 7)[5]? = some (Cond.code ⟨"HookSwingsModel", "settle", "(I)V"⟩ prog_12_method_30_code 2 (none)))
set_option maxRecDepth 100000 in
theorem cwU211 : ∀ a, a < 211 → cwP a := lt_s cwU210 (rfl : (tb 6)[230]? = some (Cond.code ⟨"HookSwingsModel", "openAt", "()I"⟩ prog_12_method_31_code 2 (some .int)))
set_option maxRecDepth 100000 in
theorem cwU212 : ∀ a, a < 212 → cwP a := lt_s cwU211 (rfl : (tb 6)[226]? = some (Cond.code ⟨"HookSwingsModel", "openNow", "()I"⟩ prog_12_method_32_code 1 (some .int)))
set_option maxRecDepth 100000 in
theorem cwU213 : ∀ a, a < 213 → cwP a := lt_s cwU212 (rfl : (tb 6)[234]? = some (Cond.code ⟨"HookSwingsModel", "isCompared", "()Z"⟩ prog_12_method_33_code 2 (some .boolean)))
set_option maxRecDepth 100000 in
theorem cwU214 : ∀ a, a < 214 → cwP a := lt_s cwU213 (rfl : (tb 7)[41]? = some (Cond.code ⟨"HookSwingsModel", "isAskAhead", "()Z"⟩ prog_12_method_34_code 1 (some .boolean)))
set_option maxRecDepth 100000 in
theorem cwU215 : ∀ a, a < 215 → cwP a := lt_s cwU214 (rfl : (tb 7)[37]? = some (Cond.code ⟨"HookSwingsModel", "opened", "(I)I"⟩ prog_12_method_35_code 2 (some .int)))
set_option maxRecDepth 100000 in
theorem cwU216 : ∀ a, a < 216 → cwP a := lt_s cwU215 (rfl : (tb 7)[29]? = some (Cond.code ⟨"HookSwingsModel", "one", "(II)V"⟩ prog_12_method_36_code 3 (none)))
set_option maxRecDepth 100000 in
theorem cwU217 : ∀ a, a < 217 → cwP a := lt_s cwU216 (rfl : (tb 7)[33]? = some (Cond.code ⟨"HookSwingsModel", "agoOne", "()I"⟩ prog_12_method_37_code 3 (some .int)))
set_option maxRecDepth 100000 in
theorem cwU218 : ∀ a, a < 218 → cwP a := lt_s cwU217 (rfl : (tb 7)[17]? = some (Cond.code ⟨"HookSwingsModel", "beginOne", "()I"⟩ prog_12_method_38_code 2 (some .int)))
set_option maxRecDepth 100000 in
theorem cwU219 : ∀ a, a < 219 → cwP a := lt_s cwU218 (rfl : (tb 7)[1]? = some (Cond.code ⟨"HookSwingsModel", "compareOf", "()I"⟩ prog_12_method_39_code 1 (some .int)))
set_option maxRecDepth 100000 in
theorem cwU220 : ∀ a, a < 220 → cwP a := lt_s cwU219 (rfl : (tb 6)[222]? = some (Cond.code ⟨"HookSwingsModel", "betweenOf", "()I"⟩ prog_12_method_40_code 1 (some .int)))
set_option maxRecDepth 100000 in
theorem cwU221 : ∀ a, a < 221 → cwP a := lt_s cwU220 (rfl : (tb 7)[13]? = some (Cond.code ⟨"HookSwingsModel", "partOf", "(I)I"⟩ prog_12_method_41_code 2 (some .int)))
set_option maxRecDepth 100000 in
theorem cwU222 : ∀ a, a < 222 → cwP a := lt_s cwU221 (rfl : (tb 6)[218]? = some (Cond.code ⟨"HookSwingsModel", "behindOne", "()Z"⟩ prog_12_method_42_code 4 (some .boolean)))
set_option maxRecDepth 100000 in
theorem cwU223 : ∀ a, a < 223 → cwP a := lt_s cwU222 (rfl : (tb 6)[214]? = some (Cond.code ⟨"HookSwingsModel", "summed", "()I"⟩ prog_12_method_43_code 2 (some .int)))
set_option maxRecDepth 100000 in
theorem cwU224 : ∀ a, a < 224 → cwP a := lt_s cwU223 (rfl : (tb 6)[198]? = some (Cond.code ⟨"HookSwingsModel", "figure", "(III)I"⟩ prog_12_method_44_code 4 (some .int)))
set_option maxRecDepth 100000 in
theorem cwU225 : ∀ a, a < 225 → cwP a := lt_s cwU224 (rfl : (tb 6)[202]? = some (Cond.code ⟨"HookSwingsModel", "worded", "(JIII)I"⟩ prog_12_method_45_code 6 (some .int)))
set_option maxRecDepth 100000 in
theorem cwU226 : ∀ a, a < 226 → cwP a := lt_s cwU225 (rfl : (tb 6)[210]? = some (Cond.code ⟨"HookSwingsModel", "lawClause", "(I)I"⟩ prog_12_method_46_code 3 (some .int)))
set_option maxRecDepth 100000 in
theorem cwU227 : ∀ a, a < 227 → cwP a := lt_s cwU226 (rfl : (tb 6)[194]? = some (Cond.code ⟨"HookSwingsModel", "orderClause", "(I)I"⟩ prog_12_method_47_code 3 (some .int)))
set_option maxRecDepth 100000 in
theorem cwU228 : ∀ a, a < 228 → cwP a := lt_s cwU227 (rfl : (tb 6)[206]? = some (Cond.code ⟨"HookSwingsModel", "moveClause", "(I)I"⟩ prog_12_method_48_code 4 (some .int)))
set_option maxRecDepth 100000 in
theorem cwU229 : ∀ a, a < 229 → cwP a := lt_s cwU228 (rfl : (tb 6)[190]? = some (Cond.code ⟨"HookSwingsModel", "body", "(II)I"⟩ prog_12_method_49_code 3 (some .int)))
set_option maxRecDepth 100000 in
theorem cwU230 : ∀ a, a < 230 → cwP a := lt_s cwU229 (rfl : (tb 6)[164]? = some (Cond.code ⟨"HookSwingsModel", "sortOf", "()I"⟩ prog_12_method_50_code 1 (some .int)))
set_option maxRecDepth 100000 in
theorem cwU231 : ∀ a, a < 231 → cwP a := lt_s cwU230 (rfl : (tb 6)[160]? = some (Cond.code ⟨"HookSwingsModel", "clause", "()I"⟩ prog_12_method_51_code 5 (some .int)))
set_option maxRecDepth 100000 in
theorem cwU232 : ∀ a, a < 232 → cwP a := lt_s cwU231 (rfl : (tb 6)[137]? = some (Cond.code ⟨"HookSwingsModel", "readText", "()I"⟩ prog_12_method_52_code 2 (some .int)))
set_option maxRecDepth 100000 in
theorem cwU233 : ∀ a, a < 233 → cwP a := lt_s cwU232 (rfl : (tb 6)[133]? = some (Cond.code ⟨"HookSwingsModel", "text", "()I"⟩ prog_12_method_53_code 1 (some .int)))
set_option maxRecDepth 100000 in
theorem cwU234 : ∀ a, a < 234 → cwP a := lt_s cwU233 (rfl : (tb 7)[45]? = some (Cond.code ⟨"HookSwingsModel", "fault", "(I)I"⟩ prog_12_method_54_code 2 (some .int)))
set_option maxRecDepth 100000 in
theorem cwU235 : ∀ a, a < 235 → cwP a := lt_s cwU234 (rfl : (tb 7)[49]? = some (Cond.code ⟨"HookSwingsModel", "by", "(I)Z"⟩ prog_12_method_55_code 2 (some .boolean)))
set_option maxRecDepth 100000 in
theorem cwU236 : ∀ a, a < 236 → cwP a := lt_s cwU235 (rfl : (tb 7)[111]? = some (Cond.code ⟨"HookSwingsModel", "clip", "(J)J"⟩ prog_12_method_56_code 2 (some .long)))
set_option maxRecDepth 100000 in
theorem cwU237 : ∀ a, a < 237 → cwP a := lt_s cwU236 (rfl : (tb 7)[108]? = some (Cond.code ⟨"HookSwingsModel", "two", "(IJJ)J"⟩ prog_12_method_57_code 5 (some .long)))
set_option maxRecDepth 100000 in
theorem cwU238 : ∀ a, a < 238 → cwP a := lt_s cwU237 (rfl : (tb 7)[116]? = some (Cond.code ⟨"HookSwingsModel", "isAsked", "(IJJ)Z"⟩ prog_12_method_58_code 5 (some .boolean)))
set_option maxRecDepth 100000 in
theorem cwU239 : ∀ a, a < 239 → cwP a := lt_s cwU238 (rfl : (tb 7)[105]? = some (Cond.code ⟨"HookSwingsModel", "pastOf", "(II)I"⟩ prog_12_method_59_code 3 (some .int)))
set_option maxRecDepth 100000 in
theorem cwU240 : ∀ a, a < 240 → cwP a := lt_s cwU239 (rfl : (tb 7)[101]? = some (Cond.code ⟨"HookSwingsModel", "agoOf", "(II)I"⟩ prog_12_method_60_code 3 (some .int)))
set_option maxRecDepth 100000 in
theorem cwU241 : ∀ a, a < 241 → cwP a := lt_s cwU240 (rfl : (tb 7)[97]? = some (Cond.code ⟨"HookSwingsModel", "worked", "(II)I"⟩ prog_12_method_61_code 10 (some .int)))
set_option maxRecDepth 100000 in
theorem cwU242 : ∀ a, a < 242 → cwP a := lt_s cwU241 (rfl : (tb 7)[93]? = some (Cond.code ⟨"HookSwingsModel", "clauseOf", "(II)I"⟩ prog_12_method_62_code 4 (some .int)))
set_option maxRecDepth 100000 in
theorem cwU243 : ∀ a, a < 243 → cwP a := lt_s cwU242 (rfl : (tb 7)[89]? = some (Cond.code ⟨"HookSwingsModel", "says", "(IIII)I"⟩ prog_12_method_63_code 6 (some .int)))
set_option maxRecDepth 100000 in
theorem cwU244 : ∀ a, a < 244 → cwP a := lt_s cwU243 (rfl : (tb 7)[81]? = some (Cond.code ⟨"HookSwingsModel", "away", "()I"⟩ prog_12_method_64_code 1 (some .int)))
set_option maxRecDepth 100000 in
theorem cwU245 : ∀ a, a < 245 → cwP a := lt_s cwU244 (rfl : (tb 7)[85]? = some (Cond.code ⟨"HookSwingsModel", "nameNow", "()V"⟩ prog_12_method_65_code 1 (none)))
set_option maxRecDepth 100000 in
theorem cwU246 : ∀ a, a < 246 → cwP a := lt_s cwU245 (rfl : (tb 7)[146]? = some (Cond.code ⟨"HookSwingsModel", "commandBy", "(I)I"⟩ prog_12_method_66_code 4 (some .int)))
set_option maxRecDepth 100000 in
theorem cwU247 : ∀ a, a < 247 → cwP a := lt_s cwU246 (rfl : (tb 7)[203]? = some (Cond.code ⟨"HookSwingsModel", "lastsOf", "(I)I"⟩ prog_12_method_67_code 2 (some .int)))
set_option maxRecDepth 100000 in
theorem cwU248 : ∀ a, a < 248 → cwP a := lt_s cwU247 (rfl : (tb 7)[207]? = some (Cond.code ⟨"HookSwingsModel", "holdsAt", "(I)I"⟩ prog_12_method_68_code 2 (some .int)))
set_option maxRecDepth 100000 in
theorem cwU249 : ∀ a, a < 249 → cwP a := lt_s cwU248 (rfl : (tb 7)[123]? = some (Cond.code ⟨"HookSwingsModel", "drawn", "(I)I"⟩ prog_12_method_69_code 3 (some .int)))
set_option maxRecDepth 100000 in
theorem cwU250 : ∀ a, a < 250 → cwP a := lt_s cwU249 (rfl : (tb 7)[127]? = some (Cond.code ⟨"HookSwingsModel", "anew", "()V"⟩ prog_12_method_70_code 1 (none)))
set_option maxRecDepth 100000 in
theorem cwU251 : ∀ a, a < 251 → cwP a := lt_s cwU250 (rfl : (tb 7)[77]? = some (Cond.code ⟨"HookSwingsModel", "layPast", "(I)V"⟩ prog_12_method_71_code 3 (none)))
set_option maxRecDepth 100000 in
theorem cwU252 : ∀ a, a < 252 → cwP a := lt_s cwU251 (rfl : (tb 7)[73]? = some (Cond.code ⟨"HookSwingsModel", "pass", "(I)V"⟩ prog_12_method_72_code 3 (none)))
set_option maxRecDepth 100000 in
theorem cwU253 : ∀ a, a < 253 → cwP a := lt_s cwU252 (rfl : (tb 7)[170]? = some (Cond.code ⟨"HookSwingsModel", "hangsStill", "()Z"⟩ prog_12_method_73_code 1 (some .boolean)))
set_option maxRecDepth 100000 in
theorem cwU254 : ∀ a, a < 254 → cwP a := lt_s cwU253 (rfl : (tb 7)[142]? = some (Cond.code ⟨"HookSwingsModel", "commandNow", "(I)I"⟩ prog_12_method_74_code 2 (some .int)))
set_option maxRecDepth 100000 in
theorem cwU255 : ∀ a, a < 255 → cwP a := lt_s cwU254 (rfl : (tb 7)[65]? = some (Cond.code ⟨"HookSwingsModel", "keep", "()V"⟩ prog_12_method_75_code 3 (none)))
set_option maxRecDepth 100000 in
theorem cwU256 : ∀ a, a < 256 → cwP a := lt_s cwU255 (rfl : (tb 7)[53]? = some (Cond.code ⟨"HookSwingsModel", "undo", "()I"⟩ prog_12_method_76_code 3 (some .int)))
set_option maxRecDepth 100000 in
theorem cwU257 : ∀ a, a < 257 → cwP a := lt_s cwU256 (rfl : (tb 7)[61]? = some (Cond.code ⟨"HookSwingsModel", "isTenth", "(I)Z"⟩ prog_12_method_77_code 2 (some .boolean)))
set_option maxRecDepth 100000 in
theorem cwU258 : ∀ a, a < 258 → cwP a := lt_s cwU257 (rfl : (tb 7)[57]? = some (Cond.code ⟨"HookSwingsModel", "move", "(I)I"⟩ prog_12_method_78_code 2 (some .int)))
set_option maxRecDepth 100000 in
theorem cwU259 : ∀ a, a < 259 → cwP a := lt_s cwU258 (rfl : (tb 7)[138]? = some (Cond.code ⟨"HookSwingsModel", "areRun", "(I)Z"⟩ prog_12_method_79_code 3 (some .boolean)))
set_option maxRecDepth 100000 in
theorem cwU260 : ∀ a, a < 260 → cwP a := lt_s cwU259 (rfl : (tb 7)[134]? = some (Cond.code ⟨"HookSwingsModel", "run", "(I)I"⟩ prog_12_method_80_code 2 (some .int)))
set_option maxRecDepth 100000 in
theorem cwU261 : ∀ a, a < 261 → cwP a := lt_s cwU260 (rfl : (tb 7)[150]? = some (Cond.code ⟨"HookSwingsModel", "hoist", "(I)Z"⟩ prog_12_method_81_code 2 (some .boolean)))
set_option maxRecDepth 100000 in
theorem cwU262 : ∀ a, a < 262 → cwP a := lt_s cwU261 (rfl : (tb 7)[154]? = some (Cond.code ⟨"HookSwingsModel", "aim", "(I)Z"⟩ prog_12_method_82_code 2 (some .boolean)))
set_option maxRecDepth 100000 in
theorem cwU263 : ∀ a, a < 263 → cwP a := lt_s cwU262 (rfl : (tb 7)[158]? = some (Cond.code ⟨"HookSwingsModel", "hook", "(I)Z"⟩ prog_12_method_83_code 2 (some .boolean)))
set_option maxRecDepth 100000 in
theorem cwU264 : ∀ a, a < 264 → cwP a := lt_s cwU263 (rfl : (tb 7)[166]? = some (Cond.code ⟨"HookSwingsModel", "land", "()I"⟩ prog_12_method_84_code 2 (some .int)))
set_option maxRecDepth 100000 in
theorem cwU265 : ∀ a, a < 265 → cwP a := lt_s cwU264 (rfl : (tb 7)[181]? = some (Cond.code ⟨"HookSwingsModel", "isPlayed", "(I)Z"⟩ prog_12_method_85_code 3 (some .boolean)))
set_option maxRecDepth 100000 in
theorem cwU266 : ∀ a, a < 266 → cwP a := lt_s cwU265 (rfl : (tb 7)[177]? = some (Cond.code ⟨"HookSwingsModel", "played", "(I)I"⟩ prog_12_method_86_code 3 (some .int)))
set_option maxRecDepth 100000 in
theorem cwU267 : ∀ a, a < 267 → cwP a := lt_s cwU266 (rfl : (tb 7)[190]? = some (Cond.code ⟨"HookSwingsModel", "storm", "(II)I"⟩ prog_12_method_87_code 4 (some .int)))
set_option maxRecDepth 100000 in
theorem cwU268 : ∀ a, a < 268 → cwP a := lt_s cwU267 (rfl : (tb 7)[194]? = some (Cond.code ⟨"HookSwingsModel", "jib", "(I)I"⟩ prog_12_method_88_code 2 (some .int)))
set_option maxRecDepth 100000 in
theorem cwU269 : ∀ a, a < 269 → cwP a := lt_s cwU268 (rfl : (tb 7)[199]? = some (Cond.code ⟨"HookSwingsModel", "ofOrder", "(II)I"⟩ prog_12_method_89_code 3 (some .int)))
set_option maxRecDepth 100000 in
theorem cwU270 : ∀ a, a < 270 → cwP a := lt_s cwU269 (rfl : (tb 7)[215]? = some (Cond.code ⟨"HookSwingsModel", "held", "()I"⟩ prog_12_method_90_code 1 (some .int)))
set_option maxRecDepth 100000 in
theorem cwU271 : ∀ a, a < 271 → cwP a := lt_s cwU270 (rfl : (tb 7)[211]? = some (Cond.code ⟨"HookSwingsModel", "ago", "(II)I"⟩ prog_12_method_91_code 3 (some .int)))
set_option maxRecDepth 100000 in
theorem cwU272 : ∀ a, a < 272 → cwP a := lt_s cwU271 (rfl : (tb 7)[223]? = some (Cond.code ⟨"HookSwingsModel", "begin", "()V"⟩ prog_12_method_92_code 2 (none)))
set_option maxRecDepth 100000 in
theorem cwU273 : ∀ a, a < 273 → cwP a := lt_s cwU272 (rfl : (tb 7)[227]? = some (Cond.code ⟨"HookSwingsModel", "putBack", "()V"⟩ prog_12_method_93_code 2 (none)))
set_option maxRecDepth 100000 in
theorem cwU274 : ∀ a, a < 274 → cwP a := lt_s cwU273 (rfl : (tb 7)[219]? = some (Cond.code ⟨"HookSwingsModel", "foretold", "(IZI)I"⟩ prog_12_method_94_code 7 (some .int)))
set_option maxRecDepth 100000 in
theorem cwU275 : ∀ a, a < 275 → cwP a := lt_s cwU274 (rfl : (tb 7)[238]? = some (Cond.code ⟨"HookSwingsModel", "digitOf", "(III)I"⟩ prog_12_method_95_code 5 (some .int)))
set_option maxRecDepth 100000 in
theorem cwU276 : ∀ a, a < 276 → cwP a := lt_s cwU275 (rfl : (tb 7)[235]? = some (Cond.code ⟨"HookSwingsModel", "comesStill", "(II)Z"⟩ prog_12_method_96_code 4 (some .boolean)))
set_option maxRecDepth 100000 in
theorem cwU277 : ∀ a, a < 277 → cwP a := lt_s cwU276 (rfl : (tb 7)[231]? = some (Cond.code ⟨"HookSwingsModel", "soonest", "(I)I"⟩ prog_12_method_97_code 5 (some .int)))
set_option maxRecDepth 100000 in
theorem cwU278 : ∀ a, a < 278 → cwP a := lt_s cwU277 (rfl : (tb 8)[6]? = some (Cond.code ⟨"HookSwingsModel", "many", "(II)I"⟩ prog_12_method_98_code 4 (some .int)))
set_option maxRecDepth 100000 in
theorem cwU279 : ∀ a, a < 279 → cwP a := lt_s cwU278 (rfl : (tb 8)[2]? = some (Cond.code ⟨"HookSwingsModel", "fewest", "(I)I"⟩ prog_12_method_99_code 8 (some .int)))
set_option maxRecDepth 100000 in
theorem cwU280 : ∀ a, a < 280 → cwP a := lt_s cwU279 (rfl : (tb 8)[10]? = some (Cond.code ⟨"HookSwingsModel", "toAndFro", "(I)I"⟩ prog_12_method_100_code 6 (some .int)))
set_option maxRecDepth 100000 in
theorem cwU281 : ∀ a, a < 281 → cwP a := lt_s cwU280 (rfl : (tb 8)[14]? = some (Cond.code ⟨"HookSwingsModel", "calm", "(IIZ)J"⟩ prog_12_method_101_code 9 (some .long)))
set_option maxRecDepth 100000 in
theorem cwU282 : ∀ a, a < 282 → cwP a := lt_s cwU281 (rfl : (tb 8)[31]? = some (Cond.code ⟨"HookSwingsModel", "halves", "(II)V"⟩ prog_12_method_102_code 5 (none)))
set_option maxRecDepth 100000 in
theorem cwU283 : ∀ a, a < 283 → cwP a := lt_s cwU282 (rfl : (tb 8)[27]? = some (Cond.code ⟨"HookSwingsModel", "isText", "(I)Z"⟩ prog_12_method_103_code 2 (some .boolean)))
set_option maxRecDepth 100000 in
theorem cwU284 : ∀ a, a < 284 → cwP a := lt_s cwU283 (rfl : (tb 8)[23]? = some (Cond.code ⟨"HookSwingsModel", "dies", "(II)I"⟩ prog_12_method_104_code 3 (some .int)))
set_option maxRecDepth 100000 in
theorem cwU285 : ∀ a, a < 285 → cwP a := lt_s cwU284 (rfl : (tb 8)[35]? = some (Cond.code ⟨"HookSwingsModel", "calmest", "(I)I"⟩ prog_12_method_105_code 6 (some .int)))
set_option maxRecDepth 100000 in
theorem cwU286 : ∀ a, a < 286 → cwP a := lt_s cwU285 (rfl : (tb 8)[43]? = some (Cond.code ⟨"HookSwingsModel", "isHandOf", "(I)Z"⟩ prog_12_method_106_code 4 (some .boolean)))
set_option maxRecDepth 100000 in
theorem cwU287 : ∀ a, a < 287 → cwP a := lt_s cwU286 (rfl : (tb 8)[39]? = some (Cond.code ⟨"HookSwingsModel", "whoseHand", "()I"⟩ prog_12_method_107_code 3 (some .int)))
set_option maxRecDepth 100000 in
theorem cwU288 : ∀ a, a < 288 → cwP a := lt_s cwU287 (rfl : (tb 8)[95]? = some (Cond.code ⟨"HookSwingsModel", "isTooMuch", "(III)Z"⟩ prog_12_method_108_code 6 (some .boolean)))
set_option maxRecDepth 100000 in
theorem cwU289 : ∀ a, a < 289 → cwP a := lt_s cwU288 (rfl : (tb 8)[59]? = some (Cond.code ⟨"HookSwingsModel", "stillBy", "(II)I"⟩ prog_12_method_109_code 4 (some .int)))
set_option maxRecDepth 100000 in
theorem cwU290 : ∀ a, a < 290 → cwP a := lt_s cwU289 (rfl : (tb 8)[51]? = some (Cond.code ⟨"HookSwingsModel", "fromRest", "(II)I"⟩ prog_12_method_110_code 4 (some .int)))
set_option maxRecDepth 100000 in
theorem cwU291 : ∀ a, a < 291 → cwP a := lt_s cwU290 (rfl : (tb 8)[55]? = some (Cond.code ⟨"HookSwingsModel", "keepPast", "()V"⟩ prog_12_method_111_code 2 (none)))
set_option maxRecDepth 100000 in
theorem cwU292 : ∀ a, a < 292 → cwP a := lt_s cwU291 (rfl : (tb 8)[63]? = some (Cond.code ⟨"HookSwingsModel", "putBackPast", "()V"⟩ prog_12_method_112_code 2 (none)))
set_option maxRecDepth 100000 in
theorem cwU293 : ∀ a, a < 293 → cwP a := lt_s cwU292 (rfl : (tb 8)[47]? = some (Cond.code ⟨"HookSwingsModel", "saves", "(III)I"⟩ prog_12_method_113_code 6 (some .int)))
set_option maxRecDepth 100000 in
theorem cwU294 : ∀ a, a < 294 → cwP a := lt_s cwU293 (rfl : (tb 8)[71]? = some (Cond.code ⟨"HookSwingsModel", "goneBy", "(I)I"⟩ prog_12_method_114_code 3 (some .int)))
set_option maxRecDepth 100000 in
theorem cwU295 : ∀ a, a < 295 → cwP a := lt_s cwU294 (rfl : (tb 8)[67]? = some (Cond.code ⟨"HookSwingsModel", "whenToGo", "()I"⟩ prog_12_method_115_code 5 (some .int)))
set_option maxRecDepth 100000 in
theorem cwU296 : ∀ a, a < 296 → cwP a := lt_s cwU295 (rfl : (tb 8)[75]? = some (Cond.code ⟨"HookSwingsModel", "whichRope", "()I"⟩ prog_12_method_116_code 5 (some .int)))
set_option maxRecDepth 100000 in
theorem cwU297 : ∀ a, a < 297 → cwP a := lt_s cwU296 (rfl : (tb 8)[79]? = some (Cond.code ⟨"HookSwingsModel", "bar", "(IIII)I"⟩ prog_12_method_117_code 6 (some .int)))
set_option maxRecDepth 100000 in
theorem cwU298 : ∀ a, a < 298 → cwP a := lt_s cwU297 (rfl : (tb 8)[87]? = some (Cond.code ⟨"HookSwingsModel", "isBarred", "()Z"⟩ prog_12_method_118_code 3 (some .boolean)))
set_option maxRecDepth 100000 in
theorem cwU299 : ∀ a, a < 299 → cwP a := lt_s cwU298 (rfl : (tb 8)[83]? = some (Cond.code ⟨"HookSwingsModel", "barred", "(IZ)I"⟩ prog_12_method_119_code 5 (some .int)))
set_option maxRecDepth 100000 in
theorem cwU300 : ∀ a, a < 300 → cwP a := lt_s cwU299 (rfl : (tb 8)[91]? = some (Cond.code ⟨"HookSwingsModel", "dayEnds", "(II)I"⟩ prog_12_method_120_code 4 (some .int)))
set_option maxRecDepth 100000 in
theorem cwU301 : ∀ a, a < 301 → cwP a := lt_s cwU300 (rfl : (tb 8)[99]? = some (Cond.code ⟨"HookSwingsModel", "howFar", "(I)I"⟩ prog_12_method_121_code 3 (some .int)))
set_option maxRecDepth 100000 in
theorem cwU302 : ∀ a, a < 302 → cwP a := lt_s cwU301 (rfl : (tb 8)[103]? = some (Cond.code ⟨"HookSwingsModel", "over", "()I"⟩ prog_12_method_122_code 3 (some .int)))
set_option maxRecDepth 100000 in
theorem cwU303 : ∀ a, a < 303 → cwP a := lt_s cwU302 (rfl : (tb 8)[111]? = some (Cond.code ⟨"HookSwingsModel", "layMembers", "(II)Z"⟩ prog_12_method_123_code 4 (some .boolean)))
set_option maxRecDepth 100000 in
theorem cwU304 : ∀ a, a < 304 → cwP a := lt_s cwU303 (rfl : (tb 8)[122]? = some (Cond.code ⟨"HookSwingsModel", "nextRow", "()Z"⟩ prog_12_method_124_code 6 (some .boolean)))
set_option maxRecDepth 100000 in
theorem cwU305 : ∀ a, a < 305 → cwP a := lt_s cwU304 (rfl : (tb 8)[118]? = some (Cond.code ⟨"HookSwingsModel", "waited", "()I"⟩ prog_12_method_125_code 5 (some .int)))
set_option maxRecDepth 100000 in
theorem cwU306 : ∀ a, a < 306 → cwP a := lt_s cwU305 (rfl : (tb 8)[107]? = some (Cond.code ⟨"HookSwingsModel", "first", "(II)I"⟩ prog_12_method_126_code 7 (some .int)))
set_option maxRecDepth 100000 in
theorem cwU307 : ∀ a, a < 307 → cwP a := lt_s cwU306 (rfl : (tb 8)[130]? = some (Cond.code ⟨"HookSwingsModel", "layJibs", "(I)Z"⟩ prog_12_method_127_code 7 (some .boolean)))
set_option maxRecDepth 100000 in
theorem cwU308 : ∀ a, a < 308 → cwP a := lt_s cwU307 (rfl : (tb 8)[134]? = some (Cond.code ⟨"HookSwingsModel", "doneBy", "()I"⟩ prog_12_method_128_code 7 (some .int)))
set_option maxRecDepth 100000 in
theorem cwU309 : ∀ a, a < 309 → cwP a := lt_s cwU308 (rfl : (tb 8)[138]? = some (Cond.code ⟨"HookSwingsModel", "isAhead", "()Z"⟩ prog_12_method_129_code 2 (some .boolean)))
set_option maxRecDepth 100000 in
theorem cwU310 : ∀ a, a < 310 → cwP a := lt_s cwU309 (rfl : (tb 8)[126]? = some (Cond.code ⟨"HookSwingsModel", "twoJibs", "(II)I"⟩ prog_12_method_130_code 7 (some .int)))
set_option maxRecDepth 100000 in
theorem cwU311 : ∀ a, a < 311 → cwP a := lt_s cwU310 (rfl : (tb 8)[142]? = some (Cond.code ⟨"HookSwingsModel", "said", "(IZ)I"⟩ prog_12_method_131_code 3 (some .int)))
set_option maxRecDepth 100000 in
theorem cwU312 : ∀ a, a < 312 → cwP a := lt_s cwU311 (rfl : (tb 8)[19]? = some (Cond.code ⟨"HookSwingsModel", "common", "(JJ)J"⟩ prog_12_method_132_code 10 (some .long)))
set_option maxRecDepth 100000 in
theorem cwU313 : ∀ a, a < 313 → cwP a := lt_s cwU312 (rfl : (tb 8)[146]? = some (Cond.code ⟨"HookSwingsModel", "left", "(Z)J"⟩ prog_12_method_133_code 9 (some .long)))
set_option maxRecDepth 100000 in
theorem cwU314 : ∀ a, a < 314 → cwP a := lt_s cwU313 (rfl : (tb 8)[154]? = some (Cond.code ⟨"HookSwingsModel", "shown", "()I"⟩ prog_12_method_134_code 1 (some .int)))
set_option maxRecDepth 100000 in
theorem cwU315 : ∀ a, a < 315 → cwP a := lt_s cwU314 (rfl : (tb 8)[158]? = some (Cond.code ⟨"HookSwingsModel", "downOf", "(II)I"⟩ prog_12_method_135_code 3 (some .int)))
set_option maxRecDepth 100000 in
theorem cwU316 : ∀ a, a < 316 → cwP a := lt_s cwU315 (rfl : (tb 8)[150]? = some (Cond.code ⟨"HookSwingsModel", "landed", "(II)I"⟩ prog_12_method_136_code 3 (some .int)))
set_option maxRecDepth 100000 in
theorem cwU317 : ∀ a, a < 317 → cwP a := lt_s cwU316 (rfl : (tb 8)[162]? = some (Cond.code ⟨"HookSwingsModel", "hour", "(I)I"⟩ prog_12_method_137_code 4 (some .int)))
set_option maxRecDepth 100000 in
theorem cwU318 : ∀ a, a < 318 → cwP a := lt_s cwU317 (rfl : (tb 8)[166]? = some (Cond.code ⟨"HookSwingsModel", "mean", "(Z)I"⟩ prog_12_method_138_code 5 (some .int)))
set_option maxRecDepth 100000 in
theorem cwU319 : ∀ a, a < 319 → cwP a := lt_s cwU318 (rfl : (tb 8)[170]? = some (Cond.code ⟨"HookSwingsModel", "image", "()I"⟩ prog_12_method_139_code 1 (some .int)))
set_option maxRecDepth 100000 in
theorem cwU320 : ∀ a, a < 320 → cwP a := lt_s cwU319 (rfl : (tb 8)[174]? = some (Cond.code ⟨"HookSwingsModel", "back", "()I"⟩ prog_12_method_140_code 1 (some .int)))
set_option maxRecDepth 100000 in
theorem cwU321 : ∀ a, a < 321 → cwP a := lt_s cwU320 (rfl : (tb 8)[178]? = some (Cond.code ⟨"HookSwingsModel", "about", "(I)I"⟩ prog_12_method_141_code 2 (some .int)))
theorem cw_in {M : Nat} (h : M < 321) : cwW M ∈ gtb := List.mem_filter.mpr ⟨tb_mem (cwU321 M h), rfl⟩
