/-! the cells of both objects, and how the two hold the same -/
def KA : List Kd := [(9, 8), (2, 9), (20, 6), (23, 8), (6, 2), (20, 24), (6, 2), (20, 24), (1, 7), (20, 4), (1, 7), (20, 4), (1, 7), (20, 4), (1, 7), (20, 4), (1, 7), (20, 4), (1, 7), (20, 4), (1, 7), (20, 4), (1, 7), (20, 4), (2, 9), (20, 6), (23, 8), (6, 2), (20, 24), (6, 2), (20, 24), (1, 7), (20, 4), (1, 7), (20, 4), (1, 7), (20, 4), (1, 7), (20, 4), (1, 7), (20, 4), (1, 7), (20, 4), (1, 7), (20, 4), (1, 7), (20, 4), (4, 7), (20, 100), (24, 6), (20, 100), (20, 100), (20, 100), (20, 100), (20, 100), (20, 100), (20, 6), (20, 6), (3, 7), (20, 0), (5, 3), (20, 6), (7, 3), (20, 48), (0, 5), (20, 20), (8, 3), (20, 6), (20, 6), (25, 6), (22, 60), (22, 60), (22, 60), (22, 60), (22, 60), (22, 60), (10, 63), (20, 6), (20, 8), (20, 8), (20, 8), (20, 8), (20, 8), (20, 32), (20, 100), (20, 6), (20, 60), (20, 60), (20, 60), (20, 60), (20, 600), (20, 101), (20, 11), (21, 100), (20, 48), (20, 8), (21, 8), (20, 8), (20, 8), (20, 8), (20, 6), (20, 8), (20, 8), (20, 8), (20, 8), (20, 8), (20, 32), (20, 8), (20, 8), (20, 8), (20, 8), (21, 8), (20, 20), (20, 6), (20, 6), (22, 360), (22, 60)]
theorem KA_len : KA.length = 117 := rfl
theorem k0 : KA[0]? = some (9, 8) := rfl
theorem k1 : KA[1]? = some (2, 9) := rfl
theorem k2 : KA[2]? = some (20, 6) := rfl
theorem k3 : KA[3]? = some (23, 8) := rfl
theorem k4 : KA[4]? = some (6, 2) := rfl
theorem k5 : KA[5]? = some (20, 24) := rfl
theorem k6 : KA[6]? = some (6, 2) := rfl
theorem k7 : KA[7]? = some (20, 24) := rfl
theorem k8 : KA[8]? = some (1, 7) := rfl
theorem k9 : KA[9]? = some (20, 4) := rfl
theorem k10 : KA[10]? = some (1, 7) := rfl
theorem k11 : KA[11]? = some (20, 4) := rfl
theorem k12 : KA[12]? = some (1, 7) := rfl
theorem k13 : KA[13]? = some (20, 4) := rfl
theorem k14 : KA[14]? = some (1, 7) := rfl
theorem k15 : KA[15]? = some (20, 4) := rfl
theorem k16 : KA[16]? = some (1, 7) := rfl
theorem k17 : KA[17]? = some (20, 4) := rfl
theorem k18 : KA[18]? = some (1, 7) := rfl
theorem k19 : KA[19]? = some (20, 4) := rfl
theorem k20 : KA[20]? = some (1, 7) := rfl
theorem k21 : KA[21]? = some (20, 4) := rfl
theorem k22 : KA[22]? = some (1, 7) := rfl
theorem k23 : KA[23]? = some (20, 4) := rfl
theorem k24 : KA[24]? = some (2, 9) := rfl
theorem k25 : KA[25]? = some (20, 6) := rfl
theorem k26 : KA[26]? = some (23, 8) := rfl
theorem k27 : KA[27]? = some (6, 2) := rfl
theorem k28 : KA[28]? = some (20, 24) := rfl
theorem k29 : KA[29]? = some (6, 2) := rfl
theorem k30 : KA[30]? = some (20, 24) := rfl
theorem k31 : KA[31]? = some (1, 7) := rfl
theorem k32 : KA[32]? = some (20, 4) := rfl
theorem k33 : KA[33]? = some (1, 7) := rfl
theorem k34 : KA[34]? = some (20, 4) := rfl
theorem k35 : KA[35]? = some (1, 7) := rfl
theorem k36 : KA[36]? = some (20, 4) := rfl
theorem k37 : KA[37]? = some (1, 7) := rfl
theorem k38 : KA[38]? = some (20, 4) := rfl
theorem k39 : KA[39]? = some (1, 7) := rfl
theorem k40 : KA[40]? = some (20, 4) := rfl
theorem k41 : KA[41]? = some (1, 7) := rfl
theorem k42 : KA[42]? = some (20, 4) := rfl
theorem k43 : KA[43]? = some (1, 7) := rfl
theorem k44 : KA[44]? = some (20, 4) := rfl
theorem k45 : KA[45]? = some (1, 7) := rfl
theorem k46 : KA[46]? = some (20, 4) := rfl
theorem k47 : KA[47]? = some (4, 7) := rfl
theorem k48 : KA[48]? = some (20, 100) := rfl
theorem k49 : KA[49]? = some (24, 6) := rfl
theorem k50 : KA[50]? = some (20, 100) := rfl
theorem k51 : KA[51]? = some (20, 100) := rfl
theorem k52 : KA[52]? = some (20, 100) := rfl
theorem k53 : KA[53]? = some (20, 100) := rfl
theorem k54 : KA[54]? = some (20, 100) := rfl
theorem k55 : KA[55]? = some (20, 100) := rfl
theorem k56 : KA[56]? = some (20, 6) := rfl
theorem k57 : KA[57]? = some (20, 6) := rfl
theorem k58 : KA[58]? = some (3, 7) := rfl
theorem k59 : KA[59]? = some (20, 0) := rfl
theorem k60 : KA[60]? = some (5, 3) := rfl
theorem k61 : KA[61]? = some (20, 6) := rfl
theorem k62 : KA[62]? = some (7, 3) := rfl
theorem k63 : KA[63]? = some (20, 48) := rfl
theorem k64 : KA[64]? = some (0, 5) := rfl
theorem k65 : KA[65]? = some (20, 20) := rfl
theorem k66 : KA[66]? = some (8, 3) := rfl
theorem k67 : KA[67]? = some (20, 6) := rfl
theorem k68 : KA[68]? = some (20, 6) := rfl
theorem k69 : KA[69]? = some (25, 6) := rfl
theorem k70 : KA[70]? = some (22, 60) := rfl
theorem k71 : KA[71]? = some (22, 60) := rfl
theorem k72 : KA[72]? = some (22, 60) := rfl
theorem k73 : KA[73]? = some (22, 60) := rfl
theorem k74 : KA[74]? = some (22, 60) := rfl
theorem k75 : KA[75]? = some (22, 60) := rfl
theorem k76 : KA[76]? = some (10, 63) := rfl
theorem k77 : KA[77]? = some (20, 6) := rfl
theorem k78 : KA[78]? = some (20, 8) := rfl
theorem k79 : KA[79]? = some (20, 8) := rfl
theorem k80 : KA[80]? = some (20, 8) := rfl
theorem k81 : KA[81]? = some (20, 8) := rfl
theorem k82 : KA[82]? = some (20, 8) := rfl
theorem k83 : KA[83]? = some (20, 32) := rfl
theorem k84 : KA[84]? = some (20, 100) := rfl
theorem k85 : KA[85]? = some (20, 6) := rfl
theorem k86 : KA[86]? = some (20, 60) := rfl
theorem k87 : KA[87]? = some (20, 60) := rfl
theorem k88 : KA[88]? = some (20, 60) := rfl
theorem k89 : KA[89]? = some (20, 60) := rfl
theorem k90 : KA[90]? = some (20, 600) := rfl
theorem k91 : KA[91]? = some (20, 101) := rfl
theorem k92 : KA[92]? = some (20, 11) := rfl
theorem k93 : KA[93]? = some (21, 100) := rfl
theorem k94 : KA[94]? = some (20, 48) := rfl
theorem k95 : KA[95]? = some (20, 8) := rfl
theorem k96 : KA[96]? = some (21, 8) := rfl
theorem k97 : KA[97]? = some (20, 8) := rfl
theorem k98 : KA[98]? = some (20, 8) := rfl
theorem k99 : KA[99]? = some (20, 8) := rfl
theorem k100 : KA[100]? = some (20, 6) := rfl
theorem k101 : KA[101]? = some (20, 8) := rfl
theorem k102 : KA[102]? = some (20, 8) := rfl
theorem k103 : KA[103]? = some (20, 8) := rfl
theorem k104 : KA[104]? = some (20, 8) := rfl
theorem k105 : KA[105]? = some (20, 8) := rfl
theorem k106 : KA[106]? = some (20, 32) := rfl
theorem k107 : KA[107]? = some (20, 8) := rfl
theorem k108 : KA[108]? = some (20, 8) := rfl
theorem k109 : KA[109]? = some (20, 8) := rfl
theorem k110 : KA[110]? = some (20, 8) := rfl
theorem k111 : KA[111]? = some (21, 8) := rfl
theorem k112 : KA[112]? = some (20, 20) := rfl
theorem k113 : KA[113]? = some (20, 6) := rfl
theorem k114 : KA[114]? = some (20, 6) := rfl
theorem k115 : KA[115]? = some (22, 360) := rfl
theorem k116 : KA[116]? = some (22, 60) := rfl
theorem kE : ∀ n : Nat, n < 8 → KA[8 + 2 * n]? = some (1, 7) := by decide
theorem kEr : ∀ n : Nat, n < 8 → KA[9 + 2 * n]? = some (20, 4) := by decide
theorem kI : ∀ n : Nat, n < 8 → KA[31 + 2 * n]? = some (1, 7) := by decide
theorem kIr : ∀ n : Nat, n < 8 → KA[32 + 2 * n]? = some (20, 4) := by decide
theorem kSt : ∀ n : Nat, n < 6 → KA[50 + 1 * n]? = some (20, 100) := by decide
theorem kIt : ∀ n : Nat, n < 6 → KA[70 + 1 * n]? = some (22, 60) := by decide
/-- the references that stay -/
def grl : List (Nat × Nat × Nat) := [(0, 0, 1), (0, 1, 24), (0, 3, 47), (0, 4, 60), (0, 5, 62), (0, 6, 64), (0, 7, 66), (1, 1, 2), (1, 3, 3), (1, 7, 4), (1, 8, 6), (3, 0, 8), (3, 1, 10), (3, 2, 12), (3, 3, 14), (3, 4, 16), (3, 5, 18), (3, 6, 20), (3, 7, 22), (4, 1, 5), (6, 1, 7), (8, 6, 9), (10, 6, 11), (12, 6, 13), (14, 6, 15), (16, 6, 17), (18, 6, 19), (20, 6, 21), (22, 6, 23), (24, 1, 25), (24, 3, 26), (24, 7, 27), (24, 8, 29), (26, 0, 31), (26, 1, 33), (26, 2, 35), (26, 3, 37), (26, 4, 39), (26, 5, 41), (26, 6, 43), (26, 7, 45), (27, 1, 28), (29, 1, 30), (31, 6, 32), (33, 6, 34), (35, 6, 36), (37, 6, 38), (39, 6, 40), (41, 6, 42), (43, 6, 44), (45, 6, 46), (47, 0, 48), (47, 3, 49), (47, 4, 56), (47, 5, 57), (47, 6, 58), (49, 0, 50), (49, 1, 51), (49, 2, 52), (49, 3, 53), (49, 4, 54), (49, 5, 55), (58, 0, 48), (60, 0, 1), (60, 1, 47), (60, 2, 61), (62, 0, 1), (62, 1, 60), (62, 2, 63), (64, 1, 65), (66, 0, 67), (66, 1, 68), (66, 2, 69), (69, 0, 70), (69, 1, 71), (69, 2, 72), (69, 3, 73), (69, 4, 74), (69, 5, 75), (76, 4, 77), (76, 5, 78), (76, 6, 79), (76, 7, 80), (76, 8, 81), (76, 9, 82), (76, 10, 83), (76, 16, 84), (76, 17, 85), (76, 18, 86), (76, 19, 87), (76, 20, 88), (76, 21, 89), (76, 22, 90), (76, 23, 91), (76, 27, 92), (76, 28, 93), (76, 29, 94), (76, 31, 95), (76, 32, 96), (76, 34, 97), (76, 35, 98), (76, 36, 99), (76, 45, 100), (76, 46, 101), (76, 47, 102), (76, 48, 103), (76, 49, 104), (76, 50, 105), (76, 51, 106), (76, 52, 107), (76, 53, 108), (76, 54, 109), (76, 55, 110), (76, 56, 111), (76, 58, 112), (76, 59, 113), (76, 60, 114), (76, 61, 115), (76, 62, 116)]
def RF (σ : Hp) : Prop := ∀ q ∈ grl, gr σ q.1 q.2.1 = some q.2.2
theorem r0_0 {σ : Hp} (h : RF σ) : gr σ 0 0 = some 1 := h (0, 0, 1) (List.mem_of_getElem? (i := 0) rfl)
theorem r0_1 {σ : Hp} (h : RF σ) : gr σ 0 1 = some 24 := h (0, 1, 24) (List.mem_of_getElem? (i := 1) rfl)
theorem r0_3 {σ : Hp} (h : RF σ) : gr σ 0 3 = some 47 := h (0, 3, 47) (List.mem_of_getElem? (i := 2) rfl)
theorem r0_4 {σ : Hp} (h : RF σ) : gr σ 0 4 = some 60 := h (0, 4, 60) (List.mem_of_getElem? (i := 3) rfl)
theorem r0_5 {σ : Hp} (h : RF σ) : gr σ 0 5 = some 62 := h (0, 5, 62) (List.mem_of_getElem? (i := 4) rfl)
theorem r0_6 {σ : Hp} (h : RF σ) : gr σ 0 6 = some 64 := h (0, 6, 64) (List.mem_of_getElem? (i := 5) rfl)
theorem r0_7 {σ : Hp} (h : RF σ) : gr σ 0 7 = some 66 := h (0, 7, 66) (List.mem_of_getElem? (i := 6) rfl)
theorem r1_1 {σ : Hp} (h : RF σ) : gr σ 1 1 = some 2 := h (1, 1, 2) (List.mem_of_getElem? (i := 7) rfl)
theorem r1_3 {σ : Hp} (h : RF σ) : gr σ 1 3 = some 3 := h (1, 3, 3) (List.mem_of_getElem? (i := 8) rfl)
theorem r1_7 {σ : Hp} (h : RF σ) : gr σ 1 7 = some 4 := h (1, 7, 4) (List.mem_of_getElem? (i := 9) rfl)
theorem r1_8 {σ : Hp} (h : RF σ) : gr σ 1 8 = some 6 := h (1, 8, 6) (List.mem_of_getElem? (i := 10) rfl)
theorem r3_0 {σ : Hp} (h : RF σ) : gr σ 3 0 = some 8 := h (3, 0, 8) (List.mem_of_getElem? (i := 11) rfl)
theorem r3_1 {σ : Hp} (h : RF σ) : gr σ 3 1 = some 10 := h (3, 1, 10) (List.mem_of_getElem? (i := 12) rfl)
theorem r3_2 {σ : Hp} (h : RF σ) : gr σ 3 2 = some 12 := h (3, 2, 12) (List.mem_of_getElem? (i := 13) rfl)
theorem r3_3 {σ : Hp} (h : RF σ) : gr σ 3 3 = some 14 := h (3, 3, 14) (List.mem_of_getElem? (i := 14) rfl)
theorem r3_4 {σ : Hp} (h : RF σ) : gr σ 3 4 = some 16 := h (3, 4, 16) (List.mem_of_getElem? (i := 15) rfl)
theorem r3_5 {σ : Hp} (h : RF σ) : gr σ 3 5 = some 18 := h (3, 5, 18) (List.mem_of_getElem? (i := 16) rfl)
theorem r3_6 {σ : Hp} (h : RF σ) : gr σ 3 6 = some 20 := h (3, 6, 20) (List.mem_of_getElem? (i := 17) rfl)
theorem r3_7 {σ : Hp} (h : RF σ) : gr σ 3 7 = some 22 := h (3, 7, 22) (List.mem_of_getElem? (i := 18) rfl)
theorem r4_1 {σ : Hp} (h : RF σ) : gr σ 4 1 = some 5 := h (4, 1, 5) (List.mem_of_getElem? (i := 19) rfl)
theorem r6_1 {σ : Hp} (h : RF σ) : gr σ 6 1 = some 7 := h (6, 1, 7) (List.mem_of_getElem? (i := 20) rfl)
theorem r8_6 {σ : Hp} (h : RF σ) : gr σ 8 6 = some 9 := h (8, 6, 9) (List.mem_of_getElem? (i := 21) rfl)
theorem r10_6 {σ : Hp} (h : RF σ) : gr σ 10 6 = some 11 := h (10, 6, 11) (List.mem_of_getElem? (i := 22) rfl)
theorem r12_6 {σ : Hp} (h : RF σ) : gr σ 12 6 = some 13 := h (12, 6, 13) (List.mem_of_getElem? (i := 23) rfl)
theorem r14_6 {σ : Hp} (h : RF σ) : gr σ 14 6 = some 15 := h (14, 6, 15) (List.mem_of_getElem? (i := 24) rfl)
theorem r16_6 {σ : Hp} (h : RF σ) : gr σ 16 6 = some 17 := h (16, 6, 17) (List.mem_of_getElem? (i := 25) rfl)
theorem r18_6 {σ : Hp} (h : RF σ) : gr σ 18 6 = some 19 := h (18, 6, 19) (List.mem_of_getElem? (i := 26) rfl)
theorem r20_6 {σ : Hp} (h : RF σ) : gr σ 20 6 = some 21 := h (20, 6, 21) (List.mem_of_getElem? (i := 27) rfl)
theorem r22_6 {σ : Hp} (h : RF σ) : gr σ 22 6 = some 23 := h (22, 6, 23) (List.mem_of_getElem? (i := 28) rfl)
theorem r24_1 {σ : Hp} (h : RF σ) : gr σ 24 1 = some 25 := h (24, 1, 25) (List.mem_of_getElem? (i := 29) rfl)
theorem r24_3 {σ : Hp} (h : RF σ) : gr σ 24 3 = some 26 := h (24, 3, 26) (List.mem_of_getElem? (i := 30) rfl)
theorem r24_7 {σ : Hp} (h : RF σ) : gr σ 24 7 = some 27 := h (24, 7, 27) (List.mem_of_getElem? (i := 31) rfl)
theorem r24_8 {σ : Hp} (h : RF σ) : gr σ 24 8 = some 29 := h (24, 8, 29) (List.mem_of_getElem? (i := 32) rfl)
theorem r26_0 {σ : Hp} (h : RF σ) : gr σ 26 0 = some 31 := h (26, 0, 31) (List.mem_of_getElem? (i := 33) rfl)
theorem r26_1 {σ : Hp} (h : RF σ) : gr σ 26 1 = some 33 := h (26, 1, 33) (List.mem_of_getElem? (i := 34) rfl)
theorem r26_2 {σ : Hp} (h : RF σ) : gr σ 26 2 = some 35 := h (26, 2, 35) (List.mem_of_getElem? (i := 35) rfl)
theorem r26_3 {σ : Hp} (h : RF σ) : gr σ 26 3 = some 37 := h (26, 3, 37) (List.mem_of_getElem? (i := 36) rfl)
theorem r26_4 {σ : Hp} (h : RF σ) : gr σ 26 4 = some 39 := h (26, 4, 39) (List.mem_of_getElem? (i := 37) rfl)
theorem r26_5 {σ : Hp} (h : RF σ) : gr σ 26 5 = some 41 := h (26, 5, 41) (List.mem_of_getElem? (i := 38) rfl)
theorem r26_6 {σ : Hp} (h : RF σ) : gr σ 26 6 = some 43 := h (26, 6, 43) (List.mem_of_getElem? (i := 39) rfl)
theorem r26_7 {σ : Hp} (h : RF σ) : gr σ 26 7 = some 45 := h (26, 7, 45) (List.mem_of_getElem? (i := 40) rfl)
theorem r27_1 {σ : Hp} (h : RF σ) : gr σ 27 1 = some 28 := h (27, 1, 28) (List.mem_of_getElem? (i := 41) rfl)
theorem r29_1 {σ : Hp} (h : RF σ) : gr σ 29 1 = some 30 := h (29, 1, 30) (List.mem_of_getElem? (i := 42) rfl)
theorem r31_6 {σ : Hp} (h : RF σ) : gr σ 31 6 = some 32 := h (31, 6, 32) (List.mem_of_getElem? (i := 43) rfl)
theorem r33_6 {σ : Hp} (h : RF σ) : gr σ 33 6 = some 34 := h (33, 6, 34) (List.mem_of_getElem? (i := 44) rfl)
theorem r35_6 {σ : Hp} (h : RF σ) : gr σ 35 6 = some 36 := h (35, 6, 36) (List.mem_of_getElem? (i := 45) rfl)
theorem r37_6 {σ : Hp} (h : RF σ) : gr σ 37 6 = some 38 := h (37, 6, 38) (List.mem_of_getElem? (i := 46) rfl)
theorem r39_6 {σ : Hp} (h : RF σ) : gr σ 39 6 = some 40 := h (39, 6, 40) (List.mem_of_getElem? (i := 47) rfl)
theorem r41_6 {σ : Hp} (h : RF σ) : gr σ 41 6 = some 42 := h (41, 6, 42) (List.mem_of_getElem? (i := 48) rfl)
theorem r43_6 {σ : Hp} (h : RF σ) : gr σ 43 6 = some 44 := h (43, 6, 44) (List.mem_of_getElem? (i := 49) rfl)
theorem r45_6 {σ : Hp} (h : RF σ) : gr σ 45 6 = some 46 := h (45, 6, 46) (List.mem_of_getElem? (i := 50) rfl)
theorem r47_0 {σ : Hp} (h : RF σ) : gr σ 47 0 = some 48 := h (47, 0, 48) (List.mem_of_getElem? (i := 51) rfl)
theorem r47_3 {σ : Hp} (h : RF σ) : gr σ 47 3 = some 49 := h (47, 3, 49) (List.mem_of_getElem? (i := 52) rfl)
theorem r47_4 {σ : Hp} (h : RF σ) : gr σ 47 4 = some 56 := h (47, 4, 56) (List.mem_of_getElem? (i := 53) rfl)
theorem r47_5 {σ : Hp} (h : RF σ) : gr σ 47 5 = some 57 := h (47, 5, 57) (List.mem_of_getElem? (i := 54) rfl)
theorem r47_6 {σ : Hp} (h : RF σ) : gr σ 47 6 = some 58 := h (47, 6, 58) (List.mem_of_getElem? (i := 55) rfl)
theorem r49_0 {σ : Hp} (h : RF σ) : gr σ 49 0 = some 50 := h (49, 0, 50) (List.mem_of_getElem? (i := 56) rfl)
theorem r49_1 {σ : Hp} (h : RF σ) : gr σ 49 1 = some 51 := h (49, 1, 51) (List.mem_of_getElem? (i := 57) rfl)
theorem r49_2 {σ : Hp} (h : RF σ) : gr σ 49 2 = some 52 := h (49, 2, 52) (List.mem_of_getElem? (i := 58) rfl)
theorem r49_3 {σ : Hp} (h : RF σ) : gr σ 49 3 = some 53 := h (49, 3, 53) (List.mem_of_getElem? (i := 59) rfl)
theorem r49_4 {σ : Hp} (h : RF σ) : gr σ 49 4 = some 54 := h (49, 4, 54) (List.mem_of_getElem? (i := 60) rfl)
theorem r49_5 {σ : Hp} (h : RF σ) : gr σ 49 5 = some 55 := h (49, 5, 55) (List.mem_of_getElem? (i := 61) rfl)
theorem r58_0 {σ : Hp} (h : RF σ) : gr σ 58 0 = some 48 := h (58, 0, 48) (List.mem_of_getElem? (i := 62) rfl)
theorem r60_0 {σ : Hp} (h : RF σ) : gr σ 60 0 = some 1 := h (60, 0, 1) (List.mem_of_getElem? (i := 63) rfl)
theorem r60_1 {σ : Hp} (h : RF σ) : gr σ 60 1 = some 47 := h (60, 1, 47) (List.mem_of_getElem? (i := 64) rfl)
theorem r60_2 {σ : Hp} (h : RF σ) : gr σ 60 2 = some 61 := h (60, 2, 61) (List.mem_of_getElem? (i := 65) rfl)
theorem r62_0 {σ : Hp} (h : RF σ) : gr σ 62 0 = some 1 := h (62, 0, 1) (List.mem_of_getElem? (i := 66) rfl)
theorem r62_1 {σ : Hp} (h : RF σ) : gr σ 62 1 = some 60 := h (62, 1, 60) (List.mem_of_getElem? (i := 67) rfl)
theorem r62_2 {σ : Hp} (h : RF σ) : gr σ 62 2 = some 63 := h (62, 2, 63) (List.mem_of_getElem? (i := 68) rfl)
theorem r64_1 {σ : Hp} (h : RF σ) : gr σ 64 1 = some 65 := h (64, 1, 65) (List.mem_of_getElem? (i := 69) rfl)
theorem r66_0 {σ : Hp} (h : RF σ) : gr σ 66 0 = some 67 := h (66, 0, 67) (List.mem_of_getElem? (i := 70) rfl)
theorem r66_1 {σ : Hp} (h : RF σ) : gr σ 66 1 = some 68 := h (66, 1, 68) (List.mem_of_getElem? (i := 71) rfl)
theorem r66_2 {σ : Hp} (h : RF σ) : gr σ 66 2 = some 69 := h (66, 2, 69) (List.mem_of_getElem? (i := 72) rfl)
theorem r69_0 {σ : Hp} (h : RF σ) : gr σ 69 0 = some 70 := h (69, 0, 70) (List.mem_of_getElem? (i := 73) rfl)
theorem r69_1 {σ : Hp} (h : RF σ) : gr σ 69 1 = some 71 := h (69, 1, 71) (List.mem_of_getElem? (i := 74) rfl)
theorem r69_2 {σ : Hp} (h : RF σ) : gr σ 69 2 = some 72 := h (69, 2, 72) (List.mem_of_getElem? (i := 75) rfl)
theorem r69_3 {σ : Hp} (h : RF σ) : gr σ 69 3 = some 73 := h (69, 3, 73) (List.mem_of_getElem? (i := 76) rfl)
theorem r69_4 {σ : Hp} (h : RF σ) : gr σ 69 4 = some 74 := h (69, 4, 74) (List.mem_of_getElem? (i := 77) rfl)
theorem r69_5 {σ : Hp} (h : RF σ) : gr σ 69 5 = some 75 := h (69, 5, 75) (List.mem_of_getElem? (i := 78) rfl)
theorem r76_4 {σ : Hp} (h : RF σ) : gr σ 76 4 = some 77 := h (76, 4, 77) (List.mem_of_getElem? (i := 79) rfl)
theorem r76_5 {σ : Hp} (h : RF σ) : gr σ 76 5 = some 78 := h (76, 5, 78) (List.mem_of_getElem? (i := 80) rfl)
theorem r76_6 {σ : Hp} (h : RF σ) : gr σ 76 6 = some 79 := h (76, 6, 79) (List.mem_of_getElem? (i := 81) rfl)
theorem r76_7 {σ : Hp} (h : RF σ) : gr σ 76 7 = some 80 := h (76, 7, 80) (List.mem_of_getElem? (i := 82) rfl)
theorem r76_8 {σ : Hp} (h : RF σ) : gr σ 76 8 = some 81 := h (76, 8, 81) (List.mem_of_getElem? (i := 83) rfl)
theorem r76_9 {σ : Hp} (h : RF σ) : gr σ 76 9 = some 82 := h (76, 9, 82) (List.mem_of_getElem? (i := 84) rfl)
theorem r76_10 {σ : Hp} (h : RF σ) : gr σ 76 10 = some 83 := h (76, 10, 83) (List.mem_of_getElem? (i := 85) rfl)
theorem r76_16 {σ : Hp} (h : RF σ) : gr σ 76 16 = some 84 := h (76, 16, 84) (List.mem_of_getElem? (i := 86) rfl)
theorem r76_17 {σ : Hp} (h : RF σ) : gr σ 76 17 = some 85 := h (76, 17, 85) (List.mem_of_getElem? (i := 87) rfl)
theorem r76_18 {σ : Hp} (h : RF σ) : gr σ 76 18 = some 86 := h (76, 18, 86) (List.mem_of_getElem? (i := 88) rfl)
theorem r76_19 {σ : Hp} (h : RF σ) : gr σ 76 19 = some 87 := h (76, 19, 87) (List.mem_of_getElem? (i := 89) rfl)
theorem r76_20 {σ : Hp} (h : RF σ) : gr σ 76 20 = some 88 := h (76, 20, 88) (List.mem_of_getElem? (i := 90) rfl)
theorem r76_21 {σ : Hp} (h : RF σ) : gr σ 76 21 = some 89 := h (76, 21, 89) (List.mem_of_getElem? (i := 91) rfl)
theorem r76_22 {σ : Hp} (h : RF σ) : gr σ 76 22 = some 90 := h (76, 22, 90) (List.mem_of_getElem? (i := 92) rfl)
theorem r76_23 {σ : Hp} (h : RF σ) : gr σ 76 23 = some 91 := h (76, 23, 91) (List.mem_of_getElem? (i := 93) rfl)
theorem r76_27 {σ : Hp} (h : RF σ) : gr σ 76 27 = some 92 := h (76, 27, 92) (List.mem_of_getElem? (i := 94) rfl)
theorem r76_28 {σ : Hp} (h : RF σ) : gr σ 76 28 = some 93 := h (76, 28, 93) (List.mem_of_getElem? (i := 95) rfl)
theorem r76_29 {σ : Hp} (h : RF σ) : gr σ 76 29 = some 94 := h (76, 29, 94) (List.mem_of_getElem? (i := 96) rfl)
theorem r76_31 {σ : Hp} (h : RF σ) : gr σ 76 31 = some 95 := h (76, 31, 95) (List.mem_of_getElem? (i := 97) rfl)
theorem r76_32 {σ : Hp} (h : RF σ) : gr σ 76 32 = some 96 := h (76, 32, 96) (List.mem_of_getElem? (i := 98) rfl)
theorem r76_34 {σ : Hp} (h : RF σ) : gr σ 76 34 = some 97 := h (76, 34, 97) (List.mem_of_getElem? (i := 99) rfl)
theorem r76_35 {σ : Hp} (h : RF σ) : gr σ 76 35 = some 98 := h (76, 35, 98) (List.mem_of_getElem? (i := 100) rfl)
theorem r76_36 {σ : Hp} (h : RF σ) : gr σ 76 36 = some 99 := h (76, 36, 99) (List.mem_of_getElem? (i := 101) rfl)
theorem r76_45 {σ : Hp} (h : RF σ) : gr σ 76 45 = some 100 := h (76, 45, 100) (List.mem_of_getElem? (i := 102) rfl)
theorem r76_46 {σ : Hp} (h : RF σ) : gr σ 76 46 = some 101 := h (76, 46, 101) (List.mem_of_getElem? (i := 103) rfl)
theorem r76_47 {σ : Hp} (h : RF σ) : gr σ 76 47 = some 102 := h (76, 47, 102) (List.mem_of_getElem? (i := 104) rfl)
theorem r76_48 {σ : Hp} (h : RF σ) : gr σ 76 48 = some 103 := h (76, 48, 103) (List.mem_of_getElem? (i := 105) rfl)
theorem r76_49 {σ : Hp} (h : RF σ) : gr σ 76 49 = some 104 := h (76, 49, 104) (List.mem_of_getElem? (i := 106) rfl)
theorem r76_50 {σ : Hp} (h : RF σ) : gr σ 76 50 = some 105 := h (76, 50, 105) (List.mem_of_getElem? (i := 107) rfl)
theorem r76_51 {σ : Hp} (h : RF σ) : gr σ 76 51 = some 106 := h (76, 51, 106) (List.mem_of_getElem? (i := 108) rfl)
theorem r76_52 {σ : Hp} (h : RF σ) : gr σ 76 52 = some 107 := h (76, 52, 107) (List.mem_of_getElem? (i := 109) rfl)
theorem r76_53 {σ : Hp} (h : RF σ) : gr σ 76 53 = some 108 := h (76, 53, 108) (List.mem_of_getElem? (i := 110) rfl)
theorem r76_54 {σ : Hp} (h : RF σ) : gr σ 76 54 = some 109 := h (76, 54, 109) (List.mem_of_getElem? (i := 111) rfl)
theorem r76_55 {σ : Hp} (h : RF σ) : gr σ 76 55 = some 110 := h (76, 55, 110) (List.mem_of_getElem? (i := 112) rfl)
theorem r76_56 {σ : Hp} (h : RF σ) : gr σ 76 56 = some 111 := h (76, 56, 111) (List.mem_of_getElem? (i := 113) rfl)
theorem r76_58 {σ : Hp} (h : RF σ) : gr σ 76 58 = some 112 := h (76, 58, 112) (List.mem_of_getElem? (i := 114) rfl)
theorem r76_59 {σ : Hp} (h : RF σ) : gr σ 76 59 = some 113 := h (76, 59, 113) (List.mem_of_getElem? (i := 115) rfl)
theorem r76_60 {σ : Hp} (h : RF σ) : gr σ 76 60 = some 114 := h (76, 60, 114) (List.mem_of_getElem? (i := 116) rfl)
theorem r76_61 {σ : Hp} (h : RF σ) : gr σ 76 61 = some 115 := h (76, 61, 115) (List.mem_of_getElem? (i := 117) rfl)
theorem r76_62 {σ : Hp} (h : RF σ) : gr σ 76 62 = some 116 := h (76, 62, 116) (List.mem_of_getElem? (i := 118) rfl)
theorem rE {σ : Hp} (h : RF σ) {n : Nat} (hn : n < 8) : gr σ 3 n = some (8 + 2 * n) := by
  match n, hn with
  | 0, _ => exact r3_0 h
  | 1, _ => exact r3_1 h
  | 2, _ => exact r3_2 h
  | 3, _ => exact r3_3 h
  | 4, _ => exact r3_4 h
  | 5, _ => exact r3_5 h
  | 6, _ => exact r3_6 h
  | 7, _ => exact r3_7 h
theorem rI {σ : Hp} (h : RF σ) {n : Nat} (hn : n < 8) : gr σ 26 n = some (31 + 2 * n) := by
  match n, hn with
  | 0, _ => exact r26_0 h
  | 1, _ => exact r26_1 h
  | 2, _ => exact r26_2 h
  | 3, _ => exact r26_3 h
  | 4, _ => exact r26_4 h
  | 5, _ => exact r26_5 h
  | 6, _ => exact r26_6 h
  | 7, _ => exact r26_7 h
theorem rEr {σ : Hp} (h : RF σ) {n : Nat} (hn : n < 8) : gr σ (8 + 2 * n) 6 = some (9 + 2 * n) := by
  match n, hn with
  | 0, _ => exact r8_6 h
  | 1, _ => exact r10_6 h
  | 2, _ => exact r12_6 h
  | 3, _ => exact r14_6 h
  | 4, _ => exact r16_6 h
  | 5, _ => exact r18_6 h
  | 6, _ => exact r20_6 h
  | 7, _ => exact r22_6 h
theorem rIr {σ : Hp} (h : RF σ) {n : Nat} (hn : n < 8) : gr σ (31 + 2 * n) 6 = some (32 + 2 * n) := by
  match n, hn with
  | 0, _ => exact r31_6 h
  | 1, _ => exact r33_6 h
  | 2, _ => exact r35_6 h
  | 3, _ => exact r37_6 h
  | 4, _ => exact r39_6 h
  | 5, _ => exact r41_6 h
  | 6, _ => exact r43_6 h
  | 7, _ => exact r45_6 h
theorem rSt {σ : Hp} (h : RF σ) {n : Nat} (hn : n < 6) : gr σ 49 n = some (50 + n) := by
  match n, hn with
  | 0, _ => exact r49_0 h
  | 1, _ => exact r49_1 h
  | 2, _ => exact r49_2 h
  | 3, _ => exact r49_3 h
  | 4, _ => exact r49_4 h
  | 5, _ => exact r49_5 h
theorem rIt {σ : Hp} (h : RF σ) {n : Nat} (hn : n < 6) : gr σ 69 n = some (70 + n) := by
  match n, hn with
  | 0, _ => exact r69_0 h
  | 1, _ => exact r69_1 h
  | 2, _ => exact r69_2 h
  | 3, _ => exact r69_3 h
  | 4, _ => exact r69_4 h
  | 5, _ => exact r69_5 h
/-- where a number of the first object stands in the second -/
def mp (k j : Nat) : Option (Nat × Nat) :=
  if 76 ≤ k ∨ 100 ≤ j then none
  else if k = 0 then (if j = 2 then some (76, 37) else none)
  else if k = 1 then (if j = 0 then some (76, 0) else if j = 2 then some (76, 1) else if j = 4 then some (76, 2) else if j = 5 then some (76, 3) else if j = 6 then some (76, 12) else none)
  else if k = 2 then (if j < 6 then some (77, j) else none)
  else if k = 4 then (if j = 0 then some (76, 30) else none)
  else if k = 5 then (if j < 24 then (if j % 3 = 0 then some (95, j / 3) else if j % 3 = 1 then some (96, j / 3) else none) else none)
  else if k = 6 then (if j = 0 then some (76, 33) else none)
  else if k = 7 then (if j < 24 then some (97 + j % 3, j / 3) else none)
  else if 8 ≤ k ∧ k < 24 then (if k % 2 = 0 then (if 1 ≤ j ∧ j < 6 then some (77 + j, (k - 8) / 2) else none) else (if j < 4 then some (83, 4 * ((k - 9) / 2) + j) else none))
  else if k = 24 then (if j = 0 then some (76, 39) else if j = 2 then some (76, 40) else if j = 4 then some (76, 41) else if j = 5 then some (76, 42) else if j = 6 then some (76, 38) else none)
  else if k = 25 then (if j < 6 then some (100, j) else none)
  else if k = 27 then (if j = 0 then some (76, 43) else none)
  else if k = 28 then (if j < 24 then (if j % 3 = 0 then some (107, j / 3) else if j % 3 = 1 then some (111, j / 3) else none) else none)
  else if k = 29 then (if j = 0 then some (76, 44) else none)
  else if k = 30 then (if j < 24 then some (108 + j % 3, j / 3) else none)
  else if 31 ≤ k ∧ k < 47 then (if k % 2 = 1 then (if 1 ≤ j ∧ j < 6 then some (100 + j, (k - 31) / 2) else none) else (if j < 4 then some (106, 4 * ((k - 32) / 2) + j) else none))
  else if k = 47 then (if j = 1 then some (76, 13) else if j = 2 then some (76, 11) else none)
  else if k = 48 then some (84, j)
  else if k = 64 then (if j = 0 then some (76, 57) else none)
  else if k = 65 then (if j < 20 then some (112, j) else none)
  else if k = 67 then (if j < 6 then some (113, j) else none)
  else if k = 68 then (if j < 6 then some (114, j) else none)
  else none
/-- and back -/
def mq (a b : Nat) : Nat × Nat :=
  if a = 76 then (if b = 37 then (0, 2) else if b = 0 then (1, 0) else if b = 1 then (1, 2) else if b = 2 then (1, 4) else if b = 3 then (1, 5) else if b = 12 then (1, 6) else if b = 30 then (4, 0) else if b = 33 then (6, 0) else if b = 39 then (24, 0) else if b = 40 then (24, 2) else if b = 41 then (24, 4) else if b = 42 then (24, 5) else if b = 38 then (24, 6) else if b = 43 then (27, 0) else if b = 44 then (29, 0) else if b = 13 then (47, 1) else if b = 11 then (47, 2) else (64, 0))
  else if a = 77 then (2, b)
  else if a < 83 then (8 + 2 * b, a - 77)
  else if a = 83 then (9 + 2 * (b / 4), b % 4)
  else if a = 84 then (48, b)
  else if a = 95 then (5, 3 * b)
  else if a = 96 then (5, 3 * b + 1)
  else if a < 100 then (7, 3 * b + (a - 97))
  else if a = 100 then (25, b)
  else if a < 106 then (31 + 2 * b, a - 100)
  else if a = 106 then (32 + 2 * (b / 4), b % 4)
  else if a = 107 then (28, 3 * b)
  else if a < 111 then (30, 3 * b + (a - 108))
  else if a = 111 then (28, 3 * b + 1)
  else if a = 112 then (65, b)
  else if a = 113 then (67, b)
  else (68, b)
theorem mp_lt {k j : Nat} {q : Nat × Nat} (h : mp k j = some q) : k < 76 ∧ j < 100 := by
  unfold mp at h
  by_cases h0 : 76 ≤ k ∨ 100 ≤ j
  · rw [if_pos h0] at h
    cases h
  · omega
def mpok (k j : Nat) : Bool := match mp k j with
  | none => true
  | some (a, b) => decide (mq a b = (k, j)) && decide (76 ≤ a) && decide (a < 115) && decide (a < 85 ∨ 94 < a) && decide (b < 100)
theorem mp_all : (List.range 76).all (fun k => (List.range 100).all (fun j => mpok k j)) = true := by decide +kernel
theorem mp_ok {k j a b : Nat} (h : mp k j = some (a, b)) : mq a b = (k, j) ∧ 76 ≤ a ∧ a < 115 ∧ (a < 85 ∨ 94 < a) ∧ b < 100 := by
  obtain ⟨h1, h2⟩ := mp_lt h
  have h3 := List.all_eq_true.mp (List.all_eq_true.mp mp_all k (List.mem_range.mpr h1)) j (List.mem_range.mpr h2)
  unfold mpok at h3
  rw [h] at h3
  simp only [Bool.and_eq_true, decide_eq_true_eq] at h3
  exact ⟨h3.1.1.1.1, h3.1.1.1.2, h3.1.1.2, h3.1.2, h3.2⟩
theorem mp_inj {k j k' j' a b : Nat} (h : mp k j = some (a, b)) (h' : mp k' j' = some (a, b)) : k = k' ∧ j = j' := by
  have h1 := (mp_ok h).1.symm.trans (mp_ok h').1
  cases h1
  exact ⟨rfl, rfl⟩

