/-! ===== the words of the tables by what they speak of, read once ===== -/
def dc_cl : List String := ["Earlyends$Book", "Earlyends$Chain", "Earlyends$Hand", "Earlyends$Housing", "Earlyends$Part", "Earlyends$Trial", "Earlyends", "EarlyendsLaw$Out", "EarlyendsModel", "java/lang/AbstractStringBuilder", "java/lang/Integer", "java/lang/Math", "java/lang/String", "java/lang/StringBuilder", "java/lang/StringLatin1", "java/lang/StringUTF16", "java/util/Arrays", "jdk/internal/util/ArraysSupport", "jdk/internal/util/Preconditions", "EarlyendsLaw"]
def dc_s (a : Nat) : String := match dc_cl[a]? with
  | some s => s
  | none => ""
def dcs_0_0 : List (List Nat) := [[5, 39], [5, 40], [5, 50], [5, 53], [5, 51], [5, 52], [], [5, 105], [5, 106], [5, 103], [5, 113], [5, 104], [5, 114], [5, 108], [5, 109], [5, 107], [5, 115], [5, 131], [5, 127], [5, 126], [5, 141], [5, 133], [5, 132], [5, 139], [5, 138], [5, 134], [5, 142], [5, 140], [5, 136], [5, 135], [5, 157], [5, 156]]
def dcs_0_1 : List (List Nat) := [[5, 158], [5, 165], [5, 182], [5, 178], [5, 172], [5, 190], [5, 189], [5, 193], [5, 137], [5, 198], [5, 201], [5, 200], [5, 205], [5, 207], [5, 210], [5, 209], [5, 213], [5, 221], [5, 219], [5, 220], [5, 223]]
def dcs_0 : List (List (List Nat)) := [dcs_0_0, dcs_0_1]
def dcs_1_0 : List (List Nat) := [[6, 19], [6, 6], [6, 4], [6, 2], [6, 1], [6, 3], [6, 5], [6, 0], [6, 8], [6, 7], [], [], [], [], [], [], [6, 9], [6, 13], [6, 12], [6, 15], [6, 17], [6, 11], [6, 16], [], [6, 14], [], [6, 10], [], [], [2, 19, 173, 54], [4, 54], [0, 54]]
def dcs_1_1 : List (List Nat) := [[], [], [], [], [], [], [], [7, 6, 17, 41], [4, 41], [0, 41], [], [1, 4, 9, 6, 0], [8, 6, 116, 6, 0], [1, 4, 15, 6, 1], [8, 6, 131, 6, 1], [1, 4, 18, 6, 2], [8, 6, 134, 6, 2], [], [], [], [], [], [], [], [], [], [7, 6, 24, 34], [4, 34], [0, 34], [], [1, 2, 9, 4, 0], [8, 6, 165, 4, 0]]
def dcs_1_2 : List (List Nat) := [[1, 2, 15, 4, 1], [8, 6, 169, 4, 1], [8, 6, 172, 4, 2], [8, 6, 175, 4, 3], [], [], [], [], [], [], [], [], [], [], [], [7, 6, 31, 28], [4, 28], [0, 28], [], [1, 1, 9, 3, 0], [1, 1, 15, 3, 1], [8, 5, 104, 3, 1], [8, 6, 198, 3, 1], [], [], [], [], [], [], [], [], [7, 6, 38, 36]]
def dcs_1_3 : List (List Nat) := [[4, 36], [0, 36], [], [1, 3, 9, 5, 0], [1, 3, 15, 5, 1], [1, 3, 25, 5, 2], [8, 5, 109, 5, 2], [8, 6, 240, 5, 2], [], [], [], [], [], [], [], [], [], [7, 6, 45, 47], [4, 47], [0, 47], [], [], [7, 5, 20, 28], [], [7, 5, 30, 36], [1, 5, 9, 7, 0], [1, 5, 15, 7, 1], [1, 5, 21, 7, 2], [1, 5, 25, 7, 3], [1, 5, 31, 7, 4], [1, 5, 53, 7, 5], []]
def dcs_1_4 : List (List Nat) := [[], [], [], [], [], [], [], [], [], [], [], [], [], [7, 6, 50, 0], [4, 0], [0, 0], [], [1, 0, 9, 2, 0], [1, 0, 15, 2, 1], [1, 0, 18, 2, 2], [1, 0, 22, 2, 3], [], [], [], [], [], [], [], [], [], [1, 6, 11, 8, 0], [1, 6, 18, 8, 1]]
def dcs_1_5 : List (List Nat) := [[1, 6, 25, 8, 2], [1, 6, 32, 8, 3], [1, 6, 39, 8, 4], [1, 6, 46, 8, 5], [1, 6, 254, 8, 6], [1, 6, 257, 8, 7], [], [], [], [], [], [], [], [], [], [], [], [], [], [], [], [], [], [2, 19, 327, 100], [4, 100], [5, 100], [0, 100], [2, 19, 331, 101], [4, 101], [5, 101], [0, 101], [2, 6, 260, 48]]
def dcs_1_6 : List (List Nat) := [[4, 48], [5, 48], [0, 48], [2, 5, 35, 23], [4, 23], [5, 23], [0, 23], [2, 0, 66, 21], [4, 21], [5, 21], [0, 21], [2, 0, 46, 5], [4, 5], [5, 5], [0, 5], [2, 0, 52, 6], [4, 6], [5, 6], [0, 6], [2, 5, 40, 6], [2, 5, 43, 22], [4, 22], [5, 22], [0, 22], [2, 0, 62, 20], [4, 20], [5, 20], [0, 20], [2, 5, 46, 26], [4, 26], [5, 26], [0, 26]]
def dcs_1_7 : List (List Nat) := [[2, 0, 80, 25], [4, 25], [5, 25], [0, 25], [2, 0, 72, 22], [2, 0, 75, 240], [3, 240], [0, 240], [], [], [], [2, 5, 50, 25], [2, 5, 57, 31], [4, 31], [5, 31], [0, 31]]
def dcs_1 : List (List (List Nat)) := [dcs_1_0, dcs_1_1, dcs_1_2, dcs_1_3, dcs_1_4, dcs_1_5, dcs_1_6, dcs_1_7]
def dcs_2_0 : List (List Nat) := [[2, 1, 19, 1], [4, 1], [5, 1], [0, 1], [2, 1, 24, 5], [2, 1, 28, 30], [4, 30], [5, 30], [0, 30], [2, 1, 32, 6], [2, 5, 61, 38], [4, 38], [5, 38], [0, 38], [2, 3, 19, 1], [2, 3, 27, 39], [], [4, 39], [0, 39], [2, 3, 41, 5], [2, 3, 31, 40], [], [4, 40], [0, 40], [2, 3, 45, 21], [7, 3, 49, 123], [3, 123], [0, 123], [2, 3, 35, 241], [3, 241], [0, 241], [2, 6, 263, 49]]
def dcs_2_1 : List (List Nat) := [[4, 49], [5, 49], [0, 49], [2, 5, 64, 17], [4, 17], [5, 17], [0, 17], [2, 5, 68, 1], [2, 5, 71, 50], [], [4, 50], [0, 50], [7, 5, 97, 123], [2, 5, 101, 29], [4, 29], [5, 29], [0, 29], [2, 5, 75, 53], [], [4, 53], [0, 53], [2, 5, 116, 20], [2, 5, 110, 5], [2, 5, 79, 240], [2, 5, 84, 33], [4, 33], [5, 33], [0, 33], [2, 5, 87, 24], [4, 24], [5, 24], [0, 24]]
def dcs_2_2 : List (List Nat) := [[7, 0, 69, 123], [2, 5, 90, 51], [], [4, 51], [0, 51], [2, 5, 106, 37], [4, 37], [5, 37], [0, 37], [2, 5, 94, 52], [], [4, 52], [0, 52], [2, 5, 113, 32], [4, 32], [5, 32], [0, 32], [2, 1, 35, 27], [4, 27], [5, 27], [0, 27], [2, 6, 266, 112], [3, 112], [0, 112], [2, 6, 269, 46], [4, 46], [5, 46], [0, 46], [2, 4, 35, 43], [4, 43], [5, 43], [0, 43]]
def dcs_2_3 : List (List Nat) := [[2, 4, 21, 7], [4, 7], [5, 7], [0, 7], [2, 4, 31, 44], [4, 44], [5, 44], [0, 44], [2, 4, 27, 1], [2, 4, 38, 6], [2, 4, 41, 42], [4, 42], [5, 42], [0, 42], [2, 19, 336, 102], [4, 102], [5, 102], [0, 102], [], [], [2, 6, 276, 99], [4, 99], [5, 99], [0, 99], [2, 6, 158, 120], [3, 120], [0, 120], [], [], [], [], []]
def dcs_2_4 : List (List Nat) := [[], [], [], [], [], [], [], [], [], [], [], [], [], [], [], [], [], [], [], [], [], [], [], [], [], [], [], [], [], [], [], []]
def dcs_2_5 : List (List Nat) := [[], [], [], [], [], [], [], [], [], [], [], [], [], [], [], [], [], [], [], [], [], [], [], [], [], [], [], [], [], [], [], [2, 6, 248, 105]]
def dcs_2_6 : List (List Nat) := [[], [4, 105], [0, 105], [2, 6, 91, 1], [2, 6, 251, 106], [], [4, 106], [0, 106], [2, 6, 182, 35], [4, 35], [5, 35], [0, 35], [2, 2, 18, 2], [4, 2], [5, 2], [0, 2], [2, 6, 279, 103], [], [4, 103], [0, 103], [2, 6, 293, 80], [4, 80], [5, 80], [0, 80], [2, 6, 51, 113], [], [4, 113], [0, 113], [], [], [], []]
def dcs_2_7 : List (List Nat) := [[], [], [], [], [], [], [], [], [], [], [], [], [2, 6, 109, 3], [4, 3], [5, 3], [0, 3]]
def dcs_2 : List (List (List Nat)) := [dcs_2_0, dcs_2_1, dcs_2_2, dcs_2_3, dcs_2_4, dcs_2_5, dcs_2_6, dcs_2_7]
def dcs_3_0 : List (List Nat) := [[2, 6, 75, 4], [4, 4], [5, 4], [0, 4], [2, 6, 186, 18], [4, 18], [5, 18], [0, 18], [2, 6, 296, 89], [4, 89], [5, 89], [0, 89], [2, 6, 195, 31], [2, 6, 299, 90], [4, 90], [5, 90], [0, 90], [2, 6, 200, 121], [3, 121], [0, 121], [], [2, 6, 203, 29], [2, 6, 302, 94], [4, 94], [5, 94], [0, 94], [2, 6, 231, 26], [2, 6, 234, 25], [2, 6, 306, 95], [4, 95], [5, 95], [0, 95]]
def dcs_3_1 : List (List Nat) := [[2, 6, 237, 38], [2, 6, 283, 104], [], [4, 104], [0, 104], [2, 6, 309, 5], [2, 6, 312, 6], [2, 6, 315, 96], [4, 96], [5, 96], [0, 96], [2, 6, 55, 116], [3, 116], [0, 116], [], [2, 6, 67, 8], [4, 8], [5, 8], [0, 8], [2, 0, 25, 7], [2, 0, 29, 3], [2, 6, 241, 37], [2, 6, 319, 84], [4, 84], [5, 84], [0, 84], [2, 6, 189, 7], [2, 6, 286, 74], [4, 74], [5, 74], [0, 74], [2, 6, 144, 114]]
def dcs_3_2 : List (List Nat) := [[], [4, 114], [0, 114], [], [], [], [], [], [], [], [], [], [], [], [], [], [], [], [], [2, 6, 137, 45], [4, 45], [5, 45], [0, 45], [2, 6, 152, 43], [2, 6, 155, 44], [2, 6, 289, 101], [], [], [7, 19, 177, 124], [4, 124], [0, 124], []]
def dcs_3_3 : List (List Nat) := [[8, 19, 13, 9, 0], [8, 19, 94, 9, 1], [], [], [], [], [], [2, 19, 178, 284], [3, 284], [0, 284], [], [], [2, 19, 7, 55], [4, 55], [5, 55], [0, 55], [2, 6, 59, 119], [3, 119], [0, 119], [], [2, 6, 63, 108], [], [4, 108], [0, 108], [2, 6, 71, 109], [], [4, 109], [0, 109], [2, 6, 106, 107], [], [4, 107], [0, 107]]
def dcs_3_4 : List (List Nat) := [[2, 6, 323, 11], [4, 11], [5, 11], [0, 11], [2, 6, 78, 10], [4, 10], [5, 10], [0, 10], [2, 19, 184, 285], [3, 285], [0, 285], [2, 19, 23, 56], [4, 56], [5, 56], [0, 56], [2, 19, 187, 286], [3, 286], [0, 286], [2, 19, 26, 57], [4, 57], [5, 57], [0, 57], [2, 19, 190, 287], [3, 287], [0, 287], [2, 19, 29, 58], [4, 58], [5, 58], [0, 58], [2, 19, 193, 288], [3, 288], [0, 288]]
def dcs_3_5 : List (List Nat) := [[2, 19, 32, 59], [4, 59], [5, 59], [0, 59], [2, 19, 197, 289], [3, 289], [0, 289], [2, 19, 36, 60], [4, 60], [5, 60], [0, 60], [2, 6, 81, 110], [3, 110], [0, 110], [2, 6, 85, 12], [4, 12], [5, 12], [0, 12], [2, 19, 201, 290], [3, 290], [0, 290], [2, 19, 40, 61], [4, 61], [5, 61], [0, 61], [2, 19, 204, 291], [3, 291], [0, 291], [2, 19, 43, 62], [4, 62], [5, 62], [0, 62]]
def dcs_3_6 : List (List Nat) := [[2, 6, 88, 9], [4, 9], [5, 9], [0, 9], [2, 19, 208, 292], [3, 292], [0, 292], [2, 19, 47, 63], [4, 63], [5, 63], [0, 63], [2, 6, 95, 111], [3, 111], [0, 111], [2, 19, 212, 293], [3, 293], [0, 293], [2, 19, 51, 64], [4, 64], [5, 64], [0, 64], [2, 6, 99, 13], [4, 13], [5, 13], [0, 13], [2, 0, 32, 12], [2, 19, 216, 294], [3, 294], [0, 294], [2, 19, 55, 65], [4, 65], [5, 65]]
def dcs_3_7 : List (List Nat) := [[0, 65], [2, 6, 102, 15], [4, 15], [5, 15], [0, 15], [2, 0, 36, 8], [2, 19, 219, 295], [3, 295], [0, 295], [2, 19, 58, 66], [4, 66], [5, 66], [0, 66], [2, 6, 112, 14], [4, 14], [5, 14]]
def dcs_3 : List (List (List Nat)) := [dcs_3_0, dcs_3_1, dcs_3_2, dcs_3_3, dcs_3_4, dcs_3_5, dcs_3_6, dcs_3_7]
def dcs_4_0 : List (List Nat) := [[0, 14], [2, 19, 222, 296], [3, 296], [0, 296], [2, 19, 61, 67], [4, 67], [5, 67], [0, 67], [], [2, 19, 226, 297], [3, 297], [0, 297], [2, 19, 65, 68], [4, 68], [5, 68], [0, 68], [], [], [2, 19, 229, 298], [3, 298], [0, 298], [], [2, 19, 68, 69], [4, 69], [5, 69], [0, 69], [2, 6, 140, 117], [3, 117], [0, 117], [], [2, 6, 148, 42], [2, 19, 232, 299]]
def dcs_4_1 : List (List Nat) := [[3, 299], [0, 299], [2, 19, 73, 70], [4, 70], [5, 70], [0, 70], [2, 19, 235, 300], [3, 300], [0, 300], [2, 19, 76, 71], [4, 71], [5, 71], [0, 71], [2, 19, 238, 301], [3, 301], [0, 301], [2, 19, 79, 72], [4, 72], [5, 72], [0, 72], [2, 19, 242, 302], [3, 302], [0, 302], [2, 19, 83, 73], [4, 73], [5, 73], [0, 73], [2, 19, 246, 303], [3, 303], [0, 303], [2, 19, 87, 74], [2, 19, 249, 304]]
def dcs_4_2 : List (List Nat) := [[3, 304], [0, 304], [2, 19, 90, 75], [4, 75], [5, 75], [0, 75], [2, 6, 161, 19], [4, 19], [5, 19], [0, 19], [], [], [2, 0, 41, 251], [4, 251], [0, 251], [2, 13, 1, 225], [4, 225], [0, 225], [], [], [], [2, 9, 26, 259], [3, 259], [0, 259], [], [], [], [], [1, 9, 15, 1, 0], [1, 9, 22, 1, 1], [1, 12, 1048, 1, 2], [1, 9, 79, 1, 3]]
def dcs_4_3 : List (List Nat) := [[], [], [], [], [], [], [], [], [], [2, 0, 42, 253], [4, 253], [5, 253], [0, 253], [], [], [], [], [], [], [], [], [], [], [], [2, 9, 114, 279], [3, 279], [0, 279], [2, 17, 194, 241], [], [2, 17, 201, 280], [3, 280], [0, 280]]
def dcs_4_4 : List (List Nat) := [[], [2, 9, 108, 275], [3, 275], [0, 275], [], [], [], [], [], [], [], [2, 16, 304, 242], [3, 242], [0, 242], [], [], [], [], [], [], [], [], [2, 9, 191, 257], [3, 257], [0, 257], [], [], [], [], [], [], []]
def dcs_4_5 : List (List Nat) := [[], [], [], [], [], [], [], [], [], [], [], [], [], [], [], [], [], [], [], [], [], [], [], [], [], [], [2, 9, 197, 267], [3, 267], [0, 267], [], [], []]
def dcs_4_6 : List (List Nat) := [[], [], [], [], [], [], [2, 0, 49, 254], [4, 254], [5, 254], [0, 254], [], [], [], [2, 9, 245, 239], [3, 239], [0, 239], [2, 9, 248, 238], [3, 238], [0, 238], [], [], [], [], [2, 9, 251, 268], [3, 268], [0, 268], [], [], [], [], [], []]
def dcs_4_7 : List (List Nat) := [[], [], [], [], [], [], [], [], [2, 0, 55, 4], [2, 0, 58, 255], [4, 255], [5, 255], [0, 255], [], [], [2, 13, 137, 243]]
def dcs_4 : List (List (List Nat)) := [dcs_4_0, dcs_4_1, dcs_4_2, dcs_4_3, dcs_4_4, dcs_4_5, dcs_4_6, dcs_4_7]
def dcs_5_0 : List (List Nat) := [[4, 243], [0, 243], [2, 12, 489, 246], [4, 246], [0, 246], [], [], [], [], [], [], [], [], [], [], [4, 256], [0, 256], [], [], [], [2, 12, 54, 277], [3, 277], [0, 277], [2, 16, 339, 278], [3, 278], [0, 278], [2, 16, 343, 276], [3, 276], [0, 276], [], [], [2, 16, 47, 251]]
def dcs_5_1 : List (List Nat) := [[2, 16, 54, 254], [], [2, 16, 50, 252], [4, 252], [5, 252], [0, 252], [], [], [], [], [], [], [], [], [], [], [], [], [], [], [], [], [], [], [], [], [], [], [], [], [], []]
def dcs_5_2 : List (List Nat) := [[], [], [], [], [], [], [], [], [2, 16, 61, 255], [], [2, 12, 1051, 265], [3, 265], [0, 265], [], [], [], [], [], [], [], [2, 12, 47, 264], [3, 264], [0, 264], [1, 12, 9, 0, 0], [1, 12, 15, 0, 1], [], [], [], [], [], [], []]
def dcs_5_3 : List (List Nat) := [[], [], [2, 19, 252, 305], [3, 305], [0, 305], [2, 19, 98, 76], [4, 76], [5, 76], [0, 76], [2, 6, 166, 2], [2, 19, 255, 306], [3, 306], [0, 306], [2, 19, 101, 77], [4, 77], [5, 77], [0, 77], [2, 6, 179, 115], [], [4, 115], [0, 115], [], [2, 19, 258, 307], [3, 307], [0, 307], [2, 19, 104, 78], [4, 78], [5, 78], [0, 78], [2, 19, 261, 308], [3, 308], [0, 308]]
def dcs_5_4 : List (List Nat) := [[2, 19, 107, 79], [4, 79], [5, 79], [0, 79], [2, 19, 264, 309], [3, 309], [0, 309], [2, 19, 110, 80], [2, 19, 267, 310], [3, 310], [0, 310], [2, 19, 113, 81], [4, 81], [5, 81], [0, 81], [2, 19, 270, 311], [3, 311], [0, 311], [2, 19, 116, 82], [4, 82], [5, 82], [0, 82], [2, 19, 273, 312], [3, 312], [0, 312], [2, 19, 120, 83], [4, 83], [5, 83], [0, 83], [2, 19, 276, 313], [3, 313], [0, 313]]
def dcs_5_5 : List (List Nat) := [[2, 19, 124, 84], [2, 19, 279, 314], [3, 314], [0, 314], [2, 19, 127, 85], [4, 85], [5, 85], [0, 85], [2, 19, 282, 315], [3, 315], [0, 315], [2, 19, 130, 86], [4, 86], [5, 86], [0, 86], [2, 19, 285, 316], [3, 316], [0, 316], [2, 19, 133, 87], [4, 87], [5, 87], [0, 87], [2, 19, 288, 317], [3, 317], [0, 317], [2, 19, 137, 88], [4, 88], [5, 88], [0, 88], [2, 6, 192, 16], [4, 16], [5, 16]]
def dcs_5_6 : List (List Nat) := [[0, 16], [2, 19, 291, 318], [3, 318], [0, 318], [2, 19, 140, 89], [2, 19, 297, 319], [3, 319], [0, 319], [2, 19, 143, 90], [2, 19, 300, 320], [3, 320], [0, 320], [2, 19, 146, 91], [4, 91], [5, 91], [0, 91], [2, 6, 206, 122], [3, 122], [0, 122], [], [2, 6, 210, 123], [2, 6, 214, 23], [2, 6, 217, 240], [2, 19, 303, 321], [3, 321], [0, 321], [2, 19, 149, 92], [4, 92], [5, 92], [0, 92], [2, 6, 222, 24], [2, 19, 306, 322]]
def dcs_5_7 : List (List Nat) := [[3, 322], [0, 322], [2, 19, 152, 93], [4, 93], [5, 93], [0, 93], [2, 6, 225, 118], [3, 118], [0, 118], [], [2, 6, 228, 22], [2, 19, 309, 323], [3, 323], [0, 323], [2, 19, 155, 94], [2, 19, 312, 324]]
def dcs_5 : List (List (List Nat)) := [dcs_5_0, dcs_5_1, dcs_5_2, dcs_5_3, dcs_5_4, dcs_5_5, dcs_5_6, dcs_5_7]
def dcs_6_0 : List (List Nat) := [[3, 324], [0, 324], [2, 19, 158, 95], [2, 19, 315, 325], [3, 325], [0, 325], [2, 19, 161, 96], [2, 19, 318, 326], [3, 326], [0, 326], [2, 19, 164, 97], [4, 97], [5, 97], [0, 97], [2, 6, 244, 32], [2, 19, 321, 327], [3, 327], [0, 327], [2, 19, 167, 98], [4, 98], [5, 98], [0, 98], [2, 19, 324, 328], [3, 328], [0, 328], [2, 19, 170, 99], [], [], [2, 19, 176, 125], [4, 125], [0, 125], []]
def dcs_6_1 : List (List Nat) := [[], [], [1, 8, 11, 10, 0], [1, 8, 14, 10, 1], [1, 8, 17, 10, 2], [1, 8, 40, 10, 3], [1, 8, 61, 10, 4], [1, 8, 218, 10, 5], [1, 8, 21, 10, 6], [1, 8, 25, 10, 7], [1, 8, 28, 10, 8], [1, 8, 31, 10, 9], [1, 8, 74, 10, 10], [1, 8, 34, 10, 11], [1, 8, 37, 10, 12], [], [], [], [], [], [], [], [], [], [], [], [], [], [], [], [], []]
def dcs_6_2 : List (List Nat) := [[], [], [], [], [], [], [], [], [], [], [2, 19, 294, 330], [4, 330], [5, 330], [0, 330], [2, 19, 183, 143], [4, 143], [5, 143], [0, 143], [2, 8, 94, 131], [], [4, 131], [0, 131], [2, 8, 47, 128], [3, 128], [0, 128], [2, 8, 51, 127], [], [4, 127], [0, 127], [2, 8, 43, 126], [], [4, 126]]
def dcs_6_3 : List (List Nat) := [[0, 126], [2, 8, 54, 129], [3, 129], [0, 129], [2, 8, 58, 130], [3, 130], [0, 130], [2, 8, 98, 141], [], [4, 141], [0, 141], [2, 8, 64, 133], [], [4, 133], [0, 133], [2, 8, 82, 132], [], [4, 132], [0, 132], [2, 8, 86, 139], [], [4, 139], [0, 139], [2, 8, 78, 138], [], [4, 138], [0, 138], [2, 19, 186, 144], [4, 144], [5, 144], [0, 144], [2, 8, 102, 134]]
def dcs_6_4 : List (List Nat) := [[], [4, 134], [0, 134], [2, 19, 189, 145], [4, 145], [5, 145], [0, 145], [2, 19, 192, 146], [4, 146], [5, 146], [0, 146], [2, 19, 196, 147], [4, 147], [5, 147], [0, 147], [2, 19, 200, 148], [4, 148], [5, 148], [0, 148], [2, 8, 105, 142], [], [4, 142], [0, 142], [2, 8, 90, 140], [], [4, 140], [0, 140], [2, 19, 203, 149], [4, 149], [5, 149], [0, 149], [2, 19, 207, 150]]
def dcs_6_5 : List (List Nat) := [[4, 150], [5, 150], [0, 150], [2, 8, 71, 136], [], [4, 136], [0, 136], [2, 8, 68, 135], [], [4, 135], [0, 135], [2, 19, 211, 151], [4, 151], [5, 151], [0, 151], [2, 19, 215, 152], [4, 152], [5, 152], [0, 152], [2, 19, 218, 153], [4, 153], [5, 153], [0, 153], [2, 19, 221, 154], [4, 154], [5, 154], [0, 154], [2, 19, 225, 155], [4, 155], [5, 155], [0, 155], [2, 19, 228, 159]]
def dcs_6_6 : List (List Nat) := [[4, 159], [5, 159], [0, 159], [2, 8, 111, 157], [], [4, 157], [0, 157], [2, 8, 108, 156], [], [4, 156], [0, 156], [2, 19, 231, 160], [4, 160], [5, 160], [0, 160], [2, 19, 234, 161], [4, 161], [5, 161], [0, 161], [2, 19, 237, 162], [4, 162], [5, 162], [0, 162], [2, 19, 241, 163], [4, 163], [5, 163], [0, 163], [2, 8, 114, 158], [], [4, 158], [0, 158], [2, 19, 245, 164]]
def dcs_6_7 : List (List Nat) := [[4, 164], [5, 164], [0, 164], [2, 19, 248, 166], [4, 166], [5, 166], [0, 166], [2, 8, 118, 165], [], [4, 165], [0, 165], [2, 19, 251, 167], [4, 167], [5, 167], [0, 167]]
def dcs_6 : List (List (List Nat)) := [dcs_6_0, dcs_6_1, dcs_6_2, dcs_6_3, dcs_6_4, dcs_6_5, dcs_6_6, dcs_6_7]
def dcs_7_0 : List (List Nat) := [[2, 8, 124, 182], [], [4, 182], [0, 182], [], [2, 8, 140, 251], [2, 8, 141, 256], [2, 8, 144, 253], [2, 8, 148, 254], [2, 8, 151, 255], [2, 19, 254, 168], [4, 168], [5, 168], [0, 168], [2, 19, 257, 169], [4, 169], [5, 169], [0, 169], [2, 8, 128, 178], [], [4, 178], [0, 178], [2, 8, 134, 177], [3, 177], [0, 177], [2, 19, 260, 170], [4, 170], [5, 170], [0, 170], [2, 19, 263, 171], [4, 171], [5, 171]]
def dcs_7_1 : List (List Nat) := [[0, 171], [2, 19, 266, 173], [4, 173], [5, 173], [0, 173], [2, 8, 131, 172], [], [4, 172], [0, 172], [2, 19, 269, 174], [4, 174], [5, 174], [0, 174], [2, 19, 272, 175], [4, 175], [5, 175], [0, 175], [2, 19, 275, 176], [4, 176], [5, 176], [0, 176], [2, 19, 278, 179], [4, 179], [5, 179], [0, 179], [2, 19, 281, 180], [4, 180], [5, 180], [0, 180], [2, 19, 284, 181], [4, 181], [5, 181]]
def dcs_7_2 : List (List Nat) := [[0, 181], [2, 19, 287, 183], [4, 183], [5, 183], [0, 183], [2, 19, 290, 184], [4, 184], [5, 184], [0, 184], [2, 19, 293, 191], [4, 191], [5, 191], [0, 191], [2, 8, 161, 190], [], [4, 190], [0, 190], [2, 8, 158, 189], [], [4, 189], [0, 189], [2, 19, 299, 192], [4, 192], [5, 192], [0, 192], [2, 19, 302, 195], [4, 195], [5, 195], [0, 195], [2, 8, 170, 193], [], [4, 193]]
def dcs_7_3 : List (List Nat) := [[0, 193], [2, 8, 173, 137], [], [4, 137], [0, 137], [2, 8, 177, 194], [3, 194], [0, 194], [2, 8, 164, 187], [3, 187], [0, 187], [2, 8, 167, 186], [3, 186], [0, 186], [2, 8, 155, 185], [3, 185], [0, 185], [2, 8, 181, 188], [3, 188], [0, 188], [2, 19, 305, 197], [4, 197], [5, 197], [0, 197], [2, 8, 184, 196], [3, 196], [0, 196], [2, 19, 308, 199], [4, 199], [5, 199], [0, 199], [2, 8, 188, 198]]
def dcs_7_4 : List (List Nat) := [[], [4, 198], [0, 198], [2, 19, 311, 202], [4, 202], [5, 202], [0, 202], [2, 8, 194, 201], [], [4, 201], [0, 201], [2, 8, 191, 200], [], [4, 200], [0, 200], [2, 19, 314, 206], [4, 206], [5, 206], [0, 206], [2, 8, 206, 205], [], [4, 205], [0, 205], [2, 8, 202, 204], [3, 204], [0, 204], [2, 8, 198, 203], [3, 203], [0, 203], [2, 19, 317, 208], [4, 208], [5, 208]]
def dcs_7_5 : List (List Nat) := [[0, 208], [2, 8, 209, 207], [], [4, 207], [0, 207], [2, 19, 320, 211], [4, 211], [5, 211], [0, 211], [2, 8, 215, 210], [], [4, 210], [0, 210], [2, 8, 212, 209], [], [4, 209], [0, 209], [2, 19, 323, 212], [4, 212], [5, 212], [0, 212], [2, 19, 326, 214], [4, 214], [5, 214], [0, 214], [2, 8, 221, 213], [], [4, 213], [0, 213], [2, 19, 330, 215], [4, 215], [5, 215]]
def dcs_7_6 : List (List Nat) := [[0, 215], [2, 19, 335, 222], [4, 222], [5, 222], [0, 222], [2, 8, 242, 221], [], [4, 221], [0, 221], [2, 8, 235, 219], [], [4, 219], [0, 219], [2, 8, 227, 218], [3, 218], [0, 218], [2, 8, 224, 216], [3, 216], [0, 216], [2, 8, 231, 217], [3, 217], [0, 217], [2, 8, 238, 220], [], [4, 220], [0, 220], [2, 19, 340, 224], [4, 224], [5, 224], [0, 224], [], []]
def dcs_7_7 : List (List Nat) := [[2, 8, 249, 223], [], [4, 223], [0, 223], [], [], [], [], [], [], [], [], [], [], [5, 256]]
def dcs_7 : List (List (List Nat)) := [dcs_7_0, dcs_7_1, dcs_7_2, dcs_7_3, dcs_7_4, dcs_7_5, dcs_7_6, dcs_7_7]
def dc_at (c : Nat) : List Nat := match (match c / 1000 with
  | 0 => dcs_0[c % 1000 / 32]?
  | 1 => dcs_1[c % 1000 / 32]?
  | 2 => dcs_2[c % 1000 / 32]?
  | 3 => dcs_3[c % 1000 / 32]?
  | 4 => dcs_4[c % 1000 / 32]?
  | 5 => dcs_5[c % 1000 / 32]?
  | 6 => dcs_6[c % 1000 / 32]?
  | 7 => dcs_7[c % 1000 / 32]?
  | _ => none) with
  | some s => (match s[c % 1000 % 32]? with
    | some k => k
    | none => [])
  | none => []
def dc_okP (c : Nat) (k : List Nat) : Prop := match k with
  | [0, z2] => dm_T c = some (dm_cw z2) ∧ goodWord (dm_cw z2) = true
  | [1, a, idx, ci, j] => ∃ q, vwCl[ci]? = some q ∧ dm_T c = some (.fieldLink (dc_s a) idx (q.2.1 j).1 (q.2.1 j).2.1 (q.2.1 j).2.2.1)
  | [2, a, idx, z2] => dm_T c = some (.methodLink (dc_s a) idx (dm_m z2).1)
  | [3, z2] => dm_T c = some (.static (dm_m z2).1)
  | [4, z2] => dm_T c = some (.instanceMethod (dm_m z2).1)
  | [5, z2] => dm_T c = some (.selects (dm_m z2).1.cls (dm_m z2).1 (dm_m z2).1)
  | [6, a] => dm_T c = some (.initialized (dc_s a))
  | [7, a, idx, z2] => ∃ n, dm_T c = some (.methodLinkNest (dc_s a) idx (dm_m z2).1 n)
  | [8, a, idx, ci, j] => ∃ q n, vwCl[ci]? = some q ∧ dm_T c = some (.fieldLinkNest (dc_s a) idx (q.2.1 j).1 (q.2.1 j).2.1 (q.2.1 j).2.2.1 n)
  | _ => True
theorem dm_g_of {c : Nat} {w : Cond} (h : dm_T c = some w) (hg : goodWord w = true) : dm_g c w = true := by
  unfold dm_g
  rw [decide_eq_true h, hg]
  rfl
def dc_runP (c : Nat) : List (List Nat) → Prop
  | [] => True
  | k :: r => dc_okP c k ∧ dc_runP (c + 1) r
theorem dc_run_at : ∀ (l : List (List Nat)) (c i : Nat) (k : List Nat), dc_runP c l → l[i]? = some k → dc_okP (c + i) k
  | [], c, i, k, _, h => by simp at h
  | k0 :: r, c, 0, k, h, e => by
    simp only [List.getElem?_cons_zero, Option.some.injEq] at e
    subst e; exact h.1
  | k0 :: r, c, i + 1, k, h, e => by
    rw [List.getElem?_cons_succ] at e
    have q := dc_run_at r (c + 1) i k h.2 e
    rw [show c + (i + 1) = c + 1 + i by omega]; exact q
def dc_okW (w : Cond) (k : List Nat) : Prop := match k with
  | [0, z2] => w = dm_cw z2 ∧ goodWord (dm_cw z2) = true
  | [1, a, idx, ci, j] => ∃ q, vwCl[ci]? = some q ∧ w = .fieldLink (dc_s a) idx (q.2.1 j).1 (q.2.1 j).2.1 (q.2.1 j).2.2.1
  | [2, a, idx, z2] => w = .methodLink (dc_s a) idx (dm_m z2).1
  | [3, z2] => w = .static (dm_m z2).1
  | [4, z2] => w = .instanceMethod (dm_m z2).1
  | [5, z2] => w = .selects (dm_m z2).1.cls (dm_m z2).1 (dm_m z2).1
  | [6, a] => w = .initialized (dc_s a)
  | [7, a, idx, z2] => ∃ n, w = .methodLinkNest (dc_s a) idx (dm_m z2).1 n
  | [8, a, idx, ci, j] => ∃ q n, vwCl[ci]? = some q ∧ w = .fieldLinkNest (dc_s a) idx (q.2.1 j).1 (q.2.1 j).2.1 (q.2.1 j).2.2.1 n
  | _ => True
theorem dc_ok_of {c : Nat} {w : Cond} {k : List Nat} (h : dm_T c = some w) (hw : dc_okW w k) : dc_okP c k := by
  unfold dc_okW at hw
  split at hw
  · obtain ⟨e, g⟩ := hw; subst e; exact ⟨h, g⟩
  · obtain ⟨q, g, e⟩ := hw; subst e; exact ⟨q, g, h⟩
  · subst hw; exact h
  · subst hw; exact h
  · subst hw; exact h
  · subst hw; exact h
  · subst hw; exact h
  · obtain ⟨n, e⟩ := hw; subst e; exact ⟨n, h⟩
  · obtain ⟨q, n, g, e⟩ := hw; subst e; exact ⟨q, n, g, h⟩
  · rename_i x0 x1 x2 x3 x4 x5 x6 x7 x8
    unfold dc_okP
    split
    · exact (x0 _ rfl).elim
    · exact (x1 _ _ _ _ rfl).elim
    · exact (x2 _ _ _ rfl).elim
    · exact (x3 _ rfl).elim
    · exact (x4 _ rfl).elim
    · exact (x5 _ rfl).elim
    · exact (x6 _ rfl).elim
    · exact (x7 _ _ _ rfl).elim
    · exact (x8 _ _ _ _ rfl).elim
    · trivial
def dc_runD : List (List Nat) → List Cond → Prop
  | [], _ => True
  | k :: r, l => match l with
    | [] => False
    | w :: l' => dc_okW w k ∧ dc_runD r l'
theorem dc_runD_P {T : List Cond} {c0 : Nat} (hT : ∀ i, i < 1000 → dm_T (c0 + i) = T[i]?) : ∀ (ks : List (List Nat)) (n : Nat), n + ks.length ≤ 1000 → dc_runD ks (T.drop n) → dc_runP (c0 + n) ks
  | [], n, _, _ => trivial
  | k :: r, n, hn, h => by
    have hn : n + (r.length + 1) ≤ 1000 := hn
    cases e : T.drop n with
    | nil => rw [e] at h; exact h.elim
    | cons w l' =>
      rw [e] at h
      have h1 : T[n]? = some w := by
        have q := congrArg (fun l => l[0]?) e
        simpa using q
      have h2 : T.drop (n + 1) = l' := by
        have q := congrArg List.tail e
        simpa using q
      refine ⟨dc_ok_of ((hT n (by omega)).trans h1) h.1, ?_⟩
      have q := dc_runD_P hT r (n + 1) (by omega) (by rw [h2]; exact h.2)
      rw [show c0 + n + 1 = c0 + (n + 1) by omega]
      exact q
def dc_runQ (c : Nat) : List (List (List Nat)) → Prop
  | [] => True
  | s :: r => dc_runP c s ∧ dc_runQ (c + 32) r
theorem dc_runQ_at : ∀ (l : List (List (List Nat))) (c i : Nat) (s : List (List Nat)), dc_runQ c l → l[i]? = some s → dc_runP (c + 32 * i) s
  | [], c, i, k, _, h => by simp at h
  | k0 :: r, c, 0, k, h, e => by
    simp only [List.getElem?_cons_zero, Option.some.injEq] at e
    subst e; exact h.1
  | k0 :: r, c, i + 1, k, h, e => by
    rw [List.getElem?_cons_succ] at e
    have q := dc_runQ_at r (c + 32) i k h.2 e
    rw [show c + 32 * (i + 1) = c + 32 + 32 * i by omega]; exact q
set_option maxRecDepth 1000000
theorem dcT_0 : ∀ i, i < 1000 → dm_T (0 + i) = (k2_sels lw_privs)[i]? := fun i hi => by
  unfold dm_T
  rw [show (0 + i) / 1000 = 0 by omega, show (0 + i) % 1000 = i by omega]
  rfl
theorem dcd_0_0 : dc_runD dcs_0_0 ((k2_sels lw_privs).drop 0) := ⟨rfl, rfl, rfl, rfl, rfl, rfl, trivial, rfl, rfl, rfl, rfl, rfl, rfl, rfl, rfl, rfl, rfl, rfl, rfl, rfl, rfl, rfl, rfl, rfl, rfl, rfl, rfl, rfl, rfl, rfl, rfl, rfl, trivial⟩
theorem dc_0_0 : dc_runP 0 dcs_0_0 := dc_runD_P (c0 := 0) dcT_0 _ 0 (by decide) dcd_0_0
theorem dcd_0_1 : dc_runD dcs_0_1 ((k2_sels lw_privs).drop 32) := ⟨rfl, rfl, rfl, rfl, rfl, rfl, rfl, rfl, rfl, rfl, rfl, rfl, rfl, rfl, rfl, rfl, rfl, rfl, rfl, rfl, rfl, trivial⟩
theorem dc_0_1 : dc_runP 32 dcs_0_1 := dc_runD_P (c0 := 0) dcT_0 _ 32 (by decide) dcd_0_1
theorem dc_0 : dc_runQ 0 dcs_0 := ⟨dc_0_0, dc_0_1, trivial⟩
theorem dcT_1 : ∀ i, i < 1000 → dm_T (1000 + i) = tables_1_1[i]? := fun i hi => by
  unfold dm_T
  rw [show (1000 + i) / 1000 = 1 by omega, show (1000 + i) % 1000 = i by omega]
  rfl
theorem dcd_1_0 : dc_runD dcs_1_0 (tables_1_1.drop 0) := ⟨rfl, rfl, rfl, rfl, rfl, rfl, rfl, rfl, rfl, rfl, trivial, trivial, trivial, trivial, trivial, trivial, rfl, rfl, rfl, rfl, rfl, rfl, rfl, trivial, rfl, trivial, rfl, trivial, trivial, rfl, rfl, ⟨rfl, rfl⟩, trivial⟩
theorem dc_1_0 : dc_runP 1000 dcs_1_0 := dc_runD_P (c0 := 1000) dcT_1 _ 0 (by decide) dcd_1_0
theorem dcd_1_1 : dc_runD dcs_1_1 (tables_1_1.drop 32) := ⟨trivial, trivial, trivial, trivial, trivial, trivial, trivial, ⟨_, rfl⟩, rfl, ⟨rfl, rfl⟩, trivial, ⟨_, rfl, rfl⟩, ⟨_, _, rfl, rfl⟩, ⟨_, rfl, rfl⟩, ⟨_, _, rfl, rfl⟩, ⟨_, rfl, rfl⟩, ⟨_, _, rfl, rfl⟩, trivial, trivial, trivial, trivial, trivial, trivial, trivial, trivial, trivial, ⟨_, rfl⟩, rfl, ⟨rfl, rfl⟩, trivial, ⟨_, rfl, rfl⟩, ⟨_, _, rfl, rfl⟩, trivial⟩
theorem dc_1_1 : dc_runP 1032 dcs_1_1 := dc_runD_P (c0 := 1000) dcT_1 _ 32 (by decide) dcd_1_1
theorem dcd_1_2 : dc_runD dcs_1_2 (tables_1_1.drop 64) := ⟨⟨_, rfl, rfl⟩, ⟨_, _, rfl, rfl⟩, ⟨_, _, rfl, rfl⟩, ⟨_, _, rfl, rfl⟩, trivial, trivial, trivial, trivial, trivial, trivial, trivial, trivial, trivial, trivial, trivial, ⟨_, rfl⟩, rfl, ⟨rfl, rfl⟩, trivial, ⟨_, rfl, rfl⟩, ⟨_, rfl, rfl⟩, ⟨_, _, rfl, rfl⟩, ⟨_, _, rfl, rfl⟩, trivial, trivial, trivial, trivial, trivial, trivial, trivial, trivial, ⟨_, rfl⟩, trivial⟩
theorem dc_1_2 : dc_runP 1064 dcs_1_2 := dc_runD_P (c0 := 1000) dcT_1 _ 64 (by decide) dcd_1_2
theorem dcd_1_3 : dc_runD dcs_1_3 (tables_1_1.drop 96) := ⟨rfl, ⟨rfl, rfl⟩, trivial, ⟨_, rfl, rfl⟩, ⟨_, rfl, rfl⟩, ⟨_, rfl, rfl⟩, ⟨_, _, rfl, rfl⟩, ⟨_, _, rfl, rfl⟩, trivial, trivial, trivial, trivial, trivial, trivial, trivial, trivial, trivial, ⟨_, rfl⟩, rfl, ⟨rfl, rfl⟩, trivial, trivial, ⟨_, rfl⟩, trivial, ⟨_, rfl⟩, ⟨_, rfl, rfl⟩, ⟨_, rfl, rfl⟩, ⟨_, rfl, rfl⟩, ⟨_, rfl, rfl⟩, ⟨_, rfl, rfl⟩, ⟨_, rfl, rfl⟩, trivial, trivial⟩
theorem dc_1_3 : dc_runP 1096 dcs_1_3 := dc_runD_P (c0 := 1000) dcT_1 _ 96 (by decide) dcd_1_3
theorem dcd_1_4 : dc_runD dcs_1_4 (tables_1_1.drop 128) := ⟨trivial, trivial, trivial, trivial, trivial, trivial, trivial, trivial, trivial, trivial, trivial, trivial, trivial, ⟨_, rfl⟩, rfl, ⟨rfl, rfl⟩, trivial, ⟨_, rfl, rfl⟩, ⟨_, rfl, rfl⟩, ⟨_, rfl, rfl⟩, ⟨_, rfl, rfl⟩, trivial, trivial, trivial, trivial, trivial, trivial, trivial, trivial, trivial, ⟨_, rfl, rfl⟩, ⟨_, rfl, rfl⟩, trivial⟩
theorem dc_1_4 : dc_runP 1128 dcs_1_4 := dc_runD_P (c0 := 1000) dcT_1 _ 128 (by decide) dcd_1_4
theorem dcd_1_5 : dc_runD dcs_1_5 (tables_1_1.drop 160) := ⟨⟨_, rfl, rfl⟩, ⟨_, rfl, rfl⟩, ⟨_, rfl, rfl⟩, ⟨_, rfl, rfl⟩, ⟨_, rfl, rfl⟩, ⟨_, rfl, rfl⟩, trivial, trivial, trivial, trivial, trivial, trivial, trivial, trivial, trivial, trivial, trivial, trivial, trivial, trivial, trivial, trivial, trivial, rfl, rfl, rfl, ⟨rfl, rfl⟩, rfl, rfl, rfl, ⟨rfl, rfl⟩, rfl, trivial⟩
theorem dc_1_5 : dc_runP 1160 dcs_1_5 := dc_runD_P (c0 := 1000) dcT_1 _ 160 (by decide) dcd_1_5
theorem dcd_1_6 : dc_runD dcs_1_6 (tables_1_1.drop 192) := ⟨rfl, rfl, ⟨rfl, rfl⟩, rfl, rfl, rfl, ⟨rfl, rfl⟩, rfl, rfl, rfl, ⟨rfl, rfl⟩, rfl, rfl, rfl, ⟨rfl, rfl⟩, rfl, rfl, rfl, ⟨rfl, rfl⟩, rfl, rfl, rfl, rfl, ⟨rfl, rfl⟩, rfl, rfl, rfl, ⟨rfl, rfl⟩, rfl, rfl, rfl, ⟨rfl, rfl⟩, trivial⟩
theorem dc_1_6 : dc_runP 1192 dcs_1_6 := dc_runD_P (c0 := 1000) dcT_1 _ 192 (by decide) dcd_1_6
theorem dcd_1_7 : dc_runD dcs_1_7 (tables_1_1.drop 224) := ⟨rfl, rfl, rfl, ⟨rfl, rfl⟩, rfl, rfl, rfl, ⟨rfl, rfl⟩, trivial, trivial, trivial, rfl, rfl, rfl, rfl, ⟨rfl, rfl⟩, trivial⟩
theorem dc_1_7 : dc_runP 1224 dcs_1_7 := dc_runD_P (c0 := 1000) dcT_1 _ 224 (by decide) dcd_1_7
theorem dc_1 : dc_runQ 1000 dcs_1 := ⟨dc_1_0, dc_1_1, dc_1_2, dc_1_3, dc_1_4, dc_1_5, dc_1_6, dc_1_7, trivial⟩
theorem dcT_2 : ∀ i, i < 1000 → dm_T (2000 + i) = tables_1_2[i]? := fun i hi => by
  unfold dm_T
  rw [show (2000 + i) / 1000 = 2 by omega, show (2000 + i) % 1000 = i by omega]
  rfl
theorem dcd_2_0 : dc_runD dcs_2_0 (tables_1_2.drop 0) := ⟨rfl, rfl, rfl, ⟨rfl, rfl⟩, rfl, rfl, rfl, rfl, ⟨rfl, rfl⟩, rfl, rfl, rfl, rfl, ⟨rfl, rfl⟩, rfl, rfl, trivial, rfl, ⟨rfl, rfl⟩, rfl, rfl, trivial, rfl, ⟨rfl, rfl⟩, rfl, ⟨_, rfl⟩, rfl, ⟨rfl, rfl⟩, rfl, rfl, ⟨rfl, rfl⟩, rfl, trivial⟩
theorem dc_2_0 : dc_runP 2000 dcs_2_0 := dc_runD_P (c0 := 2000) dcT_2 _ 0 (by decide) dcd_2_0
theorem dcd_2_1 : dc_runD dcs_2_1 (tables_1_2.drop 32) := ⟨rfl, rfl, ⟨rfl, rfl⟩, rfl, rfl, rfl, ⟨rfl, rfl⟩, rfl, rfl, trivial, rfl, ⟨rfl, rfl⟩, ⟨_, rfl⟩, rfl, rfl, rfl, ⟨rfl, rfl⟩, rfl, trivial, rfl, ⟨rfl, rfl⟩, rfl, rfl, rfl, rfl, rfl, rfl, ⟨rfl, rfl⟩, rfl, rfl, rfl, ⟨rfl, rfl⟩, trivial⟩
theorem dc_2_1 : dc_runP 2032 dcs_2_1 := dc_runD_P (c0 := 2000) dcT_2 _ 32 (by decide) dcd_2_1
theorem dcd_2_2 : dc_runD dcs_2_2 (tables_1_2.drop 64) := ⟨⟨_, rfl⟩, rfl, trivial, rfl, ⟨rfl, rfl⟩, rfl, rfl, rfl, ⟨rfl, rfl⟩, rfl, trivial, rfl, ⟨rfl, rfl⟩, rfl, rfl, rfl, ⟨rfl, rfl⟩, rfl, rfl, rfl, ⟨rfl, rfl⟩, rfl, rfl, ⟨rfl, rfl⟩, rfl, rfl, rfl, ⟨rfl, rfl⟩, rfl, rfl, rfl, ⟨rfl, rfl⟩, trivial⟩
theorem dc_2_2 : dc_runP 2064 dcs_2_2 := dc_runD_P (c0 := 2000) dcT_2 _ 64 (by decide) dcd_2_2
theorem dcd_2_3 : dc_runD dcs_2_3 (tables_1_2.drop 96) := ⟨rfl, rfl, rfl, ⟨rfl, rfl⟩, rfl, rfl, rfl, ⟨rfl, rfl⟩, rfl, rfl, rfl, rfl, rfl, ⟨rfl, rfl⟩, rfl, rfl, rfl, ⟨rfl, rfl⟩, trivial, trivial, rfl, rfl, rfl, ⟨rfl, rfl⟩, rfl, rfl, ⟨rfl, rfl⟩, trivial, trivial, trivial, trivial, trivial, trivial⟩
theorem dc_2_3 : dc_runP 2096 dcs_2_3 := dc_runD_P (c0 := 2000) dcT_2 _ 96 (by decide) dcd_2_3
theorem dc_2_4 : dc_runP 2128 dcs_2_4 := ⟨trivial, trivial, trivial, trivial, trivial, trivial, trivial, trivial, trivial, trivial, trivial, trivial, trivial, trivial, trivial, trivial, trivial, trivial, trivial, trivial, trivial, trivial, trivial, trivial, trivial, trivial, trivial, trivial, trivial, trivial, trivial, trivial, trivial⟩
theorem dcd_2_5 : dc_runD dcs_2_5 (tables_1_2.drop 160) := ⟨trivial, trivial, trivial, trivial, trivial, trivial, trivial, trivial, trivial, trivial, trivial, trivial, trivial, trivial, trivial, trivial, trivial, trivial, trivial, trivial, trivial, trivial, trivial, trivial, trivial, trivial, trivial, trivial, trivial, trivial, trivial, rfl, trivial⟩
theorem dc_2_5 : dc_runP 2160 dcs_2_5 := dc_runD_P (c0 := 2000) dcT_2 _ 160 (by decide) dcd_2_5
theorem dcd_2_6 : dc_runD dcs_2_6 (tables_1_2.drop 192) := ⟨trivial, rfl, ⟨rfl, rfl⟩, rfl, rfl, trivial, rfl, ⟨rfl, rfl⟩, rfl, rfl, rfl, ⟨rfl, rfl⟩, rfl, rfl, rfl, ⟨rfl, rfl⟩, rfl, trivial, rfl, ⟨rfl, rfl⟩, rfl, rfl, rfl, ⟨rfl, rfl⟩, rfl, trivial, rfl, ⟨rfl, rfl⟩, trivial, trivial, trivial, trivial, trivial⟩
theorem dc_2_6 : dc_runP 2192 dcs_2_6 := dc_runD_P (c0 := 2000) dcT_2 _ 192 (by decide) dcd_2_6
theorem dcd_2_7 : dc_runD dcs_2_7 (tables_1_2.drop 224) := ⟨trivial, trivial, trivial, trivial, trivial, trivial, trivial, trivial, trivial, trivial, trivial, trivial, rfl, rfl, rfl, ⟨rfl, rfl⟩, trivial⟩
theorem dc_2_7 : dc_runP 2224 dcs_2_7 := dc_runD_P (c0 := 2000) dcT_2 _ 224 (by decide) dcd_2_7
theorem dc_2 : dc_runQ 2000 dcs_2 := ⟨dc_2_0, dc_2_1, dc_2_2, dc_2_3, dc_2_4, dc_2_5, dc_2_6, dc_2_7, trivial⟩
theorem dcT_3 : ∀ i, i < 1000 → dm_T (3000 + i) = tables_1_3[i]? := fun i hi => by
  unfold dm_T
  rw [show (3000 + i) / 1000 = 3 by omega, show (3000 + i) % 1000 = i by omega]
  rfl
theorem dcd_3_0 : dc_runD dcs_3_0 (tables_1_3.drop 0) := ⟨rfl, rfl, rfl, ⟨rfl, rfl⟩, rfl, rfl, rfl, ⟨rfl, rfl⟩, rfl, rfl, rfl, ⟨rfl, rfl⟩, rfl, rfl, rfl, rfl, ⟨rfl, rfl⟩, rfl, rfl, ⟨rfl, rfl⟩, trivial, rfl, rfl, rfl, rfl, ⟨rfl, rfl⟩, rfl, rfl, rfl, rfl, rfl, ⟨rfl, rfl⟩, trivial⟩
theorem dc_3_0 : dc_runP 3000 dcs_3_0 := dc_runD_P (c0 := 3000) dcT_3 _ 0 (by decide) dcd_3_0
theorem dcd_3_1 : dc_runD dcs_3_1 (tables_1_3.drop 32) := ⟨rfl, rfl, trivial, rfl, ⟨rfl, rfl⟩, rfl, rfl, rfl, rfl, rfl, ⟨rfl, rfl⟩, rfl, rfl, ⟨rfl, rfl⟩, trivial, rfl, rfl, rfl, ⟨rfl, rfl⟩, rfl, rfl, rfl, rfl, rfl, rfl, ⟨rfl, rfl⟩, rfl, rfl, rfl, rfl, ⟨rfl, rfl⟩, rfl, trivial⟩
theorem dc_3_1 : dc_runP 3032 dcs_3_1 := dc_runD_P (c0 := 3000) dcT_3 _ 32 (by decide) dcd_3_1
theorem dcd_3_2 : dc_runD dcs_3_2 (tables_1_3.drop 64) := ⟨trivial, rfl, ⟨rfl, rfl⟩, trivial, trivial, trivial, trivial, trivial, trivial, trivial, trivial, trivial, trivial, trivial, trivial, trivial, trivial, trivial, trivial, rfl, rfl, rfl, ⟨rfl, rfl⟩, rfl, rfl, rfl, trivial, trivial, ⟨_, rfl⟩, rfl, ⟨rfl, rfl⟩, trivial, trivial⟩
theorem dc_3_2 : dc_runP 3064 dcs_3_2 := dc_runD_P (c0 := 3000) dcT_3 _ 64 (by decide) dcd_3_2
theorem dcd_3_3 : dc_runD dcs_3_3 (tables_1_3.drop 96) := ⟨⟨_, _, rfl, rfl⟩, ⟨_, _, rfl, rfl⟩, trivial, trivial, trivial, trivial, trivial, rfl, rfl, ⟨rfl, rfl⟩, trivial, trivial, rfl, rfl, rfl, ⟨rfl, rfl⟩, rfl, rfl, ⟨rfl, rfl⟩, trivial, rfl, trivial, rfl, ⟨rfl, rfl⟩, rfl, trivial, rfl, ⟨rfl, rfl⟩, rfl, trivial, rfl, ⟨rfl, rfl⟩, trivial⟩
theorem dc_3_3 : dc_runP 3096 dcs_3_3 := dc_runD_P (c0 := 3000) dcT_3 _ 96 (by decide) dcd_3_3
theorem dcd_3_4 : dc_runD dcs_3_4 (tables_1_3.drop 128) := ⟨rfl, rfl, rfl, ⟨rfl, rfl⟩, rfl, rfl, rfl, ⟨rfl, rfl⟩, rfl, rfl, ⟨rfl, rfl⟩, rfl, rfl, rfl, ⟨rfl, rfl⟩, rfl, rfl, ⟨rfl, rfl⟩, rfl, rfl, rfl, ⟨rfl, rfl⟩, rfl, rfl, ⟨rfl, rfl⟩, rfl, rfl, rfl, ⟨rfl, rfl⟩, rfl, rfl, ⟨rfl, rfl⟩, trivial⟩
theorem dc_3_4 : dc_runP 3128 dcs_3_4 := dc_runD_P (c0 := 3000) dcT_3 _ 128 (by decide) dcd_3_4
theorem dcd_3_5 : dc_runD dcs_3_5 (tables_1_3.drop 160) := ⟨rfl, rfl, rfl, ⟨rfl, rfl⟩, rfl, rfl, ⟨rfl, rfl⟩, rfl, rfl, rfl, ⟨rfl, rfl⟩, rfl, rfl, ⟨rfl, rfl⟩, rfl, rfl, rfl, ⟨rfl, rfl⟩, rfl, rfl, ⟨rfl, rfl⟩, rfl, rfl, rfl, ⟨rfl, rfl⟩, rfl, rfl, ⟨rfl, rfl⟩, rfl, rfl, rfl, ⟨rfl, rfl⟩, trivial⟩
theorem dc_3_5 : dc_runP 3160 dcs_3_5 := dc_runD_P (c0 := 3000) dcT_3 _ 160 (by decide) dcd_3_5
theorem dcd_3_6 : dc_runD dcs_3_6 (tables_1_3.drop 192) := ⟨rfl, rfl, rfl, ⟨rfl, rfl⟩, rfl, rfl, ⟨rfl, rfl⟩, rfl, rfl, rfl, ⟨rfl, rfl⟩, rfl, rfl, ⟨rfl, rfl⟩, rfl, rfl, ⟨rfl, rfl⟩, rfl, rfl, rfl, ⟨rfl, rfl⟩, rfl, rfl, rfl, ⟨rfl, rfl⟩, rfl, rfl, rfl, ⟨rfl, rfl⟩, rfl, rfl, rfl, trivial⟩
theorem dc_3_6 : dc_runP 3192 dcs_3_6 := dc_runD_P (c0 := 3000) dcT_3 _ 192 (by decide) dcd_3_6
theorem dcd_3_7 : dc_runD dcs_3_7 (tables_1_3.drop 224) := ⟨⟨rfl, rfl⟩, rfl, rfl, rfl, ⟨rfl, rfl⟩, rfl, rfl, rfl, ⟨rfl, rfl⟩, rfl, rfl, rfl, ⟨rfl, rfl⟩, rfl, rfl, rfl, trivial⟩
theorem dc_3_7 : dc_runP 3224 dcs_3_7 := dc_runD_P (c0 := 3000) dcT_3 _ 224 (by decide) dcd_3_7
theorem dc_3 : dc_runQ 3000 dcs_3 := ⟨dc_3_0, dc_3_1, dc_3_2, dc_3_3, dc_3_4, dc_3_5, dc_3_6, dc_3_7, trivial⟩
theorem dcT_4 : ∀ i, i < 1000 → dm_T (4000 + i) = tables_1_4[i]? := fun i hi => by
  unfold dm_T
  rw [show (4000 + i) / 1000 = 4 by omega, show (4000 + i) % 1000 = i by omega]
  rfl
theorem dcd_4_0 : dc_runD dcs_4_0 (tables_1_4.drop 0) := ⟨⟨rfl, rfl⟩, rfl, rfl, ⟨rfl, rfl⟩, rfl, rfl, rfl, ⟨rfl, rfl⟩, trivial, rfl, rfl, ⟨rfl, rfl⟩, rfl, rfl, rfl, ⟨rfl, rfl⟩, trivial, trivial, rfl, rfl, ⟨rfl, rfl⟩, trivial, rfl, rfl, rfl, ⟨rfl, rfl⟩, rfl, rfl, ⟨rfl, rfl⟩, trivial, rfl, rfl, trivial⟩
theorem dc_4_0 : dc_runP 4000 dcs_4_0 := dc_runD_P (c0 := 4000) dcT_4 _ 0 (by decide) dcd_4_0
theorem dcd_4_1 : dc_runD dcs_4_1 (tables_1_4.drop 32) := ⟨rfl, ⟨rfl, rfl⟩, rfl, rfl, rfl, ⟨rfl, rfl⟩, rfl, rfl, ⟨rfl, rfl⟩, rfl, rfl, rfl, ⟨rfl, rfl⟩, rfl, rfl, ⟨rfl, rfl⟩, rfl, rfl, rfl, ⟨rfl, rfl⟩, rfl, rfl, ⟨rfl, rfl⟩, rfl, rfl, rfl, ⟨rfl, rfl⟩, rfl, rfl, ⟨rfl, rfl⟩, rfl, rfl, trivial⟩
theorem dc_4_1 : dc_runP 4032 dcs_4_1 := dc_runD_P (c0 := 4000) dcT_4 _ 32 (by decide) dcd_4_1
theorem dcd_4_2 : dc_runD dcs_4_2 (tables_1_4.drop 64) := ⟨rfl, ⟨rfl, rfl⟩, rfl, rfl, rfl, ⟨rfl, rfl⟩, rfl, rfl, rfl, ⟨rfl, rfl⟩, trivial, trivial, rfl, rfl, ⟨rfl, rfl⟩, rfl, rfl, ⟨rfl, rfl⟩, trivial, trivial, trivial, rfl, rfl, ⟨rfl, rfl⟩, trivial, trivial, trivial, trivial, ⟨_, rfl, rfl⟩, ⟨_, rfl, rfl⟩, ⟨_, rfl, rfl⟩, ⟨_, rfl, rfl⟩, trivial⟩
theorem dc_4_2 : dc_runP 4064 dcs_4_2 := dc_runD_P (c0 := 4000) dcT_4 _ 64 (by decide) dcd_4_2
theorem dcd_4_3 : dc_runD dcs_4_3 (tables_1_4.drop 96) := ⟨trivial, trivial, trivial, trivial, trivial, trivial, trivial, trivial, trivial, rfl, rfl, rfl, ⟨rfl, rfl⟩, trivial, trivial, trivial, trivial, trivial, trivial, trivial, trivial, trivial, trivial, trivial, rfl, rfl, ⟨rfl, rfl⟩, rfl, trivial, rfl, rfl, ⟨rfl, rfl⟩, trivial⟩
theorem dc_4_3 : dc_runP 4096 dcs_4_3 := dc_runD_P (c0 := 4000) dcT_4 _ 96 (by decide) dcd_4_3
theorem dcd_4_4 : dc_runD dcs_4_4 (tables_1_4.drop 128) := ⟨trivial, rfl, rfl, ⟨rfl, rfl⟩, trivial, trivial, trivial, trivial, trivial, trivial, trivial, rfl, rfl, ⟨rfl, rfl⟩, trivial, trivial, trivial, trivial, trivial, trivial, trivial, trivial, rfl, rfl, ⟨rfl, rfl⟩, trivial, trivial, trivial, trivial, trivial, trivial, trivial, trivial⟩
theorem dc_4_4 : dc_runP 4128 dcs_4_4 := dc_runD_P (c0 := 4000) dcT_4 _ 128 (by decide) dcd_4_4
theorem dcd_4_5 : dc_runD dcs_4_5 (tables_1_4.drop 160) := ⟨trivial, trivial, trivial, trivial, trivial, trivial, trivial, trivial, trivial, trivial, trivial, trivial, trivial, trivial, trivial, trivial, trivial, trivial, trivial, trivial, trivial, trivial, trivial, trivial, trivial, trivial, rfl, rfl, ⟨rfl, rfl⟩, trivial, trivial, trivial, trivial⟩
theorem dc_4_5 : dc_runP 4160 dcs_4_5 := dc_runD_P (c0 := 4000) dcT_4 _ 160 (by decide) dcd_4_5
theorem dcd_4_6 : dc_runD dcs_4_6 (tables_1_4.drop 192) := ⟨trivial, trivial, trivial, trivial, trivial, trivial, rfl, rfl, rfl, ⟨rfl, rfl⟩, trivial, trivial, trivial, rfl, rfl, ⟨rfl, rfl⟩, rfl, rfl, ⟨rfl, rfl⟩, trivial, trivial, trivial, trivial, rfl, rfl, ⟨rfl, rfl⟩, trivial, trivial, trivial, trivial, trivial, trivial, trivial⟩
theorem dc_4_6 : dc_runP 4192 dcs_4_6 := dc_runD_P (c0 := 4000) dcT_4 _ 192 (by decide) dcd_4_6
theorem dcd_4_7 : dc_runD dcs_4_7 (tables_1_4.drop 224) := ⟨trivial, trivial, trivial, trivial, trivial, trivial, trivial, trivial, rfl, rfl, rfl, rfl, ⟨rfl, rfl⟩, trivial, trivial, rfl, trivial⟩
theorem dc_4_7 : dc_runP 4224 dcs_4_7 := dc_runD_P (c0 := 4000) dcT_4 _ 224 (by decide) dcd_4_7
theorem dc_4 : dc_runQ 4000 dcs_4 := ⟨dc_4_0, dc_4_1, dc_4_2, dc_4_3, dc_4_4, dc_4_5, dc_4_6, dc_4_7, trivial⟩
theorem dcT_5 : ∀ i, i < 1000 → dm_T (5000 + i) = tables_1_5[i]? := fun i hi => by
  unfold dm_T
  rw [show (5000 + i) / 1000 = 5 by omega, show (5000 + i) % 1000 = i by omega]
  rfl
theorem dcd_5_0 : dc_runD dcs_5_0 (tables_1_5.drop 0) := ⟨rfl, ⟨rfl, rfl⟩, rfl, rfl, ⟨rfl, rfl⟩, trivial, trivial, trivial, trivial, trivial, trivial, trivial, trivial, trivial, trivial, rfl, ⟨rfl, rfl⟩, trivial, trivial, trivial, rfl, rfl, ⟨rfl, rfl⟩, rfl, rfl, ⟨rfl, rfl⟩, rfl, rfl, ⟨rfl, rfl⟩, trivial, trivial, rfl, trivial⟩
theorem dc_5_0 : dc_runP 5000 dcs_5_0 := dc_runD_P (c0 := 5000) dcT_5 _ 0 (by decide) dcd_5_0
theorem dcd_5_1 : dc_runD dcs_5_1 (tables_1_5.drop 32) := ⟨rfl, trivial, rfl, rfl, rfl, ⟨rfl, rfl⟩, trivial, trivial, trivial, trivial, trivial, trivial, trivial, trivial, trivial, trivial, trivial, trivial, trivial, trivial, trivial, trivial, trivial, trivial, trivial, trivial, trivial, trivial, trivial, trivial, trivial, trivial, trivial⟩
theorem dc_5_1 : dc_runP 5032 dcs_5_1 := dc_runD_P (c0 := 5000) dcT_5 _ 32 (by decide) dcd_5_1
theorem dcd_5_2 : dc_runD dcs_5_2 (tables_1_5.drop 64) := ⟨trivial, trivial, trivial, trivial, trivial, trivial, trivial, trivial, rfl, trivial, rfl, rfl, ⟨rfl, rfl⟩, trivial, trivial, trivial, trivial, trivial, trivial, trivial, rfl, rfl, ⟨rfl, rfl⟩, ⟨_, rfl, rfl⟩, ⟨_, rfl, rfl⟩, trivial, trivial, trivial, trivial, trivial, trivial, trivial, trivial⟩
theorem dc_5_2 : dc_runP 5064 dcs_5_2 := dc_runD_P (c0 := 5000) dcT_5 _ 64 (by decide) dcd_5_2
theorem dcd_5_3 : dc_runD dcs_5_3 (tables_1_5.drop 96) := ⟨trivial, trivial, rfl, rfl, ⟨rfl, rfl⟩, rfl, rfl, rfl, ⟨rfl, rfl⟩, rfl, rfl, rfl, ⟨rfl, rfl⟩, rfl, rfl, rfl, ⟨rfl, rfl⟩, rfl, trivial, rfl, ⟨rfl, rfl⟩, trivial, rfl, rfl, ⟨rfl, rfl⟩, rfl, rfl, rfl, ⟨rfl, rfl⟩, rfl, rfl, ⟨rfl, rfl⟩, trivial⟩
theorem dc_5_3 : dc_runP 5096 dcs_5_3 := dc_runD_P (c0 := 5000) dcT_5 _ 96 (by decide) dcd_5_3
theorem dcd_5_4 : dc_runD dcs_5_4 (tables_1_5.drop 128) := ⟨rfl, rfl, rfl, ⟨rfl, rfl⟩, rfl, rfl, ⟨rfl, rfl⟩, rfl, rfl, rfl, ⟨rfl, rfl⟩, rfl, rfl, rfl, ⟨rfl, rfl⟩, rfl, rfl, ⟨rfl, rfl⟩, rfl, rfl, rfl, ⟨rfl, rfl⟩, rfl, rfl, ⟨rfl, rfl⟩, rfl, rfl, rfl, ⟨rfl, rfl⟩, rfl, rfl, ⟨rfl, rfl⟩, trivial⟩
theorem dc_5_4 : dc_runP 5128 dcs_5_4 := dc_runD_P (c0 := 5000) dcT_5 _ 128 (by decide) dcd_5_4
theorem dcd_5_5 : dc_runD dcs_5_5 (tables_1_5.drop 160) := ⟨rfl, rfl, rfl, ⟨rfl, rfl⟩, rfl, rfl, rfl, ⟨rfl, rfl⟩, rfl, rfl, ⟨rfl, rfl⟩, rfl, rfl, rfl, ⟨rfl, rfl⟩, rfl, rfl, ⟨rfl, rfl⟩, rfl, rfl, rfl, ⟨rfl, rfl⟩, rfl, rfl, ⟨rfl, rfl⟩, rfl, rfl, rfl, ⟨rfl, rfl⟩, rfl, rfl, rfl, trivial⟩
theorem dc_5_5 : dc_runP 5160 dcs_5_5 := dc_runD_P (c0 := 5000) dcT_5 _ 160 (by decide) dcd_5_5
theorem dcd_5_6 : dc_runD dcs_5_6 (tables_1_5.drop 192) := ⟨⟨rfl, rfl⟩, rfl, rfl, ⟨rfl, rfl⟩, rfl, rfl, rfl, ⟨rfl, rfl⟩, rfl, rfl, rfl, ⟨rfl, rfl⟩, rfl, rfl, rfl, ⟨rfl, rfl⟩, rfl, rfl, ⟨rfl, rfl⟩, trivial, rfl, rfl, rfl, rfl, rfl, ⟨rfl, rfl⟩, rfl, rfl, rfl, ⟨rfl, rfl⟩, rfl, rfl, trivial⟩
theorem dc_5_6 : dc_runP 5192 dcs_5_6 := dc_runD_P (c0 := 5000) dcT_5 _ 192 (by decide) dcd_5_6
theorem dcd_5_7 : dc_runD dcs_5_7 (tables_1_5.drop 224) := ⟨rfl, ⟨rfl, rfl⟩, rfl, rfl, rfl, ⟨rfl, rfl⟩, rfl, rfl, ⟨rfl, rfl⟩, trivial, rfl, rfl, rfl, ⟨rfl, rfl⟩, rfl, rfl, trivial⟩
theorem dc_5_7 : dc_runP 5224 dcs_5_7 := dc_runD_P (c0 := 5000) dcT_5 _ 224 (by decide) dcd_5_7
theorem dc_5 : dc_runQ 5000 dcs_5 := ⟨dc_5_0, dc_5_1, dc_5_2, dc_5_3, dc_5_4, dc_5_5, dc_5_6, dc_5_7, trivial⟩
theorem dcT_6 : ∀ i, i < 1000 → dm_T (6000 + i) = tables_1_6[i]? := fun i hi => by
  unfold dm_T
  rw [show (6000 + i) / 1000 = 6 by omega, show (6000 + i) % 1000 = i by omega]
  rfl
theorem dcd_6_0 : dc_runD dcs_6_0 (tables_1_6.drop 0) := ⟨rfl, ⟨rfl, rfl⟩, rfl, rfl, rfl, ⟨rfl, rfl⟩, rfl, rfl, rfl, ⟨rfl, rfl⟩, rfl, rfl, rfl, ⟨rfl, rfl⟩, rfl, rfl, rfl, ⟨rfl, rfl⟩, rfl, rfl, rfl, ⟨rfl, rfl⟩, rfl, rfl, ⟨rfl, rfl⟩, rfl, trivial, trivial, rfl, rfl, ⟨rfl, rfl⟩, trivial, trivial⟩
theorem dc_6_0 : dc_runP 6000 dcs_6_0 := dc_runD_P (c0 := 6000) dcT_6 _ 0 (by decide) dcd_6_0
theorem dcd_6_1 : dc_runD dcs_6_1 (tables_1_6.drop 32) := ⟨trivial, trivial, ⟨_, rfl, rfl⟩, ⟨_, rfl, rfl⟩, ⟨_, rfl, rfl⟩, ⟨_, rfl, rfl⟩, ⟨_, rfl, rfl⟩, ⟨_, rfl, rfl⟩, ⟨_, rfl, rfl⟩, ⟨_, rfl, rfl⟩, ⟨_, rfl, rfl⟩, ⟨_, rfl, rfl⟩, ⟨_, rfl, rfl⟩, ⟨_, rfl, rfl⟩, ⟨_, rfl, rfl⟩, trivial, trivial, trivial, trivial, trivial, trivial, trivial, trivial, trivial, trivial, trivial, trivial, trivial, trivial, trivial, trivial, trivial, trivial⟩
theorem dc_6_1 : dc_runP 6032 dcs_6_1 := dc_runD_P (c0 := 6000) dcT_6 _ 32 (by decide) dcd_6_1
theorem dcd_6_2 : dc_runD dcs_6_2 (tables_1_6.drop 64) := ⟨trivial, trivial, trivial, trivial, trivial, trivial, trivial, trivial, trivial, trivial, rfl, rfl, rfl, ⟨rfl, rfl⟩, rfl, rfl, rfl, ⟨rfl, rfl⟩, rfl, trivial, rfl, ⟨rfl, rfl⟩, rfl, rfl, ⟨rfl, rfl⟩, rfl, trivial, rfl, ⟨rfl, rfl⟩, rfl, trivial, rfl, trivial⟩
theorem dc_6_2 : dc_runP 6064 dcs_6_2 := dc_runD_P (c0 := 6000) dcT_6 _ 64 (by decide) dcd_6_2
theorem dcd_6_3 : dc_runD dcs_6_3 (tables_1_6.drop 96) := ⟨⟨rfl, rfl⟩, rfl, rfl, ⟨rfl, rfl⟩, rfl, rfl, ⟨rfl, rfl⟩, rfl, trivial, rfl, ⟨rfl, rfl⟩, rfl, trivial, rfl, ⟨rfl, rfl⟩, rfl, trivial, rfl, ⟨rfl, rfl⟩, rfl, trivial, rfl, ⟨rfl, rfl⟩, rfl, trivial, rfl, ⟨rfl, rfl⟩, rfl, rfl, rfl, ⟨rfl, rfl⟩, rfl, trivial⟩
theorem dc_6_3 : dc_runP 6096 dcs_6_3 := dc_runD_P (c0 := 6000) dcT_6 _ 96 (by decide) dcd_6_3
theorem dcd_6_4 : dc_runD dcs_6_4 (tables_1_6.drop 128) := ⟨trivial, rfl, ⟨rfl, rfl⟩, rfl, rfl, rfl, ⟨rfl, rfl⟩, rfl, rfl, rfl, ⟨rfl, rfl⟩, rfl, rfl, rfl, ⟨rfl, rfl⟩, rfl, rfl, rfl, ⟨rfl, rfl⟩, rfl, trivial, rfl, ⟨rfl, rfl⟩, rfl, trivial, rfl, ⟨rfl, rfl⟩, rfl, rfl, rfl, ⟨rfl, rfl⟩, rfl, trivial⟩
theorem dc_6_4 : dc_runP 6128 dcs_6_4 := dc_runD_P (c0 := 6000) dcT_6 _ 128 (by decide) dcd_6_4
theorem dcd_6_5 : dc_runD dcs_6_5 (tables_1_6.drop 160) := ⟨rfl, rfl, ⟨rfl, rfl⟩, rfl, trivial, rfl, ⟨rfl, rfl⟩, rfl, trivial, rfl, ⟨rfl, rfl⟩, rfl, rfl, rfl, ⟨rfl, rfl⟩, rfl, rfl, rfl, ⟨rfl, rfl⟩, rfl, rfl, rfl, ⟨rfl, rfl⟩, rfl, rfl, rfl, ⟨rfl, rfl⟩, rfl, rfl, rfl, ⟨rfl, rfl⟩, rfl, trivial⟩
theorem dc_6_5 : dc_runP 6160 dcs_6_5 := dc_runD_P (c0 := 6000) dcT_6 _ 160 (by decide) dcd_6_5
theorem dcd_6_6 : dc_runD dcs_6_6 (tables_1_6.drop 192) := ⟨rfl, rfl, ⟨rfl, rfl⟩, rfl, trivial, rfl, ⟨rfl, rfl⟩, rfl, trivial, rfl, ⟨rfl, rfl⟩, rfl, rfl, rfl, ⟨rfl, rfl⟩, rfl, rfl, rfl, ⟨rfl, rfl⟩, rfl, rfl, rfl, ⟨rfl, rfl⟩, rfl, rfl, rfl, ⟨rfl, rfl⟩, rfl, trivial, rfl, ⟨rfl, rfl⟩, rfl, trivial⟩
theorem dc_6_6 : dc_runP 6192 dcs_6_6 := dc_runD_P (c0 := 6000) dcT_6 _ 192 (by decide) dcd_6_6
theorem dcd_6_7 : dc_runD dcs_6_7 (tables_1_6.drop 224) := ⟨rfl, rfl, ⟨rfl, rfl⟩, rfl, rfl, rfl, ⟨rfl, rfl⟩, rfl, trivial, rfl, ⟨rfl, rfl⟩, rfl, rfl, rfl, ⟨rfl, rfl⟩, trivial⟩
theorem dc_6_7 : dc_runP 6224 dcs_6_7 := dc_runD_P (c0 := 6000) dcT_6 _ 224 (by decide) dcd_6_7
theorem dc_6 : dc_runQ 6000 dcs_6 := ⟨dc_6_0, dc_6_1, dc_6_2, dc_6_3, dc_6_4, dc_6_5, dc_6_6, dc_6_7, trivial⟩
theorem dcT_7 : ∀ i, i < 1000 → dm_T (7000 + i) = tables_1_7[i]? := fun i hi => by
  unfold dm_T
  rw [show (7000 + i) / 1000 = 7 by omega, show (7000 + i) % 1000 = i by omega]
  rfl
theorem dcd_7_0 : dc_runD dcs_7_0 (tables_1_7.drop 0) := ⟨rfl, trivial, rfl, ⟨rfl, rfl⟩, trivial, rfl, rfl, rfl, rfl, rfl, rfl, rfl, rfl, ⟨rfl, rfl⟩, rfl, rfl, rfl, ⟨rfl, rfl⟩, rfl, trivial, rfl, ⟨rfl, rfl⟩, rfl, rfl, ⟨rfl, rfl⟩, rfl, rfl, rfl, ⟨rfl, rfl⟩, rfl, rfl, rfl, trivial⟩
theorem dc_7_0 : dc_runP 7000 dcs_7_0 := dc_runD_P (c0 := 7000) dcT_7 _ 0 (by decide) dcd_7_0
theorem dcd_7_1 : dc_runD dcs_7_1 (tables_1_7.drop 32) := ⟨⟨rfl, rfl⟩, rfl, rfl, rfl, ⟨rfl, rfl⟩, rfl, trivial, rfl, ⟨rfl, rfl⟩, rfl, rfl, rfl, ⟨rfl, rfl⟩, rfl, rfl, rfl, ⟨rfl, rfl⟩, rfl, rfl, rfl, ⟨rfl, rfl⟩, rfl, rfl, rfl, ⟨rfl, rfl⟩, rfl, rfl, rfl, ⟨rfl, rfl⟩, rfl, rfl, rfl, trivial⟩
theorem dc_7_1 : dc_runP 7032 dcs_7_1 := dc_runD_P (c0 := 7000) dcT_7 _ 32 (by decide) dcd_7_1
theorem dcd_7_2 : dc_runD dcs_7_2 (tables_1_7.drop 64) := ⟨⟨rfl, rfl⟩, rfl, rfl, rfl, ⟨rfl, rfl⟩, rfl, rfl, rfl, ⟨rfl, rfl⟩, rfl, rfl, rfl, ⟨rfl, rfl⟩, rfl, trivial, rfl, ⟨rfl, rfl⟩, rfl, trivial, rfl, ⟨rfl, rfl⟩, rfl, rfl, rfl, ⟨rfl, rfl⟩, rfl, rfl, rfl, ⟨rfl, rfl⟩, rfl, trivial, rfl, trivial⟩
theorem dc_7_2 : dc_runP 7064 dcs_7_2 := dc_runD_P (c0 := 7000) dcT_7 _ 64 (by decide) dcd_7_2
theorem dcd_7_3 : dc_runD dcs_7_3 (tables_1_7.drop 96) := ⟨⟨rfl, rfl⟩, rfl, trivial, rfl, ⟨rfl, rfl⟩, rfl, rfl, ⟨rfl, rfl⟩, rfl, rfl, ⟨rfl, rfl⟩, rfl, rfl, ⟨rfl, rfl⟩, rfl, rfl, ⟨rfl, rfl⟩, rfl, rfl, ⟨rfl, rfl⟩, rfl, rfl, rfl, ⟨rfl, rfl⟩, rfl, rfl, ⟨rfl, rfl⟩, rfl, rfl, rfl, ⟨rfl, rfl⟩, rfl, trivial⟩
theorem dc_7_3 : dc_runP 7096 dcs_7_3 := dc_runD_P (c0 := 7000) dcT_7 _ 96 (by decide) dcd_7_3
theorem dcd_7_4 : dc_runD dcs_7_4 (tables_1_7.drop 128) := ⟨trivial, rfl, ⟨rfl, rfl⟩, rfl, rfl, rfl, ⟨rfl, rfl⟩, rfl, trivial, rfl, ⟨rfl, rfl⟩, rfl, trivial, rfl, ⟨rfl, rfl⟩, rfl, rfl, rfl, ⟨rfl, rfl⟩, rfl, trivial, rfl, ⟨rfl, rfl⟩, rfl, rfl, ⟨rfl, rfl⟩, rfl, rfl, ⟨rfl, rfl⟩, rfl, rfl, rfl, trivial⟩
theorem dc_7_4 : dc_runP 7128 dcs_7_4 := dc_runD_P (c0 := 7000) dcT_7 _ 128 (by decide) dcd_7_4
theorem dcd_7_5 : dc_runD dcs_7_5 (tables_1_7.drop 160) := ⟨⟨rfl, rfl⟩, rfl, trivial, rfl, ⟨rfl, rfl⟩, rfl, rfl, rfl, ⟨rfl, rfl⟩, rfl, trivial, rfl, ⟨rfl, rfl⟩, rfl, trivial, rfl, ⟨rfl, rfl⟩, rfl, rfl, rfl, ⟨rfl, rfl⟩, rfl, rfl, rfl, ⟨rfl, rfl⟩, rfl, trivial, rfl, ⟨rfl, rfl⟩, rfl, rfl, rfl, trivial⟩
theorem dc_7_5 : dc_runP 7160 dcs_7_5 := dc_runD_P (c0 := 7000) dcT_7 _ 160 (by decide) dcd_7_5
theorem dcd_7_6 : dc_runD dcs_7_6 (tables_1_7.drop 192) := ⟨⟨rfl, rfl⟩, rfl, rfl, rfl, ⟨rfl, rfl⟩, rfl, trivial, rfl, ⟨rfl, rfl⟩, rfl, trivial, rfl, ⟨rfl, rfl⟩, rfl, rfl, ⟨rfl, rfl⟩, rfl, rfl, ⟨rfl, rfl⟩, rfl, rfl, ⟨rfl, rfl⟩, rfl, trivial, rfl, ⟨rfl, rfl⟩, rfl, rfl, rfl, ⟨rfl, rfl⟩, trivial, trivial, trivial⟩
theorem dc_7_6 : dc_runP 7192 dcs_7_6 := dc_runD_P (c0 := 7000) dcT_7 _ 192 (by decide) dcd_7_6
theorem dcd_7_7 : dc_runD dcs_7_7 (tables_1_7.drop 224) := ⟨rfl, trivial, rfl, ⟨rfl, rfl⟩, trivial, trivial, trivial, trivial, trivial, trivial, trivial, trivial, trivial, trivial, rfl, trivial⟩
theorem dc_7_7 : dc_runP 7224 dcs_7_7 := dc_runD_P (c0 := 7000) dcT_7 _ 224 (by decide) dcd_7_7
theorem dc_7 : dc_runQ 7000 dcs_7 := ⟨dc_7_0, dc_7_1, dc_7_2, dc_7_3, dc_7_4, dc_7_5, dc_7_6, dc_7_7, trivial⟩
theorem dc_use {c : Nat} {k : List Nat} (h : dc_at c = k) (hk : k ≠ []) : dc_okP c k := by
  have hc := Nat.div_add_mod c 1000
  have hd := Nat.div_add_mod (c % 1000) 32
  unfold dc_at at h
  split at h
  · rename_i s e9
    split at h
    · rename_i k9 e7
      subst h
      split at e9
      · rename_i e8
        have q := dc_run_at _ _ _ _ (dc_runQ_at _ _ _ _ dc_0 e9) e7
        rw [show 0 + 32 * (c % 1000 / 32) + c % 1000 % 32 = c by omega] at q; exact q
      · rename_i e8
        have q := dc_run_at _ _ _ _ (dc_runQ_at _ _ _ _ dc_1 e9) e7
        rw [show 1000 + 32 * (c % 1000 / 32) + c % 1000 % 32 = c by omega] at q; exact q
      · rename_i e8
        have q := dc_run_at _ _ _ _ (dc_runQ_at _ _ _ _ dc_2 e9) e7
        rw [show 2000 + 32 * (c % 1000 / 32) + c % 1000 % 32 = c by omega] at q; exact q
      · rename_i e8
        have q := dc_run_at _ _ _ _ (dc_runQ_at _ _ _ _ dc_3 e9) e7
        rw [show 3000 + 32 * (c % 1000 / 32) + c % 1000 % 32 = c by omega] at q; exact q
      · rename_i e8
        have q := dc_run_at _ _ _ _ (dc_runQ_at _ _ _ _ dc_4 e9) e7
        rw [show 4000 + 32 * (c % 1000 / 32) + c % 1000 % 32 = c by omega] at q; exact q
      · rename_i e8
        have q := dc_run_at _ _ _ _ (dc_runQ_at _ _ _ _ dc_5 e9) e7
        rw [show 5000 + 32 * (c % 1000 / 32) + c % 1000 % 32 = c by omega] at q; exact q
      · rename_i e8
        have q := dc_run_at _ _ _ _ (dc_runQ_at _ _ _ _ dc_6 e9) e7
        rw [show 6000 + 32 * (c % 1000 / 32) + c % 1000 % 32 = c by omega] at q; exact q
      · rename_i e8
        have q := dc_run_at _ _ _ _ (dc_runQ_at _ _ _ _ dc_7 e9) e7
        rw [show 7000 + 32 * (c % 1000 / 32) + c % 1000 % 32 = c by omega] at q; exact q
      · cases e9
    · exact absurd h.symm hk
  · exact absurd h.symm hk
def dq : List Nat → List Nat → Bool
  | [], [] => true
  | a :: r, b :: s => Nat.beq a b && dq r s
  | _, _ => false
theorem dq_eq : ∀ {a b : List Nat}, dq a b = true → a = b
  | [], [], _ => rfl
  | a :: r, b :: s, h => by
    simp only [dq, Bool.and_eq_true] at h
    rw [Nat.eq_of_beq_eq_true h.1, dq_eq h.2]
  | [], _ :: _, h => by cases h
  | _ :: _, [], h => by cases h
theorem dq_use {c : Nat} {k : List Nat} (h : dq (dc_at c) k = true) (hk : k ≠ []) : dc_okP c k := dc_use (dq_eq h) hk
/-- a method: its class; may it be called on an object, does it make one, is it called -/
def dc_zs : List (Nat × Bool × Bool × Bool) := [(0, false, true, true), (0, true, false, true), (0, true, false, true), (0, true, false, true), (0, true, false, true), (0, true, false, true), (0, true, false, true), (0, true, false, true), (0, true, false, true), (0, true, false, true), (0, true, false, true), (0, true, false, true), (0, true, false, true), (0, true, false, true), (0, true, false, true), (0, true, false, true), (0, true, false, true), (0, true, false, true), (0, true, false, true), (0, true, false, true), (0, true, false, true), (0, true, false, true), (0, true, false, true), (0, true, false, true), (0, true, false, true), (0, true, false, true), (0, true, false, true), (0, true, false, true), (1, false, true, true), (1, true, false, true), (1, true, false, true), (1, true, false, true), (1, true, false, true), (1, true, false, true), (2, false, true, true), (2, true, false, true), (3, false, true, true), (3, true, false, true), (3, true, false, true), (3, true, false, true), (3, true, false, true), (4, false, true, true), (4, true, false, true), (4, true, false, true), (4, true, false, true), (4, true, false, true), (4, true, false, true), (5, false, true, true), (5, true, false, true), (5, true, false, true), (5, true, false, true), (5, true, false, true), (5, true, false, true), (5, true, false, true), (6, false, true, true), (6, true, false, true), (6, true, false, true), (6, true, false, true), (6, true, false, true), (6, true, false, true), (6, true, false, true), (6, true, false, true), (6, true, false, true), (6, true, false, true), (6, true, false, true), (6, true, false, true), (6, true, false, true), (6, true, false, true), (6, true, false, true), (6, true, false, true), (6, true, false, true), (6, true, false, true), (6, true, false, true), (6, true, false, true), (6, true, false, true), (6, true, false, true), (6, true, false, true), (6, true, false, true), (6, true, false, true), (6, true, false, true), (6, true, false, true), (6, true, false, true), (6, true, false, true), (6, true, false, true), (6, true, false, true), (6, true, false, true), (6, true, false, true), (6, true, false, true), (6, true, false, true), (6, true, false, true), (6, true, false, true), (6, true, false, true), (6, true, false, true), (6, true, false, true), (6, true, false, true), (6, true, false, true), (6, true, false, true), (6, true, false, true), (6, true, false, true), (6, true, false, true), (6, true, false, true), (6, true, false, true), (6, true, false, true), (6, true, false, true), (6, true, false, true), (6, true, false, true), (6, true, false, true), (6, true, false, true), (6, true, false, true), (6, true, false, true), (6, false, false, true), (6, false, false, true), (6, false, false, true), (6, true, false, true), (6, true, false, true), (6, true, false, true), (6, false, false, true), (6, false, false, true), (6, false, false, true), (6, false, false, true), (6, false, false, true), (6, false, false, true), (6, false, false, true), (6, false, false, true), (7, false, true, true), (8, false, true, true), (8, true, false, true), (8, true, false, true), (8, false, false, true), (8, false, false, true), (8, false, false, true), (8, true, false, true), (8, true, false, true), (8, true, false, true), (8, true, false, true), (8, true, false, true), (8, true, false, true), (8, true, false, true), (8, true, false, true), (8, true, false, true), (8, true, false, true), (8, true, false, true), (8, true, false, true), (8, true, false, true), (8, true, false, true), (8, true, false, true), (8, true, false, true), (8, true, false, true), (8, true, false, true), (8, true, false, true), (8, true, false, true), (8, true, false, true), (8, true, false, true), (8, true, false, true), (8, true, false, true), (8, true, false, true), (8, true, false, true), (8, true, false, true), (8, true, false, true), (8, true, false, true), (8, true, false, true), (8, true, false, true), (8, true, false, true), (8, true, false, true), (8, true, false, true), (8, true, false, true), (8, true, false, true), (8, true, false, true), (8, true, false, true), (8, true, false, true), (8, true, false, true), (8, true, false, true), (8, true, false, true), (8, true, false, true), (8, true, false, true), (8, true, false, true), (8, true, false, true), (8, false, false, true), (8, true, false, true), (8, true, false, true), (8, true, false, true), (8, true, false, true), (8, true, false, true), (8, true, false, true), (8, true, false, true), (8, false, false, true), (8, false, false, true), (8, false, false, true), (8, false, false, true), (8, true, false, true), (8, true, false, true), (8, true, false, true), (8, true, false, true), (8, true, false, true), (8, false, false, true), (8, true, false, true), (8, false, false, true), (8, true, false, true), (8, true, false, true), (8, true, false, true), (8, true, false, true), (8, true, false, true), (8, true, false, true), (8, false, false, true), (8, false, false, true), (8, true, false, true), (8, true, false, true), (8, true, false, true), (8, true, false, true), (8, true, false, true), (8, true, false, true), (8, true, false, true), (8, true, false, true), (8, true, false, true), (8, true, false, true), (8, true, false, true), (8, false, false, true), (8, false, false, true), (8, false, false, true), (8, true, false, true), (8, true, false, true), (8, true, false, true), (8, true, false, true), (8, true, false, true), (8, true, false, true), (9, false, true, true), (9, false, false, false), (9, false, false, false), (9, false, false, false), (9, false, false, false), (9, false, false, false), (9, false, false, false), (9, false, false, false), (9, false, false, false), (9, false, false, false), (9, false, false, false), (9, false, false, false), (9, false, false, false), (10, false, false, true), (10, false, false, true), (10, false, false, true), (11, false, false, true), (11, false, false, true), (12, false, true, true), (12, false, false, false), (12, false, false, false), (12, false, true, true), (12, false, false, false), (12, false, false, false), (12, false, false, false), (12, false, false, false), (13, false, true, true), (13, true, false, true), (13, true, false, true), (13, true, false, true), (13, true, false, true), (13, true, false, true), (14, false, false, true), (14, false, false, false), (15, false, false, true), (15, false, false, false), (15, false, false, false), (15, false, false, false), (15, false, false, false), (15, false, false, true), (15, false, false, true), (15, false, false, false), (15, false, false, true), (15, false, false, true), (15, false, false, false), (15, false, false, false), (15, false, false, false), (15, false, false, false), (15, false, false, false), (15, false, false, false), (16, false, false, true), (16, false, false, true), (16, false, false, true), (16, false, false, true), (17, false, false, true), (17, false, false, true), (18, false, false, false), (18, false, false, false), (18, false, false, false), (19, false, false, true), (19, false, false, true), (19, false, false, true), (19, false, false, true), (19, false, false, true), (19, false, false, true), (19, false, false, true), (19, false, false, true), (19, false, false, true), (19, false, false, true), (19, false, false, true), (19, false, false, true), (19, false, false, true), (19, false, false, true), (19, false, false, true), (19, false, false, true), (19, false, false, true), (19, false, false, true), (19, false, false, true), (19, false, false, true), (19, false, false, true), (19, false, false, true), (19, false, false, true), (19, false, false, true), (19, false, false, true), (19, false, false, true), (19, false, false, true), (19, false, false, true), (19, false, false, true), (19, false, false, true), (19, false, false, true), (19, false, false, true), (19, false, false, true), (19, false, false, true), (19, false, false, true), (19, false, false, true), (19, false, false, true), (19, false, false, true), (19, false, false, true), (19, false, false, true), (19, false, false, true), (19, false, false, true), (19, false, false, true), (19, false, false, true), (19, false, false, true), (19, false, false, false), (8, true, false, true)]
def dc_nh (c : String) : Prop := c ≠ "java/lang/invoke/MethodHandle" ∧ c ≠ "java/lang/invoke/VarHandle"
def dc_rest (z2 : Nat) : Prop := dc_nh (dm_m z2).1.cls ∧ (dm_m z2).2.2.1 ≤ 100 ∧ (parseMethodDescriptor (dm_m z2).1.desc).map (fun d => d.parameters.length) = (dm_nr[z2]?).map (·.1)
def dc_zP (z : Nat) (x : Nat × Bool × Bool × Bool) : Prop := dc_s x.1 = (dm_m z).1.cls ∧ (x.2.1 = true → dm_okC z = true) ∧ (x.2.2.1 = true → (dm_m z).1.name = "<init>") ∧ (x.2.2.2 = true → dc_rest z)
theorem dc_Cof {z n ci : Nat} (h1 : dm_nr[z]? = some (n, ci)) (h2 : (vwCl[ci]?).map (·.1) = some (dm_m z).1.cls) : dm_okC z = true := by
  unfold dm_okC
  rw [h1]
  exact decide_eq_true h2
theorem dcn_0 : dc_nh "Earlyends$Book" := by unfold dc_nh; exact ⟨by decide +kernel, by decide +kernel⟩
theorem dcn_1 : dc_nh "Earlyends$Chain" := by unfold dc_nh; exact ⟨by decide +kernel, by decide +kernel⟩
theorem dcn_2 : dc_nh "Earlyends$Hand" := by unfold dc_nh; exact ⟨by decide +kernel, by decide +kernel⟩
theorem dcn_3 : dc_nh "Earlyends$Housing" := by unfold dc_nh; exact ⟨by decide +kernel, by decide +kernel⟩
theorem dcn_4 : dc_nh "Earlyends$Part" := by unfold dc_nh; exact ⟨by decide +kernel, by decide +kernel⟩
theorem dcn_5 : dc_nh "Earlyends$Trial" := by unfold dc_nh; exact ⟨by decide +kernel, by decide +kernel⟩
theorem dcn_6 : dc_nh "Earlyends" := by unfold dc_nh; exact ⟨by decide +kernel, by decide +kernel⟩
theorem dcn_7 : dc_nh "EarlyendsLaw$Out" := by unfold dc_nh; exact ⟨by decide +kernel, by decide +kernel⟩
theorem dcn_8 : dc_nh "EarlyendsModel" := by unfold dc_nh; exact ⟨by decide +kernel, by decide +kernel⟩
theorem dcn_9 : dc_nh "java/lang/AbstractStringBuilder" := by unfold dc_nh; exact ⟨by decide +kernel, by decide +kernel⟩
theorem dcn_10 : dc_nh "java/lang/Integer" := by unfold dc_nh; exact ⟨by decide +kernel, by decide +kernel⟩
theorem dcn_11 : dc_nh "java/lang/Math" := by unfold dc_nh; exact ⟨by decide +kernel, by decide +kernel⟩
theorem dcn_12 : dc_nh "java/lang/String" := by unfold dc_nh; exact ⟨by decide +kernel, by decide +kernel⟩
theorem dcn_13 : dc_nh "java/lang/StringBuilder" := by unfold dc_nh; exact ⟨by decide +kernel, by decide +kernel⟩
theorem dcn_14 : dc_nh "java/lang/StringLatin1" := by unfold dc_nh; exact ⟨by decide +kernel, by decide +kernel⟩
theorem dcn_15 : dc_nh "java/lang/StringUTF16" := by unfold dc_nh; exact ⟨by decide +kernel, by decide +kernel⟩
theorem dcn_16 : dc_nh "java/util/Arrays" := by unfold dc_nh; exact ⟨by decide +kernel, by decide +kernel⟩
theorem dcn_17 : dc_nh "jdk/internal/util/ArraysSupport" := by unfold dc_nh; exact ⟨by decide +kernel, by decide +kernel⟩
theorem dcn_19 : dc_nh "EarlyendsLaw" := by unfold dc_nh; exact ⟨by decide +kernel, by decide +kernel⟩
theorem dcd_0 : (parseMethodDescriptor "()I").map (fun d => d.parameters.length) = some 0 := by decide +kernel
theorem dcd_1 : (parseMethodDescriptor "()J").map (fun d => d.parameters.length) = some 0 := by decide +kernel
theorem dcd_2 : (parseMethodDescriptor "()LEarlyends$Book;").map (fun d => d.parameters.length) = some 0 := by decide +kernel
theorem dcd_3 : (parseMethodDescriptor "()Ljava/lang/String;").map (fun d => d.parameters.length) = some 0 := by decide +kernel
theorem dcd_4 : (parseMethodDescriptor "()V").map (fun d => d.parameters.length) = some 0 := by decide +kernel
theorem dcd_5 : (parseMethodDescriptor "()Z").map (fun d => d.parameters.length) = some 0 := by decide +kernel
theorem dcd_6 : (parseMethodDescriptor "(C)Ljava/lang/StringBuilder;").map (fun d => d.parameters.length) = some 1 := by decide +kernel
theorem dcd_7 : (parseMethodDescriptor "(C)Z").map (fun d => d.parameters.length) = some 1 := by decide +kernel
theorem dcd_8 : (parseMethodDescriptor "(I)I").map (fun d => d.parameters.length) = some 1 := by decide +kernel
theorem dcd_9 : (parseMethodDescriptor "(I)LEarlyends$Book;").map (fun d => d.parameters.length) = some 1 := by decide +kernel
theorem dcd_10 : (parseMethodDescriptor "(I)Ljava/lang/StringBuilder;").map (fun d => d.parameters.length) = some 1 := by decide +kernel
theorem dcd_11 : (parseMethodDescriptor "(I)V").map (fun d => d.parameters.length) = some 1 := by decide +kernel
theorem dcd_12 : (parseMethodDescriptor "(I)Z").map (fun d => d.parameters.length) = some 1 := by decide +kernel
theorem dcd_13 : (parseMethodDescriptor "(I)[B").map (fun d => d.parameters.length) = some 1 := by decide +kernel
theorem dcd_14 : (parseMethodDescriptor "(I)[I").map (fun d => d.parameters.length) = some 1 := by decide +kernel
theorem dcd_15 : (parseMethodDescriptor "(II)I").map (fun d => d.parameters.length) = some 2 := by decide +kernel
theorem dcd_16 : (parseMethodDescriptor "(II)V").map (fun d => d.parameters.length) = some 2 := by decide +kernel
theorem dcd_17 : (parseMethodDescriptor "(II)Z").map (fun d => d.parameters.length) = some 2 := by decide +kernel
theorem dcd_18 : (parseMethodDescriptor "(III)I").map (fun d => d.parameters.length) = some 3 := by decide +kernel
theorem dcd_19 : (parseMethodDescriptor "(III)V").map (fun d => d.parameters.length) = some 3 := by decide +kernel
theorem dcd_20 : (parseMethodDescriptor "(III)Z").map (fun d => d.parameters.length) = some 3 := by decide +kernel
theorem dcd_21 : (parseMethodDescriptor "(IIII)I").map (fun d => d.parameters.length) = some 4 := by decide +kernel
theorem dcd_22 : (parseMethodDescriptor "(IIII)Z").map (fun d => d.parameters.length) = some 4 := by decide +kernel
theorem dcd_23 : (parseMethodDescriptor "(IIIII)I").map (fun d => d.parameters.length) = some 5 := by decide +kernel
theorem dcd_24 : (parseMethodDescriptor "(III[B)I").map (fun d => d.parameters.length) = some 4 := by decide +kernel
theorem dcd_25 : (parseMethodDescriptor "(IIZ)I").map (fun d => d.parameters.length) = some 3 := by decide +kernel
theorem dcd_26 : (parseMethodDescriptor "(IIZ)Ljava/lang/String;").map (fun d => d.parameters.length) = some 3 := by decide +kernel
theorem dcd_27 : (parseMethodDescriptor "(II[B)I").map (fun d => d.parameters.length) = some 3 := by decide +kernel
theorem dcd_28 : (parseMethodDescriptor "(IZ)I").map (fun d => d.parameters.length) = some 2 := by decide +kernel
theorem dcd_29 : (parseMethodDescriptor "(IZ)Ljava/lang/String;").map (fun d => d.parameters.length) = some 2 := by decide +kernel
theorem dcd_30 : (parseMethodDescriptor "(IZZ)Ljava/lang/String;").map (fun d => d.parameters.length) = some 3 := by decide +kernel
theorem dcd_31 : (parseMethodDescriptor "(JI)J").map (fun d => d.parameters.length) = some 2 := by decide +kernel
theorem dcd_32 : (parseMethodDescriptor "(LEarlyends$Book;)I").map (fun d => d.parameters.length) = some 1 := by decide +kernel
theorem dcd_33 : (parseMethodDescriptor "(LEarlyends$Book;)V").map (fun d => d.parameters.length) = some 1 := by decide +kernel
theorem dcd_34 : (parseMethodDescriptor "(LEarlyends$Book;)Z").map (fun d => d.parameters.length) = some 1 := by decide +kernel
theorem dcd_35 : (parseMethodDescriptor "(LEarlyends$Book;I)I").map (fun d => d.parameters.length) = some 2 := by decide +kernel
theorem dcd_36 : (parseMethodDescriptor "(LEarlyends$Book;I)V").map (fun d => d.parameters.length) = some 2 := by decide +kernel
theorem dcd_37 : (parseMethodDescriptor "(LEarlyends$Book;I)Z").map (fun d => d.parameters.length) = some 2 := by decide +kernel
theorem dcd_38 : (parseMethodDescriptor "(LEarlyends$Book;II)I").map (fun d => d.parameters.length) = some 3 := by decide +kernel
theorem dcd_39 : (parseMethodDescriptor "(LEarlyends$Book;II)Z").map (fun d => d.parameters.length) = some 3 := by decide +kernel
theorem dcd_40 : (parseMethodDescriptor "(LEarlyends$Book;III)I").map (fun d => d.parameters.length) = some 4 := by decide +kernel
theorem dcd_41 : (parseMethodDescriptor "(LEarlyends$Book;IIZ)I").map (fun d => d.parameters.length) = some 4 := by decide +kernel
theorem dcd_42 : (parseMethodDescriptor "(LEarlyends;IIIIILEarlyendsLaw$Out;)I").map (fun d => d.parameters.length) = some 7 := by decide +kernel
theorem dcd_43 : (parseMethodDescriptor "(LEarlyends;IIIILEarlyendsLaw$Out;)I").map (fun d => d.parameters.length) = some 6 := by decide +kernel
theorem dcd_44 : (parseMethodDescriptor "(LEarlyends;IIILEarlyendsLaw$Out;)I").map (fun d => d.parameters.length) = some 5 := by decide +kernel
theorem dcd_45 : (parseMethodDescriptor "(LEarlyends;IILEarlyendsLaw$Out;)I").map (fun d => d.parameters.length) = some 4 := by decide +kernel
theorem dcd_46 : (parseMethodDescriptor "(LEarlyends;IIZLEarlyendsLaw$Out;)I").map (fun d => d.parameters.length) = some 5 := by decide +kernel
theorem dcd_47 : (parseMethodDescriptor "(LEarlyends;ILEarlyendsLaw$Out;)I").map (fun d => d.parameters.length) = some 3 := by decide +kernel
theorem dcd_48 : (parseMethodDescriptor "(LEarlyends;IZLEarlyendsLaw$Out;)I").map (fun d => d.parameters.length) = some 4 := by decide +kernel
theorem dcd_49 : (parseMethodDescriptor "(LEarlyends;LEarlyendsLaw$Out;)I").map (fun d => d.parameters.length) = some 2 := by decide +kernel
theorem dcd_50 : (parseMethodDescriptor "(LEarlyends;ZLEarlyendsLaw$Out;)I").map (fun d => d.parameters.length) = some 3 := by decide +kernel
theorem dcd_51 : (parseMethodDescriptor "(Ljava/lang/AbstractStringBuilder;Ljava/lang/Void;)V").map (fun d => d.parameters.length) = some 2 := by decide +kernel
theorem dcd_52 : (parseMethodDescriptor "(Ljava/lang/String;)Ljava/lang/StringBuilder;").map (fun d => d.parameters.length) = some 1 := by decide +kernel
theorem dcd_53 : (parseMethodDescriptor "(Ljava/lang/StringBuilder;)V").map (fun d => d.parameters.length) = some 1 := by decide +kernel
theorem dcd_54 : (parseMethodDescriptor "(Z)I").map (fun d => d.parameters.length) = some 1 := by decide +kernel
theorem dcd_55 : (parseMethodDescriptor "(ZI)Z").map (fun d => d.parameters.length) = some 2 := by decide +kernel
theorem dcd_56 : (parseMethodDescriptor "([BI)B").map (fun d => d.parameters.length) = some 2 := by decide +kernel
theorem dcd_57 : (parseMethodDescriptor "([BI)[B").map (fun d => d.parameters.length) = some 2 := by decide +kernel
theorem dcd_58 : (parseMethodDescriptor "([BII)V").map (fun d => d.parameters.length) = some 3 := by decide +kernel
theorem dcd_59 : (parseMethodDescriptor "([BII)[B").map (fun d => d.parameters.length) = some 3 := by decide +kernel
theorem dcd_60 : (parseMethodDescriptor "([I)[I").map (fun d => d.parameters.length) = some 1 := by decide +kernel
theorem dcd_61 : (parseMethodDescriptor "([II)I").map (fun d => d.parameters.length) = some 2 := by decide +kernel
theorem dcd_62 : (parseMethodDescriptor "([II)Z").map (fun d => d.parameters.length) = some 2 := by decide +kernel
theorem dcd_63 : (parseMethodDescriptor "([IIII)Z").map (fun d => d.parameters.length) = some 4 := by decide +kernel
theorem dcd_64 : (parseMethodDescriptor "([II[II)Z").map (fun d => d.parameters.length) = some 4 := by decide +kernel
theorem dcd_65 : (parseMethodDescriptor "([I[II)I").map (fun d => d.parameters.length) = some 3 := by decide +kernel
theorem dz_0 : dc_zP 0 (0, false, true, true) := ⟨rfl, (fun e => by cases e), (fun _ => rfl), (fun _ => ⟨dcn_0, Nat.le_of_ble_eq_true rfl, dcd_4⟩)⟩
theorem dz_1 : dc_zP 1 (0, true, false, true) := ⟨rfl, (fun _ => dc_Cof rfl rfl), (fun e => by cases e), (fun _ => ⟨dcn_0, Nat.le_of_ble_eq_true rfl, dcd_0⟩)⟩
theorem dz_2 : dc_zP 2 (0, true, false, true) := ⟨rfl, (fun _ => dc_Cof rfl rfl), (fun e => by cases e), (fun _ => ⟨dcn_0, Nat.le_of_ble_eq_true rfl, dcd_0⟩)⟩
theorem dz_3 : dc_zP 3 (0, true, false, true) := ⟨rfl, (fun _ => dc_Cof rfl rfl), (fun e => by cases e), (fun _ => ⟨dcn_0, Nat.le_of_ble_eq_true rfl, dcd_8⟩)⟩
theorem dz_4 : dc_zP 4 (0, true, false, true) := ⟨rfl, (fun _ => dc_Cof rfl rfl), (fun e => by cases e), (fun _ => ⟨dcn_0, Nat.le_of_ble_eq_true rfl, dcd_8⟩)⟩
theorem dz_5 : dc_zP 5 (0, true, false, true) := ⟨rfl, (fun _ => dc_Cof rfl rfl), (fun e => by cases e), (fun _ => ⟨dcn_0, Nat.le_of_ble_eq_true rfl, dcd_8⟩)⟩
theorem dz_6 : dc_zP 6 (0, true, false, true) := ⟨rfl, (fun _ => dc_Cof rfl rfl), (fun e => by cases e), (fun _ => ⟨dcn_0, Nat.le_of_ble_eq_true rfl, dcd_8⟩)⟩
theorem dz_7 : dc_zP 7 (0, true, false, true) := ⟨rfl, (fun _ => dc_Cof rfl rfl), (fun e => by cases e), (fun _ => ⟨dcn_0, Nat.le_of_ble_eq_true rfl, dcd_8⟩)⟩
theorem dz_8 : dc_zP 8 (0, true, false, true) := ⟨rfl, (fun _ => dc_Cof rfl rfl), (fun e => by cases e), (fun _ => ⟨dcn_0, Nat.le_of_ble_eq_true rfl, dcd_8⟩)⟩
theorem dz_9 : dc_zP 9 (0, true, false, true) := ⟨rfl, (fun _ => dc_Cof rfl rfl), (fun e => by cases e), (fun _ => ⟨dcn_0, Nat.le_of_ble_eq_true rfl, dcd_8⟩)⟩
theorem dz_10 : dc_zP 10 (0, true, false, true) := ⟨rfl, (fun _ => dc_Cof rfl rfl), (fun e => by cases e), (fun _ => ⟨dcn_0, Nat.le_of_ble_eq_true rfl, dcd_15⟩)⟩
theorem dz_11 : dc_zP 11 (0, true, false, true) := ⟨rfl, (fun _ => dc_Cof rfl rfl), (fun e => by cases e), (fun _ => ⟨dcn_0, Nat.le_of_ble_eq_true rfl, dcd_16⟩)⟩
theorem dz_12 : dc_zP 12 (0, true, false, true) := ⟨rfl, (fun _ => dc_Cof rfl rfl), (fun e => by cases e), (fun _ => ⟨dcn_0, Nat.le_of_ble_eq_true rfl, dcd_11⟩)⟩
theorem dz_13 : dc_zP 13 (0, true, false, true) := ⟨rfl, (fun _ => dc_Cof rfl rfl), (fun e => by cases e), (fun _ => ⟨dcn_0, Nat.le_of_ble_eq_true rfl, dcd_15⟩)⟩
theorem dz_14 : dc_zP 14 (0, true, false, true) := ⟨rfl, (fun _ => dc_Cof rfl rfl), (fun e => by cases e), (fun _ => ⟨dcn_0, Nat.le_of_ble_eq_true rfl, dcd_33⟩)⟩
theorem dz_15 : dc_zP 15 (0, true, false, true) := ⟨rfl, (fun _ => dc_Cof rfl rfl), (fun e => by cases e), (fun _ => ⟨dcn_0, Nat.le_of_ble_eq_true rfl, dcd_32⟩)⟩
theorem dz_16 : dc_zP 16 (0, true, false, true) := ⟨rfl, (fun _ => dc_Cof rfl rfl), (fun e => by cases e), (fun _ => ⟨dcn_0, Nat.le_of_ble_eq_true rfl, dcd_34⟩)⟩
theorem dz_17 : dc_zP 17 (0, true, false, true) := ⟨rfl, (fun _ => dc_Cof rfl rfl), (fun e => by cases e), (fun _ => ⟨dcn_0, Nat.le_of_ble_eq_true rfl, dcd_5⟩)⟩
theorem dz_18 : dc_zP 18 (0, true, false, true) := ⟨rfl, (fun _ => dc_Cof rfl rfl), (fun e => by cases e), (fun _ => ⟨dcn_0, Nat.le_of_ble_eq_true rfl, dcd_0⟩)⟩
theorem dz_19 : dc_zP 19 (0, true, false, true) := ⟨rfl, (fun _ => dc_Cof rfl rfl), (fun e => by cases e), (fun _ => ⟨dcn_0, Nat.le_of_ble_eq_true rfl, dcd_26⟩)⟩
theorem dz_20 : dc_zP 20 (0, true, false, true) := ⟨rfl, (fun _ => dc_Cof rfl rfl), (fun e => by cases e), (fun _ => ⟨dcn_0, Nat.le_of_ble_eq_true rfl, dcd_17⟩)⟩
theorem dz_21 : dc_zP 21 (0, true, false, true) := ⟨rfl, (fun _ => dc_Cof rfl rfl), (fun e => by cases e), (fun _ => ⟨dcn_0, Nat.le_of_ble_eq_true rfl, dcd_17⟩)⟩
theorem dz_22 : dc_zP 22 (0, true, false, true) := ⟨rfl, (fun _ => dc_Cof rfl rfl), (fun e => by cases e), (fun _ => ⟨dcn_0, Nat.le_of_ble_eq_true rfl, dcd_8⟩)⟩
theorem dz_23 : dc_zP 23 (0, true, false, true) := ⟨rfl, (fun _ => dc_Cof rfl rfl), (fun e => by cases e), (fun _ => ⟨dcn_0, Nat.le_of_ble_eq_true rfl, dcd_8⟩)⟩
theorem dz_24 : dc_zP 24 (0, true, false, true) := ⟨rfl, (fun _ => dc_Cof rfl rfl), (fun e => by cases e), (fun _ => ⟨dcn_0, Nat.le_of_ble_eq_true rfl, dcd_8⟩)⟩
theorem dz_25 : dc_zP 25 (0, true, false, true) := ⟨rfl, (fun _ => dc_Cof rfl rfl), (fun e => by cases e), (fun _ => ⟨dcn_0, Nat.le_of_ble_eq_true rfl, dcd_8⟩)⟩
theorem dz_26 : dc_zP 26 (0, true, false, true) := ⟨rfl, (fun _ => dc_Cof rfl rfl), (fun e => by cases e), (fun _ => ⟨dcn_0, Nat.le_of_ble_eq_true rfl, dcd_0⟩)⟩
theorem dz_27 : dc_zP 27 (0, true, false, true) := ⟨rfl, (fun _ => dc_Cof rfl rfl), (fun e => by cases e), (fun _ => ⟨dcn_0, Nat.le_of_ble_eq_true rfl, dcd_8⟩)⟩
theorem dz_28 : dc_zP 28 (1, false, true, true) := ⟨rfl, (fun e => by cases e), (fun _ => rfl), (fun _ => ⟨dcn_1, Nat.le_of_ble_eq_true rfl, dcd_4⟩)⟩
theorem dz_29 : dc_zP 29 (1, true, false, true) := ⟨rfl, (fun _ => dc_Cof rfl rfl), (fun e => by cases e), (fun _ => ⟨dcn_1, Nat.le_of_ble_eq_true rfl, dcd_8⟩)⟩
theorem dz_30 : dc_zP 30 (1, true, false, true) := ⟨rfl, (fun _ => dc_Cof rfl rfl), (fun e => by cases e), (fun _ => ⟨dcn_1, Nat.le_of_ble_eq_true rfl, dcd_11⟩)⟩
theorem dz_31 : dc_zP 31 (1, true, false, true) := ⟨rfl, (fun _ => dc_Cof rfl rfl), (fun e => by cases e), (fun _ => ⟨dcn_1, Nat.le_of_ble_eq_true rfl, dcd_33⟩)⟩
theorem dz_32 : dc_zP 32 (1, true, false, true) := ⟨rfl, (fun _ => dc_Cof rfl rfl), (fun e => by cases e), (fun _ => ⟨dcn_1, Nat.le_of_ble_eq_true rfl, dcd_39⟩)⟩
theorem dz_33 : dc_zP 33 (1, true, false, true) := ⟨rfl, (fun _ => dc_Cof rfl rfl), (fun e => by cases e), (fun _ => ⟨dcn_1, Nat.le_of_ble_eq_true rfl, dcd_0⟩)⟩
theorem dz_34 : dc_zP 34 (2, false, true, true) := ⟨rfl, (fun e => by cases e), (fun _ => rfl), (fun _ => ⟨dcn_2, Nat.le_of_ble_eq_true rfl, dcd_4⟩)⟩
theorem dz_35 : dc_zP 35 (2, true, false, true) := ⟨rfl, (fun _ => dc_Cof rfl rfl), (fun e => by cases e), (fun _ => ⟨dcn_2, Nat.le_of_ble_eq_true rfl, dcd_34⟩)⟩
theorem dz_36 : dc_zP 36 (3, false, true, true) := ⟨rfl, (fun e => by cases e), (fun _ => rfl), (fun _ => ⟨dcn_3, Nat.le_of_ble_eq_true rfl, dcd_4⟩)⟩
theorem dz_37 : dc_zP 37 (3, true, false, true) := ⟨rfl, (fun _ => dc_Cof rfl rfl), (fun e => by cases e), (fun _ => ⟨dcn_3, Nat.le_of_ble_eq_true rfl, dcd_8⟩)⟩
theorem dz_38 : dc_zP 38 (3, true, false, true) := ⟨rfl, (fun _ => dc_Cof rfl rfl), (fun e => by cases e), (fun _ => ⟨dcn_3, Nat.le_of_ble_eq_true rfl, dcd_33⟩)⟩
theorem dz_39 : dc_zP 39 (3, true, false, true) := ⟨rfl, (fun _ => dc_Cof rfl rfl), (fun e => by cases e), (fun _ => ⟨dcn_3, Nat.le_of_ble_eq_true rfl, dcd_32⟩)⟩
theorem dz_40 : dc_zP 40 (3, true, false, true) := ⟨rfl, (fun _ => dc_Cof rfl rfl), (fun e => by cases e), (fun _ => ⟨dcn_3, Nat.le_of_ble_eq_true rfl, dcd_35⟩)⟩
theorem dz_41 : dc_zP 41 (4, false, true, true) := ⟨rfl, (fun e => by cases e), (fun _ => rfl), (fun _ => ⟨dcn_4, Nat.le_of_ble_eq_true rfl, dcd_4⟩)⟩
theorem dz_42 : dc_zP 42 (4, true, false, true) := ⟨rfl, (fun _ => dc_Cof rfl rfl), (fun e => by cases e), (fun _ => ⟨dcn_4, Nat.le_of_ble_eq_true rfl, dcd_12⟩)⟩
theorem dz_43 : dc_zP 43 (4, true, false, true) := ⟨rfl, (fun _ => dc_Cof rfl rfl), (fun e => by cases e), (fun _ => ⟨dcn_4, Nat.le_of_ble_eq_true rfl, dcd_32⟩)⟩
theorem dz_44 : dc_zP 44 (4, true, false, true) := ⟨rfl, (fun _ => dc_Cof rfl rfl), (fun e => by cases e), (fun _ => ⟨dcn_4, Nat.le_of_ble_eq_true rfl, dcd_32⟩)⟩
theorem dz_45 : dc_zP 45 (4, true, false, true) := ⟨rfl, (fun _ => dc_Cof rfl rfl), (fun e => by cases e), (fun _ => ⟨dcn_4, Nat.le_of_ble_eq_true rfl, dcd_32⟩)⟩
theorem dz_46 : dc_zP 46 (4, true, false, true) := ⟨rfl, (fun _ => dc_Cof rfl rfl), (fun e => by cases e), (fun _ => ⟨dcn_4, Nat.le_of_ble_eq_true rfl, dcd_34⟩)⟩
theorem dz_47 : dc_zP 47 (5, false, true, true) := ⟨rfl, (fun e => by cases e), (fun _ => rfl), (fun _ => ⟨dcn_5, Nat.le_of_ble_eq_true rfl, dcd_4⟩)⟩
theorem dz_48 : dc_zP 48 (5, true, false, true) := ⟨rfl, (fun _ => dc_Cof rfl rfl), (fun e => by cases e), (fun _ => ⟨dcn_5, Nat.le_of_ble_eq_true rfl, dcd_33⟩)⟩
theorem dz_49 : dc_zP 49 (5, true, false, true) := ⟨rfl, (fun _ => dc_Cof rfl rfl), (fun e => by cases e), (fun _ => ⟨dcn_5, Nat.le_of_ble_eq_true rfl, dcd_34⟩)⟩
theorem dz_50 : dc_zP 50 (5, true, false, true) := ⟨rfl, (fun _ => dc_Cof rfl rfl), (fun e => by cases e), (fun _ => ⟨dcn_5, Nat.le_of_ble_eq_true rfl, dcd_39⟩)⟩
theorem dz_51 : dc_zP 51 (5, true, false, true) := ⟨rfl, (fun _ => dc_Cof rfl rfl), (fun e => by cases e), (fun _ => ⟨dcn_5, Nat.le_of_ble_eq_true rfl, dcd_34⟩)⟩
theorem dz_52 : dc_zP 52 (5, true, false, true) := ⟨rfl, (fun _ => dc_Cof rfl rfl), (fun e => by cases e), (fun _ => ⟨dcn_5, Nat.le_of_ble_eq_true rfl, dcd_37⟩)⟩
theorem dz_53 : dc_zP 53 (5, true, false, true) := ⟨rfl, (fun _ => dc_Cof rfl rfl), (fun e => by cases e), (fun _ => ⟨dcn_5, Nat.le_of_ble_eq_true rfl, dcd_37⟩)⟩
theorem dz_54 : dc_zP 54 (6, false, true, true) := ⟨rfl, (fun e => by cases e), (fun _ => rfl), (fun _ => ⟨dcn_6, Nat.le_of_ble_eq_true rfl, dcd_4⟩)⟩
theorem dz_55 : dc_zP 55 (6, true, false, true) := ⟨rfl, (fun _ => dc_Cof rfl rfl), (fun e => by cases e), (fun _ => ⟨dcn_6, Nat.le_of_ble_eq_true rfl, dcd_21⟩)⟩
theorem dz_56 : dc_zP 56 (6, true, false, true) := ⟨rfl, (fun _ => dc_Cof rfl rfl), (fun e => by cases e), (fun _ => ⟨dcn_6, Nat.le_of_ble_eq_true rfl, dcd_21⟩)⟩
theorem dz_57 : dc_zP 57 (6, true, false, true) := ⟨rfl, (fun _ => dc_Cof rfl rfl), (fun e => by cases e), (fun _ => ⟨dcn_6, Nat.le_of_ble_eq_true rfl, dcd_21⟩)⟩
theorem dz_58 : dc_zP 58 (6, true, false, true) := ⟨rfl, (fun _ => dc_Cof rfl rfl), (fun e => by cases e), (fun _ => ⟨dcn_6, Nat.le_of_ble_eq_true rfl, dcd_21⟩)⟩
theorem dz_59 : dc_zP 59 (6, true, false, true) := ⟨rfl, (fun _ => dc_Cof rfl rfl), (fun e => by cases e), (fun _ => ⟨dcn_6, Nat.le_of_ble_eq_true rfl, dcd_23⟩)⟩
theorem dz_60 : dc_zP 60 (6, true, false, true) := ⟨rfl, (fun _ => dc_Cof rfl rfl), (fun e => by cases e), (fun _ => ⟨dcn_6, Nat.le_of_ble_eq_true rfl, dcd_18⟩)⟩
theorem dz_61 : dc_zP 61 (6, true, false, true) := ⟨rfl, (fun _ => dc_Cof rfl rfl), (fun e => by cases e), (fun _ => ⟨dcn_6, Nat.le_of_ble_eq_true rfl, dcd_21⟩)⟩
theorem dz_62 : dc_zP 62 (6, true, false, true) := ⟨rfl, (fun _ => dc_Cof rfl rfl), (fun e => by cases e), (fun _ => ⟨dcn_6, Nat.le_of_ble_eq_true rfl, dcd_15⟩)⟩
theorem dz_63 : dc_zP 63 (6, true, false, true) := ⟨rfl, (fun _ => dc_Cof rfl rfl), (fun e => by cases e), (fun _ => ⟨dcn_6, Nat.le_of_ble_eq_true rfl, dcd_28⟩)⟩
theorem dz_64 : dc_zP 64 (6, true, false, true) := ⟨rfl, (fun _ => dc_Cof rfl rfl), (fun e => by cases e), (fun _ => ⟨dcn_6, Nat.le_of_ble_eq_true rfl, dcd_8⟩)⟩
theorem dz_65 : dc_zP 65 (6, true, false, true) := ⟨rfl, (fun _ => dc_Cof rfl rfl), (fun e => by cases e), (fun _ => ⟨dcn_6, Nat.le_of_ble_eq_true rfl, dcd_15⟩)⟩
theorem dz_66 : dc_zP 66 (6, true, false, true) := ⟨rfl, (fun _ => dc_Cof rfl rfl), (fun e => by cases e), (fun _ => ⟨dcn_6, Nat.le_of_ble_eq_true rfl, dcd_15⟩)⟩
theorem dz_67 : dc_zP 67 (6, true, false, true) := ⟨rfl, (fun _ => dc_Cof rfl rfl), (fun e => by cases e), (fun _ => ⟨dcn_6, Nat.le_of_ble_eq_true rfl, dcd_25⟩)⟩
theorem dz_68 : dc_zP 68 (6, true, false, true) := ⟨rfl, (fun _ => dc_Cof rfl rfl), (fun e => by cases e), (fun _ => ⟨dcn_6, Nat.le_of_ble_eq_true rfl, dcd_18⟩)⟩
theorem dz_69 : dc_zP 69 (6, true, false, true) := ⟨rfl, (fun _ => dc_Cof rfl rfl), (fun e => by cases e), (fun _ => ⟨dcn_6, Nat.le_of_ble_eq_true rfl, dcd_15⟩)⟩
theorem dz_70 : dc_zP 70 (6, true, false, true) := ⟨rfl, (fun _ => dc_Cof rfl rfl), (fun e => by cases e), (fun _ => ⟨dcn_6, Nat.le_of_ble_eq_true rfl, dcd_18⟩)⟩
theorem dz_71 : dc_zP 71 (6, true, false, true) := ⟨rfl, (fun _ => dc_Cof rfl rfl), (fun e => by cases e), (fun _ => ⟨dcn_6, Nat.le_of_ble_eq_true rfl, dcd_15⟩)⟩
theorem dz_72 : dc_zP 72 (6, true, false, true) := ⟨rfl, (fun _ => dc_Cof rfl rfl), (fun e => by cases e), (fun _ => ⟨dcn_6, Nat.le_of_ble_eq_true rfl, dcd_54⟩)⟩
theorem dz_73 : dc_zP 73 (6, true, false, true) := ⟨rfl, (fun _ => dc_Cof rfl rfl), (fun e => by cases e), (fun _ => ⟨dcn_6, Nat.le_of_ble_eq_true rfl, dcd_0⟩)⟩
theorem dz_74 : dc_zP 74 (6, true, false, true) := ⟨rfl, (fun _ => dc_Cof rfl rfl), (fun e => by cases e), (fun _ => ⟨dcn_6, Nat.le_of_ble_eq_true rfl, dcd_8⟩)⟩
theorem dz_75 : dc_zP 75 (6, true, false, true) := ⟨rfl, (fun _ => dc_Cof rfl rfl), (fun e => by cases e), (fun _ => ⟨dcn_6, Nat.le_of_ble_eq_true rfl, dcd_3⟩)⟩
theorem dz_76 : dc_zP 76 (6, true, false, true) := ⟨rfl, (fun _ => dc_Cof rfl rfl), (fun e => by cases e), (fun _ => ⟨dcn_6, Nat.le_of_ble_eq_true rfl, dcd_8⟩)⟩
theorem dz_77 : dc_zP 77 (6, true, false, true) := ⟨rfl, (fun _ => dc_Cof rfl rfl), (fun e => by cases e), (fun _ => ⟨dcn_6, Nat.le_of_ble_eq_true rfl, dcd_0⟩)⟩
theorem dz_78 : dc_zP 78 (6, true, false, true) := ⟨rfl, (fun _ => dc_Cof rfl rfl), (fun e => by cases e), (fun _ => ⟨dcn_6, Nat.le_of_ble_eq_true rfl, dcd_8⟩)⟩
theorem dz_79 : dc_zP 79 (6, true, false, true) := ⟨rfl, (fun _ => dc_Cof rfl rfl), (fun e => by cases e), (fun _ => ⟨dcn_6, Nat.le_of_ble_eq_true rfl, dcd_0⟩)⟩
theorem dz_80 : dc_zP 80 (6, true, false, true) := ⟨rfl, (fun _ => dc_Cof rfl rfl), (fun e => by cases e), (fun _ => ⟨dcn_6, Nat.le_of_ble_eq_true rfl, dcd_15⟩)⟩
theorem dz_81 : dc_zP 81 (6, true, false, true) := ⟨rfl, (fun _ => dc_Cof rfl rfl), (fun e => by cases e), (fun _ => ⟨dcn_6, Nat.le_of_ble_eq_true rfl, dcd_21⟩)⟩
theorem dz_82 : dc_zP 82 (6, true, false, true) := ⟨rfl, (fun _ => dc_Cof rfl rfl), (fun e => by cases e), (fun _ => ⟨dcn_6, Nat.le_of_ble_eq_true rfl, dcd_20⟩)⟩
theorem dz_83 : dc_zP 83 (6, true, false, true) := ⟨rfl, (fun _ => dc_Cof rfl rfl), (fun e => by cases e), (fun _ => ⟨dcn_6, Nat.le_of_ble_eq_true rfl, dcd_17⟩)⟩
theorem dz_84 : dc_zP 84 (6, true, false, true) := ⟨rfl, (fun _ => dc_Cof rfl rfl), (fun e => by cases e), (fun _ => ⟨dcn_6, Nat.le_of_ble_eq_true rfl, dcd_21⟩)⟩
theorem dz_85 : dc_zP 85 (6, true, false, true) := ⟨rfl, (fun _ => dc_Cof rfl rfl), (fun e => by cases e), (fun _ => ⟨dcn_6, Nat.le_of_ble_eq_true rfl, dcd_21⟩)⟩
theorem dz_86 : dc_zP 86 (6, true, false, true) := ⟨rfl, (fun _ => dc_Cof rfl rfl), (fun e => by cases e), (fun _ => ⟨dcn_6, Nat.le_of_ble_eq_true rfl, dcd_23⟩)⟩
theorem dz_87 : dc_zP 87 (6, true, false, true) := ⟨rfl, (fun _ => dc_Cof rfl rfl), (fun e => by cases e), (fun _ => ⟨dcn_6, Nat.le_of_ble_eq_true rfl, dcd_29⟩)⟩
theorem dz_88 : dc_zP 88 (6, true, false, true) := ⟨rfl, (fun _ => dc_Cof rfl rfl), (fun e => by cases e), (fun _ => ⟨dcn_6, Nat.le_of_ble_eq_true rfl, dcd_17⟩)⟩
theorem dz_89 : dc_zP 89 (6, true, false, true) := ⟨rfl, (fun _ => dc_Cof rfl rfl), (fun e => by cases e), (fun _ => ⟨dcn_6, Nat.le_of_ble_eq_true rfl, dcd_8⟩)⟩
theorem dz_90 : dc_zP 90 (6, true, false, true) := ⟨rfl, (fun _ => dc_Cof rfl rfl), (fun e => by cases e), (fun _ => ⟨dcn_6, Nat.le_of_ble_eq_true rfl, dcd_15⟩)⟩
theorem dz_91 : dc_zP 91 (6, true, false, true) := ⟨rfl, (fun _ => dc_Cof rfl rfl), (fun e => by cases e), (fun _ => ⟨dcn_6, Nat.le_of_ble_eq_true rfl, dcd_15⟩)⟩
theorem dz_92 : dc_zP 92 (6, true, false, true) := ⟨rfl, (fun _ => dc_Cof rfl rfl), (fun e => by cases e), (fun _ => ⟨dcn_6, Nat.le_of_ble_eq_true rfl, dcd_15⟩)⟩
theorem dz_93 : dc_zP 93 (6, true, false, true) := ⟨rfl, (fun _ => dc_Cof rfl rfl), (fun e => by cases e), (fun _ => ⟨dcn_6, Nat.le_of_ble_eq_true rfl, dcd_15⟩)⟩
theorem dz_94 : dc_zP 94 (6, true, false, true) := ⟨rfl, (fun _ => dc_Cof rfl rfl), (fun e => by cases e), (fun _ => ⟨dcn_6, Nat.le_of_ble_eq_true rfl, dcd_28⟩)⟩
theorem dz_95 : dc_zP 95 (6, true, false, true) := ⟨rfl, (fun _ => dc_Cof rfl rfl), (fun e => by cases e), (fun _ => ⟨dcn_6, Nat.le_of_ble_eq_true rfl, dcd_8⟩)⟩
theorem dz_96 : dc_zP 96 (6, true, false, true) := ⟨rfl, (fun _ => dc_Cof rfl rfl), (fun e => by cases e), (fun _ => ⟨dcn_6, Nat.le_of_ble_eq_true rfl, dcd_18⟩)⟩
theorem dz_97 : dc_zP 97 (6, true, false, true) := ⟨rfl, (fun _ => dc_Cof rfl rfl), (fun e => by cases e), (fun _ => ⟨dcn_6, Nat.le_of_ble_eq_true rfl, dcd_18⟩)⟩
theorem dz_98 : dc_zP 98 (6, true, false, true) := ⟨rfl, (fun _ => dc_Cof rfl rfl), (fun e => by cases e), (fun _ => ⟨dcn_6, Nat.le_of_ble_eq_true rfl, dcd_21⟩)⟩
theorem dz_99 : dc_zP 99 (6, true, false, true) := ⟨rfl, (fun _ => dc_Cof rfl rfl), (fun e => by cases e), (fun _ => ⟨dcn_6, Nat.le_of_ble_eq_true rfl, dcd_8⟩)⟩
theorem dz_100 : dc_zP 100 (6, true, false, true) := ⟨rfl, (fun _ => dc_Cof rfl rfl), (fun e => by cases e), (fun _ => ⟨dcn_6, Nat.le_of_ble_eq_true rfl, dcd_0⟩)⟩
theorem dz_101 : dc_zP 101 (6, true, false, true) := ⟨rfl, (fun _ => dc_Cof rfl rfl), (fun e => by cases e), (fun _ => ⟨dcn_6, Nat.le_of_ble_eq_true rfl, dcd_5⟩)⟩
theorem dz_102 : dc_zP 102 (6, true, false, true) := ⟨rfl, (fun _ => dc_Cof rfl rfl), (fun e => by cases e), (fun _ => ⟨dcn_6, Nat.le_of_ble_eq_true rfl, dcd_1⟩)⟩
theorem dz_103 : dc_zP 103 (6, true, false, true) := ⟨rfl, (fun _ => dc_Cof rfl rfl), (fun e => by cases e), (fun _ => ⟨dcn_6, Nat.le_of_ble_eq_true rfl, dcd_31⟩)⟩
theorem dz_104 : dc_zP 104 (6, true, false, true) := ⟨rfl, (fun _ => dc_Cof rfl rfl), (fun e => by cases e), (fun _ => ⟨dcn_6, Nat.le_of_ble_eq_true rfl, dcd_31⟩)⟩
theorem dz_105 : dc_zP 105 (6, true, false, true) := ⟨rfl, (fun _ => dc_Cof rfl rfl), (fun e => by cases e), (fun _ => ⟨dcn_6, Nat.le_of_ble_eq_true rfl, dcd_0⟩)⟩
theorem dz_106 : dc_zP 106 (6, true, false, true) := ⟨rfl, (fun _ => dc_Cof rfl rfl), (fun e => by cases e), (fun _ => ⟨dcn_6, Nat.le_of_ble_eq_true rfl, dcd_0⟩)⟩
theorem dz_107 : dc_zP 107 (6, true, false, true) := ⟨rfl, (fun _ => dc_Cof rfl rfl), (fun e => by cases e), (fun _ => ⟨dcn_6, Nat.le_of_ble_eq_true rfl, dcd_0⟩)⟩
theorem dz_108 : dc_zP 108 (6, true, false, true) := ⟨rfl, (fun _ => dc_Cof rfl rfl), (fun e => by cases e), (fun _ => ⟨dcn_6, Nat.le_of_ble_eq_true rfl, dcd_38⟩)⟩
theorem dz_109 : dc_zP 109 (6, true, false, true) := ⟨rfl, (fun _ => dc_Cof rfl rfl), (fun e => by cases e), (fun _ => ⟨dcn_6, Nat.le_of_ble_eq_true rfl, dcd_40⟩)⟩
theorem dz_110 : dc_zP 110 (6, false, false, true) := ⟨rfl, (fun e => by cases e), (fun e => by cases e), (fun _ => ⟨dcn_6, Nat.le_of_ble_eq_true rfl, dcd_35⟩)⟩
theorem dz_111 : dc_zP 111 (6, false, false, true) := ⟨rfl, (fun e => by cases e), (fun e => by cases e), (fun _ => ⟨dcn_6, Nat.le_of_ble_eq_true rfl, dcd_41⟩)⟩
theorem dz_112 : dc_zP 112 (6, false, false, true) := ⟨rfl, (fun e => by cases e), (fun e => by cases e), (fun _ => ⟨dcn_6, Nat.le_of_ble_eq_true rfl, dcd_12⟩)⟩
theorem dz_113 : dc_zP 113 (6, true, false, true) := ⟨rfl, (fun _ => dc_Cof rfl rfl), (fun e => by cases e), (fun _ => ⟨dcn_6, Nat.le_of_ble_eq_true rfl, dcd_9⟩)⟩
theorem dz_114 : dc_zP 114 (6, true, false, true) := ⟨rfl, (fun _ => dc_Cof rfl rfl), (fun e => by cases e), (fun _ => ⟨dcn_6, Nat.le_of_ble_eq_true rfl, dcd_2⟩)⟩
theorem dz_115 : dc_zP 115 (6, true, false, true) := ⟨rfl, (fun _ => dc_Cof rfl rfl), (fun e => by cases e), (fun _ => ⟨dcn_6, Nat.le_of_ble_eq_true rfl, dcd_2⟩)⟩
theorem dz_116 : dc_zP 116 (6, false, false, true) := ⟨rfl, (fun e => by cases e), (fun e => by cases e), (fun _ => ⟨dcn_6, Nat.le_of_ble_eq_true rfl, dcd_15⟩)⟩
theorem dz_117 : dc_zP 117 (6, false, false, true) := ⟨rfl, (fun e => by cases e), (fun e => by cases e), (fun _ => ⟨dcn_6, Nat.le_of_ble_eq_true rfl, dcd_16⟩)⟩
theorem dz_118 : dc_zP 118 (6, false, false, true) := ⟨rfl, (fun e => by cases e), (fun e => by cases e), (fun _ => ⟨dcn_6, Nat.le_of_ble_eq_true rfl, dcd_11⟩)⟩
theorem dz_119 : dc_zP 119 (6, false, false, true) := ⟨rfl, (fun e => by cases e), (fun e => by cases e), (fun _ => ⟨dcn_6, Nat.le_of_ble_eq_true rfl, dcd_11⟩)⟩
theorem dz_120 : dc_zP 120 (6, false, false, true) := ⟨rfl, (fun e => by cases e), (fun e => by cases e), (fun _ => ⟨dcn_6, Nat.le_of_ble_eq_true rfl, dcd_16⟩)⟩
theorem dz_121 : dc_zP 121 (6, false, false, true) := ⟨rfl, (fun e => by cases e), (fun e => by cases e), (fun _ => ⟨dcn_6, Nat.le_of_ble_eq_true rfl, dcd_11⟩)⟩
theorem dz_122 : dc_zP 122 (6, false, false, true) := ⟨rfl, (fun e => by cases e), (fun e => by cases e), (fun _ => ⟨dcn_6, Nat.le_of_ble_eq_true rfl, dcd_36⟩)⟩
theorem dz_123 : dc_zP 123 (6, false, false, true) := ⟨rfl, (fun e => by cases e), (fun e => by cases e), (fun _ => ⟨dcn_6, Nat.le_of_ble_eq_true rfl, dcd_17⟩)⟩
theorem dz_124 : dc_zP 124 (7, false, true, true) := ⟨rfl, (fun e => by cases e), (fun _ => rfl), (fun _ => ⟨dcn_7, Nat.le_of_ble_eq_true rfl, dcd_4⟩)⟩
theorem dz_125 : dc_zP 125 (8, false, true, true) := ⟨rfl, (fun e => by cases e), (fun _ => rfl), (fun _ => ⟨dcn_8, Nat.le_of_ble_eq_true rfl, dcd_4⟩)⟩
theorem dz_126 : dc_zP 126 (8, true, false, true) := ⟨rfl, (fun _ => dc_Cof rfl rfl), (fun e => by cases e), (fun _ => ⟨dcn_8, Nat.le_of_ble_eq_true rfl, dcd_55⟩)⟩
theorem dz_127 : dc_zP 127 (8, true, false, true) := ⟨rfl, (fun _ => dc_Cof rfl rfl), (fun e => by cases e), (fun _ => ⟨dcn_8, Nat.le_of_ble_eq_true rfl, dcd_55⟩)⟩
theorem dz_128 : dc_zP 128 (8, false, false, true) := ⟨rfl, (fun e => by cases e), (fun e => by cases e), (fun _ => ⟨dcn_8, Nat.le_of_ble_eq_true rfl, dcd_12⟩)⟩
theorem dz_129 : dc_zP 129 (8, false, false, true) := ⟨rfl, (fun e => by cases e), (fun e => by cases e), (fun _ => ⟨dcn_8, Nat.le_of_ble_eq_true rfl, dcd_17⟩)⟩
theorem dz_130 : dc_zP 130 (8, false, false, true) := ⟨rfl, (fun e => by cases e), (fun e => by cases e), (fun _ => ⟨dcn_8, Nat.le_of_ble_eq_true rfl, dcd_12⟩)⟩
theorem dz_131 : dc_zP 131 (8, true, false, true) := ⟨rfl, (fun _ => dc_Cof rfl rfl), (fun e => by cases e), (fun _ => ⟨dcn_8, Nat.le_of_ble_eq_true rfl, dcd_22⟩)⟩
theorem dz_132 : dc_zP 132 (8, true, false, true) := ⟨rfl, (fun _ => dc_Cof rfl rfl), (fun e => by cases e), (fun _ => ⟨dcn_8, Nat.le_of_ble_eq_true rfl, dcd_0⟩)⟩
theorem dz_133 : dc_zP 133 (8, true, false, true) := ⟨rfl, (fun _ => dc_Cof rfl rfl), (fun e => by cases e), (fun _ => ⟨dcn_8, Nat.le_of_ble_eq_true rfl, dcd_15⟩)⟩
theorem dz_134 : dc_zP 134 (8, true, false, true) := ⟨rfl, (fun _ => dc_Cof rfl rfl), (fun e => by cases e), (fun _ => ⟨dcn_8, Nat.le_of_ble_eq_true rfl, dcd_15⟩)⟩
theorem dz_135 : dc_zP 135 (8, true, false, true) := ⟨rfl, (fun _ => dc_Cof rfl rfl), (fun e => by cases e), (fun _ => ⟨dcn_8, Nat.le_of_ble_eq_true rfl, dcd_15⟩)⟩
theorem dz_136 : dc_zP 136 (8, true, false, true) := ⟨rfl, (fun _ => dc_Cof rfl rfl), (fun e => by cases e), (fun _ => ⟨dcn_8, Nat.le_of_ble_eq_true rfl, dcd_15⟩)⟩
theorem dz_137 : dc_zP 137 (8, true, false, true) := ⟨rfl, (fun _ => dc_Cof rfl rfl), (fun e => by cases e), (fun _ => ⟨dcn_8, Nat.le_of_ble_eq_true rfl, dcd_14⟩)⟩
theorem dz_138 : dc_zP 138 (8, true, false, true) := ⟨rfl, (fun _ => dc_Cof rfl rfl), (fun e => by cases e), (fun _ => ⟨dcn_8, Nat.le_of_ble_eq_true rfl, dcd_11⟩)⟩
theorem dz_139 : dc_zP 139 (8, true, false, true) := ⟨rfl, (fun _ => dc_Cof rfl rfl), (fun e => by cases e), (fun _ => ⟨dcn_8, Nat.le_of_ble_eq_true rfl, dcd_19⟩)⟩
theorem dz_140 : dc_zP 140 (8, true, false, true) := ⟨rfl, (fun _ => dc_Cof rfl rfl), (fun e => by cases e), (fun _ => ⟨dcn_8, Nat.le_of_ble_eq_true rfl, dcd_16⟩)⟩
theorem dz_141 : dc_zP 141 (8, true, false, true) := ⟨rfl, (fun _ => dc_Cof rfl rfl), (fun e => by cases e), (fun _ => ⟨dcn_8, Nat.le_of_ble_eq_true rfl, dcd_18⟩)⟩
theorem dz_142 : dc_zP 142 (8, true, false, true) := ⟨rfl, (fun _ => dc_Cof rfl rfl), (fun e => by cases e), (fun _ => ⟨dcn_8, Nat.le_of_ble_eq_true rfl, dcd_15⟩)⟩
theorem dz_143 : dc_zP 143 (8, true, false, true) := ⟨rfl, (fun _ => dc_Cof rfl rfl), (fun e => by cases e), (fun _ => ⟨dcn_8, Nat.le_of_ble_eq_true rfl, dcd_21⟩)⟩
theorem dz_144 : dc_zP 144 (8, true, false, true) := ⟨rfl, (fun _ => dc_Cof rfl rfl), (fun e => by cases e), (fun _ => ⟨dcn_8, Nat.le_of_ble_eq_true rfl, dcd_21⟩)⟩
theorem dz_145 : dc_zP 145 (8, true, false, true) := ⟨rfl, (fun _ => dc_Cof rfl rfl), (fun e => by cases e), (fun _ => ⟨dcn_8, Nat.le_of_ble_eq_true rfl, dcd_21⟩)⟩
theorem dz_146 : dc_zP 146 (8, true, false, true) := ⟨rfl, (fun _ => dc_Cof rfl rfl), (fun e => by cases e), (fun _ => ⟨dcn_8, Nat.le_of_ble_eq_true rfl, dcd_21⟩)⟩
theorem dz_147 : dc_zP 147 (8, true, false, true) := ⟨rfl, (fun _ => dc_Cof rfl rfl), (fun e => by cases e), (fun _ => ⟨dcn_8, Nat.le_of_ble_eq_true rfl, dcd_23⟩)⟩
theorem dz_148 : dc_zP 148 (8, true, false, true) := ⟨rfl, (fun _ => dc_Cof rfl rfl), (fun e => by cases e), (fun _ => ⟨dcn_8, Nat.le_of_ble_eq_true rfl, dcd_18⟩)⟩
theorem dz_149 : dc_zP 149 (8, true, false, true) := ⟨rfl, (fun _ => dc_Cof rfl rfl), (fun e => by cases e), (fun _ => ⟨dcn_8, Nat.le_of_ble_eq_true rfl, dcd_21⟩)⟩
theorem dz_150 : dc_zP 150 (8, true, false, true) := ⟨rfl, (fun _ => dc_Cof rfl rfl), (fun e => by cases e), (fun _ => ⟨dcn_8, Nat.le_of_ble_eq_true rfl, dcd_15⟩)⟩
theorem dz_151 : dc_zP 151 (8, true, false, true) := ⟨rfl, (fun _ => dc_Cof rfl rfl), (fun e => by cases e), (fun _ => ⟨dcn_8, Nat.le_of_ble_eq_true rfl, dcd_28⟩)⟩
theorem dz_152 : dc_zP 152 (8, true, false, true) := ⟨rfl, (fun _ => dc_Cof rfl rfl), (fun e => by cases e), (fun _ => ⟨dcn_8, Nat.le_of_ble_eq_true rfl, dcd_8⟩)⟩
theorem dz_153 : dc_zP 153 (8, true, false, true) := ⟨rfl, (fun _ => dc_Cof rfl rfl), (fun e => by cases e), (fun _ => ⟨dcn_8, Nat.le_of_ble_eq_true rfl, dcd_15⟩)⟩
theorem dz_154 : dc_zP 154 (8, true, false, true) := ⟨rfl, (fun _ => dc_Cof rfl rfl), (fun e => by cases e), (fun _ => ⟨dcn_8, Nat.le_of_ble_eq_true rfl, dcd_15⟩)⟩
theorem dz_155 : dc_zP 155 (8, true, false, true) := ⟨rfl, (fun _ => dc_Cof rfl rfl), (fun e => by cases e), (fun _ => ⟨dcn_8, Nat.le_of_ble_eq_true rfl, dcd_25⟩)⟩
theorem dz_156 : dc_zP 156 (8, true, false, true) := ⟨rfl, (fun _ => dc_Cof rfl rfl), (fun e => by cases e), (fun _ => ⟨dcn_8, Nat.le_of_ble_eq_true rfl, dcd_12⟩)⟩
theorem dz_157 : dc_zP 157 (8, true, false, true) := ⟨rfl, (fun _ => dc_Cof rfl rfl), (fun e => by cases e), (fun _ => ⟨dcn_8, Nat.le_of_ble_eq_true rfl, dcd_0⟩)⟩
theorem dz_158 : dc_zP 158 (8, true, false, true) := ⟨rfl, (fun _ => dc_Cof rfl rfl), (fun e => by cases e), (fun _ => ⟨dcn_8, Nat.le_of_ble_eq_true rfl, dcd_54⟩)⟩
theorem dz_159 : dc_zP 159 (8, true, false, true) := ⟨rfl, (fun _ => dc_Cof rfl rfl), (fun e => by cases e), (fun _ => ⟨dcn_8, Nat.le_of_ble_eq_true rfl, dcd_18⟩)⟩
theorem dz_160 : dc_zP 160 (8, true, false, true) := ⟨rfl, (fun _ => dc_Cof rfl rfl), (fun e => by cases e), (fun _ => ⟨dcn_8, Nat.le_of_ble_eq_true rfl, dcd_15⟩)⟩
theorem dz_161 : dc_zP 161 (8, true, false, true) := ⟨rfl, (fun _ => dc_Cof rfl rfl), (fun e => by cases e), (fun _ => ⟨dcn_8, Nat.le_of_ble_eq_true rfl, dcd_18⟩)⟩
theorem dz_162 : dc_zP 162 (8, true, false, true) := ⟨rfl, (fun _ => dc_Cof rfl rfl), (fun e => by cases e), (fun _ => ⟨dcn_8, Nat.le_of_ble_eq_true rfl, dcd_15⟩)⟩
theorem dz_163 : dc_zP 163 (8, true, false, true) := ⟨rfl, (fun _ => dc_Cof rfl rfl), (fun e => by cases e), (fun _ => ⟨dcn_8, Nat.le_of_ble_eq_true rfl, dcd_54⟩)⟩
theorem dz_164 : dc_zP 164 (8, true, false, true) := ⟨rfl, (fun _ => dc_Cof rfl rfl), (fun e => by cases e), (fun _ => ⟨dcn_8, Nat.le_of_ble_eq_true rfl, dcd_0⟩)⟩
theorem dz_165 : dc_zP 165 (8, true, false, true) := ⟨rfl, (fun _ => dc_Cof rfl rfl), (fun e => by cases e), (fun _ => ⟨dcn_8, Nat.le_of_ble_eq_true rfl, dcd_8⟩)⟩
theorem dz_166 : dc_zP 166 (8, true, false, true) := ⟨rfl, (fun _ => dc_Cof rfl rfl), (fun e => by cases e), (fun _ => ⟨dcn_8, Nat.le_of_ble_eq_true rfl, dcd_8⟩)⟩
theorem dz_167 : dc_zP 167 (8, true, false, true) := ⟨rfl, (fun _ => dc_Cof rfl rfl), (fun e => by cases e), (fun _ => ⟨dcn_8, Nat.le_of_ble_eq_true rfl, dcd_3⟩)⟩
theorem dz_168 : dc_zP 168 (8, true, false, true) := ⟨rfl, (fun _ => dc_Cof rfl rfl), (fun e => by cases e), (fun _ => ⟨dcn_8, Nat.le_of_ble_eq_true rfl, dcd_8⟩)⟩
theorem dz_169 : dc_zP 169 (8, true, false, true) := ⟨rfl, (fun _ => dc_Cof rfl rfl), (fun e => by cases e), (fun _ => ⟨dcn_8, Nat.le_of_ble_eq_true rfl, dcd_0⟩)⟩
theorem dz_170 : dc_zP 170 (8, true, false, true) := ⟨rfl, (fun _ => dc_Cof rfl rfl), (fun e => by cases e), (fun _ => ⟨dcn_8, Nat.le_of_ble_eq_true rfl, dcd_8⟩)⟩
theorem dz_171 : dc_zP 171 (8, true, false, true) := ⟨rfl, (fun _ => dc_Cof rfl rfl), (fun e => by cases e), (fun _ => ⟨dcn_8, Nat.le_of_ble_eq_true rfl, dcd_0⟩)⟩
theorem dz_172 : dc_zP 172 (8, true, false, true) := ⟨rfl, (fun _ => dc_Cof rfl rfl), (fun e => by cases e), (fun _ => ⟨dcn_8, Nat.le_of_ble_eq_true rfl, dcd_15⟩)⟩
theorem dz_173 : dc_zP 173 (8, true, false, true) := ⟨rfl, (fun _ => dc_Cof rfl rfl), (fun e => by cases e), (fun _ => ⟨dcn_8, Nat.le_of_ble_eq_true rfl, dcd_15⟩)⟩
theorem dz_174 : dc_zP 174 (8, true, false, true) := ⟨rfl, (fun _ => dc_Cof rfl rfl), (fun e => by cases e), (fun _ => ⟨dcn_8, Nat.le_of_ble_eq_true rfl, dcd_21⟩)⟩
theorem dz_175 : dc_zP 175 (8, true, false, true) := ⟨rfl, (fun _ => dc_Cof rfl rfl), (fun e => by cases e), (fun _ => ⟨dcn_8, Nat.le_of_ble_eq_true rfl, dcd_20⟩)⟩
theorem dz_176 : dc_zP 176 (8, true, false, true) := ⟨rfl, (fun _ => dc_Cof rfl rfl), (fun e => by cases e), (fun _ => ⟨dcn_8, Nat.le_of_ble_eq_true rfl, dcd_17⟩)⟩
theorem dz_177 : dc_zP 177 (8, false, false, true) := ⟨rfl, (fun e => by cases e), (fun e => by cases e), (fun _ => ⟨dcn_8, Nat.le_of_ble_eq_true rfl, dcd_20⟩)⟩
theorem dz_178 : dc_zP 178 (8, true, false, true) := ⟨rfl, (fun _ => dc_Cof rfl rfl), (fun e => by cases e), (fun _ => ⟨dcn_8, Nat.le_of_ble_eq_true rfl, dcd_18⟩)⟩
theorem dz_179 : dc_zP 179 (8, true, false, true) := ⟨rfl, (fun _ => dc_Cof rfl rfl), (fun e => by cases e), (fun _ => ⟨dcn_8, Nat.le_of_ble_eq_true rfl, dcd_21⟩)⟩
theorem dz_180 : dc_zP 180 (8, true, false, true) := ⟨rfl, (fun _ => dc_Cof rfl rfl), (fun e => by cases e), (fun _ => ⟨dcn_8, Nat.le_of_ble_eq_true rfl, dcd_21⟩)⟩
theorem dz_181 : dc_zP 181 (8, true, false, true) := ⟨rfl, (fun _ => dc_Cof rfl rfl), (fun e => by cases e), (fun _ => ⟨dcn_8, Nat.le_of_ble_eq_true rfl, dcd_23⟩)⟩
theorem dz_182 : dc_zP 182 (8, true, false, true) := ⟨rfl, (fun _ => dc_Cof rfl rfl), (fun e => by cases e), (fun _ => ⟨dcn_8, Nat.le_of_ble_eq_true rfl, dcd_30⟩)⟩
theorem dz_183 : dc_zP 183 (8, true, false, true) := ⟨rfl, (fun _ => dc_Cof rfl rfl), (fun e => by cases e), (fun _ => ⟨dcn_8, Nat.le_of_ble_eq_true rfl, dcd_29⟩)⟩
theorem dz_184 : dc_zP 184 (8, true, false, true) := ⟨rfl, (fun _ => dc_Cof rfl rfl), (fun e => by cases e), (fun _ => ⟨dcn_8, Nat.le_of_ble_eq_true rfl, dcd_17⟩)⟩
theorem dz_185 : dc_zP 185 (8, false, false, true) := ⟨rfl, (fun e => by cases e), (fun e => by cases e), (fun _ => ⟨dcn_8, Nat.le_of_ble_eq_true rfl, dcd_17⟩)⟩
theorem dz_186 : dc_zP 186 (8, false, false, true) := ⟨rfl, (fun e => by cases e), (fun e => by cases e), (fun _ => ⟨dcn_8, Nat.le_of_ble_eq_true rfl, dcd_17⟩)⟩
theorem dz_187 : dc_zP 187 (8, false, false, true) := ⟨rfl, (fun e => by cases e), (fun e => by cases e), (fun _ => ⟨dcn_8, Nat.le_of_ble_eq_true rfl, dcd_17⟩)⟩
theorem dz_188 : dc_zP 188 (8, false, false, true) := ⟨rfl, (fun e => by cases e), (fun e => by cases e), (fun _ => ⟨dcn_8, Nat.le_of_ble_eq_true rfl, dcd_8⟩)⟩
theorem dz_189 : dc_zP 189 (8, true, false, true) := ⟨rfl, (fun _ => dc_Cof rfl rfl), (fun e => by cases e), (fun _ => ⟨dcn_8, Nat.le_of_ble_eq_true rfl, dcd_15⟩)⟩
theorem dz_190 : dc_zP 190 (8, true, false, true) := ⟨rfl, (fun _ => dc_Cof rfl rfl), (fun e => by cases e), (fun _ => ⟨dcn_8, Nat.le_of_ble_eq_true rfl, dcd_8⟩)⟩
theorem dz_191 : dc_zP 191 (8, true, false, true) := ⟨rfl, (fun _ => dc_Cof rfl rfl), (fun e => by cases e), (fun _ => ⟨dcn_8, Nat.le_of_ble_eq_true rfl, dcd_8⟩)⟩
theorem dz_192 : dc_zP 192 (8, true, false, true) := ⟨rfl, (fun _ => dc_Cof rfl rfl), (fun e => by cases e), (fun _ => ⟨dcn_8, Nat.le_of_ble_eq_true rfl, dcd_15⟩)⟩
theorem dz_193 : dc_zP 193 (8, true, false, true) := ⟨rfl, (fun _ => dc_Cof rfl rfl), (fun e => by cases e), (fun _ => ⟨dcn_8, Nat.le_of_ble_eq_true rfl, dcd_17⟩)⟩
theorem dz_194 : dc_zP 194 (8, false, false, true) := ⟨rfl, (fun e => by cases e), (fun e => by cases e), (fun _ => ⟨dcn_8, Nat.le_of_ble_eq_true rfl, dcd_62⟩)⟩
theorem dz_195 : dc_zP 195 (8, true, false, true) := ⟨rfl, (fun _ => dc_Cof rfl rfl), (fun e => by cases e), (fun _ => ⟨dcn_8, Nat.le_of_ble_eq_true rfl, dcd_15⟩)⟩
theorem dz_196 : dc_zP 196 (8, false, false, true) := ⟨rfl, (fun e => by cases e), (fun e => by cases e), (fun _ => ⟨dcn_8, Nat.le_of_ble_eq_true rfl, dcd_61⟩)⟩
theorem dz_197 : dc_zP 197 (8, true, false, true) := ⟨rfl, (fun _ => dc_Cof rfl rfl), (fun e => by cases e), (fun _ => ⟨dcn_8, Nat.le_of_ble_eq_true rfl, dcd_15⟩)⟩
theorem dz_198 : dc_zP 198 (8, true, false, true) := ⟨rfl, (fun _ => dc_Cof rfl rfl), (fun e => by cases e), (fun _ => ⟨dcn_8, Nat.le_of_ble_eq_true rfl, dcd_15⟩)⟩
theorem dz_199 : dc_zP 199 (8, true, false, true) := ⟨rfl, (fun _ => dc_Cof rfl rfl), (fun e => by cases e), (fun _ => ⟨dcn_8, Nat.le_of_ble_eq_true rfl, dcd_15⟩)⟩
theorem dz_200 : dc_zP 200 (8, true, false, true) := ⟨rfl, (fun _ => dc_Cof rfl rfl), (fun e => by cases e), (fun _ => ⟨dcn_8, Nat.le_of_ble_eq_true rfl, dcd_15⟩)⟩
theorem dz_201 : dc_zP 201 (8, true, false, true) := ⟨rfl, (fun _ => dc_Cof rfl rfl), (fun e => by cases e), (fun _ => ⟨dcn_8, Nat.le_of_ble_eq_true rfl, dcd_28⟩)⟩
theorem dz_202 : dc_zP 202 (8, true, false, true) := ⟨rfl, (fun _ => dc_Cof rfl rfl), (fun e => by cases e), (fun _ => ⟨dcn_8, Nat.le_of_ble_eq_true rfl, dcd_28⟩)⟩
theorem dz_203 : dc_zP 203 (8, false, false, true) := ⟨rfl, (fun e => by cases e), (fun e => by cases e), (fun _ => ⟨dcn_8, Nat.le_of_ble_eq_true rfl, dcd_65⟩)⟩
theorem dz_204 : dc_zP 204 (8, false, false, true) := ⟨rfl, (fun e => by cases e), (fun e => by cases e), (fun _ => ⟨dcn_8, Nat.le_of_ble_eq_true rfl, dcd_60⟩)⟩
theorem dz_205 : dc_zP 205 (8, true, false, true) := ⟨rfl, (fun _ => dc_Cof rfl rfl), (fun e => by cases e), (fun _ => ⟨dcn_8, Nat.le_of_ble_eq_true rfl, dcd_8⟩)⟩
theorem dz_206 : dc_zP 206 (8, true, false, true) := ⟨rfl, (fun _ => dc_Cof rfl rfl), (fun e => by cases e), (fun _ => ⟨dcn_8, Nat.le_of_ble_eq_true rfl, dcd_8⟩)⟩
theorem dz_207 : dc_zP 207 (8, true, false, true) := ⟨rfl, (fun _ => dc_Cof rfl rfl), (fun e => by cases e), (fun _ => ⟨dcn_8, Nat.le_of_ble_eq_true rfl, dcd_15⟩)⟩
theorem dz_208 : dc_zP 208 (8, true, false, true) := ⟨rfl, (fun _ => dc_Cof rfl rfl), (fun e => by cases e), (fun _ => ⟨dcn_8, Nat.le_of_ble_eq_true rfl, dcd_18⟩)⟩
theorem dz_209 : dc_zP 209 (8, true, false, true) := ⟨rfl, (fun _ => dc_Cof rfl rfl), (fun e => by cases e), (fun _ => ⟨dcn_8, Nat.le_of_ble_eq_true rfl, dcd_15⟩)⟩
theorem dz_210 : dc_zP 210 (8, true, false, true) := ⟨rfl, (fun _ => dc_Cof rfl rfl), (fun e => by cases e), (fun _ => ⟨dcn_8, Nat.le_of_ble_eq_true rfl, dcd_18⟩)⟩
theorem dz_211 : dc_zP 211 (8, true, false, true) := ⟨rfl, (fun _ => dc_Cof rfl rfl), (fun e => by cases e), (fun _ => ⟨dcn_8, Nat.le_of_ble_eq_true rfl, dcd_18⟩)⟩
theorem dz_212 : dc_zP 212 (8, true, false, true) := ⟨rfl, (fun _ => dc_Cof rfl rfl), (fun e => by cases e), (fun _ => ⟨dcn_8, Nat.le_of_ble_eq_true rfl, dcd_21⟩)⟩
theorem dz_213 : dc_zP 213 (8, true, false, true) := ⟨rfl, (fun _ => dc_Cof rfl rfl), (fun e => by cases e), (fun _ => ⟨dcn_8, Nat.le_of_ble_eq_true rfl, dcd_8⟩)⟩
theorem dz_214 : dc_zP 214 (8, true, false, true) := ⟨rfl, (fun _ => dc_Cof rfl rfl), (fun e => by cases e), (fun _ => ⟨dcn_8, Nat.le_of_ble_eq_true rfl, dcd_8⟩)⟩
theorem dz_215 : dc_zP 215 (8, true, false, true) := ⟨rfl, (fun _ => dc_Cof rfl rfl), (fun e => by cases e), (fun _ => ⟨dcn_8, Nat.le_of_ble_eq_true rfl, dcd_0⟩)⟩
theorem dz_216 : dc_zP 216 (8, false, false, true) := ⟨rfl, (fun e => by cases e), (fun e => by cases e), (fun _ => ⟨dcn_8, Nat.le_of_ble_eq_true rfl, dcd_62⟩)⟩
theorem dz_217 : dc_zP 217 (8, false, false, true) := ⟨rfl, (fun e => by cases e), (fun e => by cases e), (fun _ => ⟨dcn_8, Nat.le_of_ble_eq_true rfl, dcd_63⟩)⟩
theorem dz_218 : dc_zP 218 (8, false, false, true) := ⟨rfl, (fun e => by cases e), (fun e => by cases e), (fun _ => ⟨dcn_8, Nat.le_of_ble_eq_true rfl, dcd_64⟩)⟩
theorem dz_219 : dc_zP 219 (8, true, false, true) := ⟨rfl, (fun _ => dc_Cof rfl rfl), (fun e => by cases e), (fun _ => ⟨dcn_8, Nat.le_of_ble_eq_true rfl, dcd_12⟩)⟩
theorem dz_220 : dc_zP 220 (8, true, false, true) := ⟨rfl, (fun _ => dc_Cof rfl rfl), (fun e => by cases e), (fun _ => ⟨dcn_8, Nat.le_of_ble_eq_true rfl, dcd_5⟩)⟩
theorem dz_221 : dc_zP 221 (8, true, false, true) := ⟨rfl, (fun _ => dc_Cof rfl rfl), (fun e => by cases e), (fun _ => ⟨dcn_8, Nat.le_of_ble_eq_true rfl, dcd_5⟩)⟩
theorem dz_222 : dc_zP 222 (8, true, false, true) := ⟨rfl, (fun _ => dc_Cof rfl rfl), (fun e => by cases e), (fun _ => ⟨dcn_8, Nat.le_of_ble_eq_true rfl, dcd_5⟩)⟩
theorem dz_223 : dc_zP 223 (8, true, false, true) := ⟨rfl, (fun _ => dc_Cof rfl rfl), (fun e => by cases e), (fun _ => ⟨dcn_8, Nat.le_of_ble_eq_true rfl, dcd_31⟩)⟩
theorem dz_224 : dc_zP 224 (8, true, false, true) := ⟨rfl, (fun _ => dc_Cof rfl rfl), (fun e => by cases e), (fun _ => ⟨dcn_8, Nat.le_of_ble_eq_true rfl, dcd_1⟩)⟩
theorem dz_225 : dc_zP 225 (9, false, true, true) := ⟨rfl, (fun e => by cases e), (fun _ => rfl), (fun _ => ⟨dcn_9, Nat.le_of_ble_eq_true rfl, dcd_11⟩)⟩
theorem dz_226 : dc_zP 226 (9, false, false, false) := ⟨rfl, (fun e => by cases e), (fun e => by cases e), (fun e => by cases e)⟩
theorem dz_227 : dc_zP 227 (9, false, false, false) := ⟨rfl, (fun e => by cases e), (fun e => by cases e), (fun e => by cases e)⟩
theorem dz_228 : dc_zP 228 (9, false, false, false) := ⟨rfl, (fun e => by cases e), (fun e => by cases e), (fun e => by cases e)⟩
theorem dz_229 : dc_zP 229 (9, false, false, false) := ⟨rfl, (fun e => by cases e), (fun e => by cases e), (fun e => by cases e)⟩
theorem dz_230 : dc_zP 230 (9, false, false, false) := ⟨rfl, (fun e => by cases e), (fun e => by cases e), (fun e => by cases e)⟩
theorem dz_231 : dc_zP 231 (9, false, false, false) := ⟨rfl, (fun e => by cases e), (fun e => by cases e), (fun e => by cases e)⟩
theorem dz_232 : dc_zP 232 (9, false, false, false) := ⟨rfl, (fun e => by cases e), (fun e => by cases e), (fun e => by cases e)⟩
theorem dz_233 : dc_zP 233 (9, false, false, false) := ⟨rfl, (fun e => by cases e), (fun e => by cases e), (fun e => by cases e)⟩
theorem dz_234 : dc_zP 234 (9, false, false, false) := ⟨rfl, (fun e => by cases e), (fun e => by cases e), (fun e => by cases e)⟩
theorem dz_235 : dc_zP 235 (9, false, false, false) := ⟨rfl, (fun e => by cases e), (fun e => by cases e), (fun e => by cases e)⟩
theorem dz_236 : dc_zP 236 (9, false, false, false) := ⟨rfl, (fun e => by cases e), (fun e => by cases e), (fun e => by cases e)⟩
theorem dz_237 : dc_zP 237 (9, false, false, false) := ⟨rfl, (fun e => by cases e), (fun e => by cases e), (fun e => by cases e)⟩
theorem dz_238 : dc_zP 238 (10, false, false, true) := ⟨rfl, (fun e => by cases e), (fun e => by cases e), (fun _ => ⟨dcn_10, Nat.le_of_ble_eq_true rfl, dcd_27⟩)⟩
theorem dz_239 : dc_zP 239 (10, false, false, true) := ⟨rfl, (fun e => by cases e), (fun e => by cases e), (fun _ => ⟨dcn_10, Nat.le_of_ble_eq_true rfl, dcd_8⟩)⟩
theorem dz_240 : dc_zP 240 (10, false, false, true) := ⟨rfl, (fun e => by cases e), (fun e => by cases e), (fun _ => ⟨dcn_10, Nat.le_of_ble_eq_true rfl, dcd_8⟩)⟩
theorem dz_241 : dc_zP 241 (11, false, false, true) := ⟨rfl, (fun e => by cases e), (fun e => by cases e), (fun _ => ⟨dcn_11, Nat.le_of_ble_eq_true rfl, dcd_15⟩)⟩
theorem dz_242 : dc_zP 242 (11, false, false, true) := ⟨rfl, (fun e => by cases e), (fun e => by cases e), (fun _ => ⟨dcn_11, Nat.le_of_ble_eq_true rfl, dcd_15⟩)⟩
theorem dz_243 : dc_zP 243 (12, false, true, true) := ⟨rfl, (fun e => by cases e), (fun _ => rfl), (fun _ => ⟨dcn_12, Nat.le_of_ble_eq_true rfl, dcd_53⟩)⟩
theorem dz_244 : dc_zP 244 (12, false, false, false) := ⟨rfl, (fun e => by cases e), (fun e => by cases e), (fun e => by cases e)⟩
theorem dz_245 : dc_zP 245 (12, false, false, false) := ⟨rfl, (fun e => by cases e), (fun e => by cases e), (fun e => by cases e)⟩
theorem dz_246 : dc_zP 246 (12, false, true, true) := ⟨rfl, (fun e => by cases e), (fun _ => rfl), (fun _ => ⟨dcn_12, Nat.le_of_ble_eq_true rfl, dcd_51⟩)⟩
theorem dz_247 : dc_zP 247 (12, false, false, false) := ⟨rfl, (fun e => by cases e), (fun e => by cases e), (fun e => by cases e)⟩
theorem dz_248 : dc_zP 248 (12, false, false, false) := ⟨rfl, (fun e => by cases e), (fun e => by cases e), (fun e => by cases e)⟩
theorem dz_249 : dc_zP 249 (12, false, false, false) := ⟨rfl, (fun e => by cases e), (fun e => by cases e), (fun e => by cases e)⟩
theorem dz_250 : dc_zP 250 (12, false, false, false) := ⟨rfl, (fun e => by cases e), (fun e => by cases e), (fun e => by cases e)⟩
theorem dz_251 : dc_zP 251 (13, false, true, true) := ⟨rfl, (fun e => by cases e), (fun _ => rfl), (fun _ => ⟨dcn_13, Nat.le_of_ble_eq_true rfl, dcd_4⟩)⟩
theorem dz_252 : dc_zP 252 (13, true, false, true) := ⟨rfl, (fun _ => dc_Cof rfl rfl), (fun e => by cases e), (fun _ => ⟨dcn_13, Nat.le_of_ble_eq_true rfl, dcd_52⟩)⟩
theorem dz_253 : dc_zP 253 (13, true, false, true) := ⟨rfl, (fun _ => dc_Cof rfl rfl), (fun e => by cases e), (fun _ => ⟨dcn_13, Nat.le_of_ble_eq_true rfl, dcd_6⟩)⟩
theorem dz_254 : dc_zP 254 (13, true, false, true) := ⟨rfl, (fun _ => dc_Cof rfl rfl), (fun e => by cases e), (fun _ => ⟨dcn_13, Nat.le_of_ble_eq_true rfl, dcd_10⟩)⟩
theorem dz_255 : dc_zP 255 (13, true, false, true) := ⟨rfl, (fun _ => dc_Cof rfl rfl), (fun e => by cases e), (fun _ => ⟨dcn_13, Nat.le_of_ble_eq_true rfl, dcd_3⟩)⟩
theorem dz_256 : dc_zP 256 (13, true, false, true) := ⟨rfl, (fun _ => dc_Cof rfl rfl), (fun e => by cases e), (fun _ => ⟨dcn_13, Nat.le_of_ble_eq_true rfl, dcd_0⟩)⟩
theorem dz_257 : dc_zP 257 (14, false, false, true) := ⟨rfl, (fun e => by cases e), (fun e => by cases e), (fun _ => ⟨dcn_14, Nat.le_of_ble_eq_true rfl, dcd_7⟩)⟩
theorem dz_258 : dc_zP 258 (14, false, false, false) := ⟨rfl, (fun e => by cases e), (fun e => by cases e), (fun e => by cases e)⟩
theorem dz_259 : dc_zP 259 (15, false, false, true) := ⟨rfl, (fun e => by cases e), (fun e => by cases e), (fun _ => ⟨dcn_15, Nat.le_of_ble_eq_true rfl, dcd_13⟩)⟩
theorem dz_260 : dc_zP 260 (15, false, false, false) := ⟨rfl, (fun e => by cases e), (fun e => by cases e), (fun e => by cases e)⟩
theorem dz_261 : dc_zP 261 (15, false, false, false) := ⟨rfl, (fun e => by cases e), (fun e => by cases e), (fun e => by cases e)⟩
theorem dz_262 : dc_zP 262 (15, false, false, false) := ⟨rfl, (fun e => by cases e), (fun e => by cases e), (fun e => by cases e)⟩
theorem dz_263 : dc_zP 263 (15, false, false, false) := ⟨rfl, (fun e => by cases e), (fun e => by cases e), (fun e => by cases e)⟩
theorem dz_264 : dc_zP 264 (15, false, false, true) := ⟨rfl, (fun e => by cases e), (fun e => by cases e), (fun _ => ⟨dcn_15, Nat.le_of_ble_eq_true rfl, dcd_56⟩)⟩
theorem dz_265 : dc_zP 265 (15, false, false, true) := ⟨rfl, (fun e => by cases e), (fun e => by cases e), (fun _ => ⟨dcn_15, Nat.le_of_ble_eq_true rfl, dcd_59⟩)⟩
theorem dz_266 : dc_zP 266 (15, false, false, false) := ⟨rfl, (fun e => by cases e), (fun e => by cases e), (fun e => by cases e)⟩
theorem dz_267 : dc_zP 267 (15, false, false, true) := ⟨rfl, (fun e => by cases e), (fun e => by cases e), (fun _ => ⟨dcn_15, Nat.le_of_ble_eq_true rfl, dcd_58⟩)⟩
theorem dz_268 : dc_zP 268 (15, false, false, true) := ⟨rfl, (fun e => by cases e), (fun e => by cases e), (fun _ => ⟨dcn_15, Nat.le_of_ble_eq_true rfl, dcd_24⟩)⟩
theorem dz_269 : dc_zP 269 (15, false, false, false) := ⟨rfl, (fun e => by cases e), (fun e => by cases e), (fun e => by cases e)⟩
theorem dz_270 : dc_zP 270 (15, false, false, false) := ⟨rfl, (fun e => by cases e), (fun e => by cases e), (fun e => by cases e)⟩
theorem dz_271 : dc_zP 271 (15, false, false, false) := ⟨rfl, (fun e => by cases e), (fun e => by cases e), (fun e => by cases e)⟩
theorem dz_272 : dc_zP 272 (15, false, false, false) := ⟨rfl, (fun e => by cases e), (fun e => by cases e), (fun e => by cases e)⟩
theorem dz_273 : dc_zP 273 (15, false, false, false) := ⟨rfl, (fun e => by cases e), (fun e => by cases e), (fun e => by cases e)⟩
theorem dz_274 : dc_zP 274 (15, false, false, false) := ⟨rfl, (fun e => by cases e), (fun e => by cases e), (fun e => by cases e)⟩
theorem dz_275 : dc_zP 275 (16, false, false, true) := ⟨rfl, (fun e => by cases e), (fun e => by cases e), (fun _ => ⟨dcn_16, Nat.le_of_ble_eq_true rfl, dcd_57⟩)⟩
theorem dz_276 : dc_zP 276 (16, false, false, true) := ⟨rfl, (fun e => by cases e), (fun e => by cases e), (fun _ => ⟨dcn_16, Nat.le_of_ble_eq_true rfl, dcd_16⟩)⟩
theorem dz_277 : dc_zP 277 (16, false, false, true) := ⟨rfl, (fun e => by cases e), (fun e => by cases e), (fun _ => ⟨dcn_16, Nat.le_of_ble_eq_true rfl, dcd_59⟩)⟩
theorem dz_278 : dc_zP 278 (16, false, false, true) := ⟨rfl, (fun e => by cases e), (fun e => by cases e), (fun _ => ⟨dcn_16, Nat.le_of_ble_eq_true rfl, dcd_59⟩)⟩
theorem dz_279 : dc_zP 279 (17, false, false, true) := ⟨rfl, (fun e => by cases e), (fun e => by cases e), (fun _ => ⟨dcn_17, Nat.le_of_ble_eq_true rfl, dcd_18⟩)⟩
theorem dz_280 : dc_zP 280 (17, false, false, true) := ⟨rfl, (fun e => by cases e), (fun e => by cases e), (fun _ => ⟨dcn_17, Nat.le_of_ble_eq_true rfl, dcd_15⟩)⟩
theorem dz_281 : dc_zP 281 (18, false, false, false) := ⟨rfl, (fun e => by cases e), (fun e => by cases e), (fun e => by cases e)⟩
theorem dz_282 : dc_zP 282 (18, false, false, false) := ⟨rfl, (fun e => by cases e), (fun e => by cases e), (fun e => by cases e)⟩
theorem dz_283 : dc_zP 283 (18, false, false, false) := ⟨rfl, (fun e => by cases e), (fun e => by cases e), (fun e => by cases e)⟩
theorem dz_284 : dc_zP 284 (19, false, false, true) := ⟨rfl, (fun e => by cases e), (fun e => by cases e), (fun _ => ⟨dcn_19, Nat.le_of_ble_eq_true rfl, dcd_43⟩)⟩
theorem dz_285 : dc_zP 285 (19, false, false, true) := ⟨rfl, (fun e => by cases e), (fun e => by cases e), (fun _ => ⟨dcn_19, Nat.le_of_ble_eq_true rfl, dcd_43⟩)⟩
theorem dz_286 : dc_zP 286 (19, false, false, true) := ⟨rfl, (fun e => by cases e), (fun e => by cases e), (fun _ => ⟨dcn_19, Nat.le_of_ble_eq_true rfl, dcd_43⟩)⟩
theorem dz_287 : dc_zP 287 (19, false, false, true) := ⟨rfl, (fun e => by cases e), (fun e => by cases e), (fun _ => ⟨dcn_19, Nat.le_of_ble_eq_true rfl, dcd_43⟩)⟩
theorem dz_288 : dc_zP 288 (19, false, false, true) := ⟨rfl, (fun e => by cases e), (fun e => by cases e), (fun _ => ⟨dcn_19, Nat.le_of_ble_eq_true rfl, dcd_42⟩)⟩
theorem dz_289 : dc_zP 289 (19, false, false, true) := ⟨rfl, (fun e => by cases e), (fun e => by cases e), (fun _ => ⟨dcn_19, Nat.le_of_ble_eq_true rfl, dcd_44⟩)⟩
theorem dz_290 : dc_zP 290 (19, false, false, true) := ⟨rfl, (fun e => by cases e), (fun e => by cases e), (fun _ => ⟨dcn_19, Nat.le_of_ble_eq_true rfl, dcd_43⟩)⟩
theorem dz_291 : dc_zP 291 (19, false, false, true) := ⟨rfl, (fun e => by cases e), (fun e => by cases e), (fun _ => ⟨dcn_19, Nat.le_of_ble_eq_true rfl, dcd_45⟩)⟩
theorem dz_292 : dc_zP 292 (19, false, false, true) := ⟨rfl, (fun e => by cases e), (fun e => by cases e), (fun _ => ⟨dcn_19, Nat.le_of_ble_eq_true rfl, dcd_48⟩)⟩
theorem dz_293 : dc_zP 293 (19, false, false, true) := ⟨rfl, (fun e => by cases e), (fun e => by cases e), (fun _ => ⟨dcn_19, Nat.le_of_ble_eq_true rfl, dcd_47⟩)⟩
theorem dz_294 : dc_zP 294 (19, false, false, true) := ⟨rfl, (fun e => by cases e), (fun e => by cases e), (fun _ => ⟨dcn_19, Nat.le_of_ble_eq_true rfl, dcd_45⟩)⟩
theorem dz_295 : dc_zP 295 (19, false, false, true) := ⟨rfl, (fun e => by cases e), (fun e => by cases e), (fun _ => ⟨dcn_19, Nat.le_of_ble_eq_true rfl, dcd_45⟩)⟩
theorem dz_296 : dc_zP 296 (19, false, false, true) := ⟨rfl, (fun e => by cases e), (fun e => by cases e), (fun _ => ⟨dcn_19, Nat.le_of_ble_eq_true rfl, dcd_46⟩)⟩
theorem dz_297 : dc_zP 297 (19, false, false, true) := ⟨rfl, (fun e => by cases e), (fun e => by cases e), (fun _ => ⟨dcn_19, Nat.le_of_ble_eq_true rfl, dcd_44⟩)⟩
theorem dz_298 : dc_zP 298 (19, false, false, true) := ⟨rfl, (fun e => by cases e), (fun e => by cases e), (fun _ => ⟨dcn_19, Nat.le_of_ble_eq_true rfl, dcd_45⟩)⟩
theorem dz_299 : dc_zP 299 (19, false, false, true) := ⟨rfl, (fun e => by cases e), (fun e => by cases e), (fun _ => ⟨dcn_19, Nat.le_of_ble_eq_true rfl, dcd_44⟩)⟩
theorem dz_300 : dc_zP 300 (19, false, false, true) := ⟨rfl, (fun e => by cases e), (fun e => by cases e), (fun _ => ⟨dcn_19, Nat.le_of_ble_eq_true rfl, dcd_45⟩)⟩
theorem dz_301 : dc_zP 301 (19, false, false, true) := ⟨rfl, (fun e => by cases e), (fun e => by cases e), (fun _ => ⟨dcn_19, Nat.le_of_ble_eq_true rfl, dcd_50⟩)⟩
theorem dz_302 : dc_zP 302 (19, false, false, true) := ⟨rfl, (fun e => by cases e), (fun e => by cases e), (fun _ => ⟨dcn_19, Nat.le_of_ble_eq_true rfl, dcd_49⟩)⟩
theorem dz_303 : dc_zP 303 (19, false, false, true) := ⟨rfl, (fun e => by cases e), (fun e => by cases e), (fun _ => ⟨dcn_19, Nat.le_of_ble_eq_true rfl, dcd_47⟩)⟩
theorem dz_304 : dc_zP 304 (19, false, false, true) := ⟨rfl, (fun e => by cases e), (fun e => by cases e), (fun _ => ⟨dcn_19, Nat.le_of_ble_eq_true rfl, dcd_49⟩)⟩
theorem dz_305 : dc_zP 305 (19, false, false, true) := ⟨rfl, (fun e => by cases e), (fun e => by cases e), (fun _ => ⟨dcn_19, Nat.le_of_ble_eq_true rfl, dcd_47⟩)⟩
theorem dz_306 : dc_zP 306 (19, false, false, true) := ⟨rfl, (fun e => by cases e), (fun e => by cases e), (fun _ => ⟨dcn_19, Nat.le_of_ble_eq_true rfl, dcd_49⟩)⟩
theorem dz_307 : dc_zP 307 (19, false, false, true) := ⟨rfl, (fun e => by cases e), (fun e => by cases e), (fun _ => ⟨dcn_19, Nat.le_of_ble_eq_true rfl, dcd_47⟩)⟩
theorem dz_308 : dc_zP 308 (19, false, false, true) := ⟨rfl, (fun e => by cases e), (fun e => by cases e), (fun _ => ⟨dcn_19, Nat.le_of_ble_eq_true rfl, dcd_49⟩)⟩
theorem dz_309 : dc_zP 309 (19, false, false, true) := ⟨rfl, (fun e => by cases e), (fun e => by cases e), (fun _ => ⟨dcn_19, Nat.le_of_ble_eq_true rfl, dcd_45⟩)⟩
theorem dz_310 : dc_zP 310 (19, false, false, true) := ⟨rfl, (fun e => by cases e), (fun e => by cases e), (fun _ => ⟨dcn_19, Nat.le_of_ble_eq_true rfl, dcd_43⟩)⟩
theorem dz_311 : dc_zP 311 (19, false, false, true) := ⟨rfl, (fun e => by cases e), (fun e => by cases e), (fun _ => ⟨dcn_19, Nat.le_of_ble_eq_true rfl, dcd_44⟩)⟩
theorem dz_312 : dc_zP 312 (19, false, false, true) := ⟨rfl, (fun e => by cases e), (fun e => by cases e), (fun _ => ⟨dcn_19, Nat.le_of_ble_eq_true rfl, dcd_45⟩)⟩
theorem dz_313 : dc_zP 313 (19, false, false, true) := ⟨rfl, (fun e => by cases e), (fun e => by cases e), (fun _ => ⟨dcn_19, Nat.le_of_ble_eq_true rfl, dcd_43⟩)⟩
theorem dz_314 : dc_zP 314 (19, false, false, true) := ⟨rfl, (fun e => by cases e), (fun e => by cases e), (fun _ => ⟨dcn_19, Nat.le_of_ble_eq_true rfl, dcd_43⟩)⟩
theorem dz_315 : dc_zP 315 (19, false, false, true) := ⟨rfl, (fun e => by cases e), (fun e => by cases e), (fun _ => ⟨dcn_19, Nat.le_of_ble_eq_true rfl, dcd_42⟩)⟩
theorem dz_316 : dc_zP 316 (19, false, false, true) := ⟨rfl, (fun e => by cases e), (fun e => by cases e), (fun _ => ⟨dcn_19, Nat.le_of_ble_eq_true rfl, dcd_48⟩)⟩
theorem dz_317 : dc_zP 317 (19, false, false, true) := ⟨rfl, (fun e => by cases e), (fun e => by cases e), (fun _ => ⟨dcn_19, Nat.le_of_ble_eq_true rfl, dcd_45⟩)⟩
theorem dz_318 : dc_zP 318 (19, false, false, true) := ⟨rfl, (fun e => by cases e), (fun e => by cases e), (fun _ => ⟨dcn_19, Nat.le_of_ble_eq_true rfl, dcd_47⟩)⟩
theorem dz_319 : dc_zP 319 (19, false, false, true) := ⟨rfl, (fun e => by cases e), (fun e => by cases e), (fun _ => ⟨dcn_19, Nat.le_of_ble_eq_true rfl, dcd_45⟩)⟩
theorem dz_320 : dc_zP 320 (19, false, false, true) := ⟨rfl, (fun e => by cases e), (fun e => by cases e), (fun _ => ⟨dcn_19, Nat.le_of_ble_eq_true rfl, dcd_45⟩)⟩
theorem dz_321 : dc_zP 321 (19, false, false, true) := ⟨rfl, (fun e => by cases e), (fun e => by cases e), (fun _ => ⟨dcn_19, Nat.le_of_ble_eq_true rfl, dcd_45⟩)⟩
theorem dz_322 : dc_zP 322 (19, false, false, true) := ⟨rfl, (fun e => by cases e), (fun e => by cases e), (fun _ => ⟨dcn_19, Nat.le_of_ble_eq_true rfl, dcd_45⟩)⟩
theorem dz_323 : dc_zP 323 (19, false, false, true) := ⟨rfl, (fun e => by cases e), (fun e => by cases e), (fun _ => ⟨dcn_19, Nat.le_of_ble_eq_true rfl, dcd_48⟩)⟩
theorem dz_324 : dc_zP 324 (19, false, false, true) := ⟨rfl, (fun e => by cases e), (fun e => by cases e), (fun _ => ⟨dcn_19, Nat.le_of_ble_eq_true rfl, dcd_47⟩)⟩
theorem dz_325 : dc_zP 325 (19, false, false, true) := ⟨rfl, (fun e => by cases e), (fun e => by cases e), (fun _ => ⟨dcn_19, Nat.le_of_ble_eq_true rfl, dcd_44⟩)⟩
theorem dz_326 : dc_zP 326 (19, false, false, true) := ⟨rfl, (fun e => by cases e), (fun e => by cases e), (fun _ => ⟨dcn_19, Nat.le_of_ble_eq_true rfl, dcd_44⟩)⟩
theorem dz_327 : dc_zP 327 (19, false, false, true) := ⟨rfl, (fun e => by cases e), (fun e => by cases e), (fun _ => ⟨dcn_19, Nat.le_of_ble_eq_true rfl, dcd_43⟩)⟩
theorem dz_328 : dc_zP 328 (19, false, false, true) := ⟨rfl, (fun e => by cases e), (fun e => by cases e), (fun _ => ⟨dcn_19, Nat.le_of_ble_eq_true rfl, dcd_47⟩)⟩
theorem dz_329 : dc_zP 329 (19, false, false, false) := ⟨rfl, (fun e => by cases e), (fun e => by cases e), (fun e => by cases e)⟩
theorem dz_330 : dc_zP 330 (8, true, false, true) := ⟨rfl, (fun _ => dc_Cof rfl rfl), (fun e => by cases e), (fun _ => ⟨dcn_8, Nat.le_of_ble_eq_true rfl, dcd_0⟩)⟩
def dc_zrun (z : Nat) : List (Nat × Bool × Bool × Bool) → Prop
  | [] => True
  | x :: r => dc_zP z x ∧ dc_zrun (z + 1) r
theorem dc_zrun_at : ∀ (l : List (Nat × Bool × Bool × Bool)) (c i : Nat) (x : Nat × Bool × Bool × Bool), dc_zrun c l → l[i]? = some x → dc_zP (c + i) x
  | [], c, i, k, _, h => by simp at h
  | k0 :: r, c, 0, k, h, e => by
    simp only [List.getElem?_cons_zero, Option.some.injEq] at e
    subst e; exact h.1
  | k0 :: r, c, i + 1, k, h, e => by
    rw [List.getElem?_cons_succ] at e
    have q := dc_zrun_at r (c + 1) i k h.2 e
    rw [show c + (i + 1) = c + 1 + i by omega]; exact q
theorem dc_zall : dc_zrun 0 dc_zs := ⟨dz_0, dz_1, dz_2, dz_3, dz_4, dz_5, dz_6, dz_7, dz_8, dz_9, dz_10, dz_11, dz_12, dz_13, dz_14, dz_15, dz_16, dz_17, dz_18, dz_19, dz_20, dz_21, dz_22, dz_23, dz_24, dz_25, dz_26, dz_27, dz_28, dz_29, dz_30, dz_31, dz_32, dz_33, dz_34, dz_35, dz_36, dz_37, dz_38, dz_39, dz_40, dz_41, dz_42, dz_43, dz_44, dz_45, dz_46, dz_47, dz_48, dz_49, dz_50, dz_51, dz_52, dz_53, dz_54, dz_55, dz_56, dz_57, dz_58, dz_59, dz_60, dz_61, dz_62, dz_63, dz_64, dz_65, dz_66, dz_67, dz_68, dz_69, dz_70, dz_71, dz_72, dz_73, dz_74, dz_75, dz_76, dz_77, dz_78, dz_79, dz_80, dz_81, dz_82, dz_83, dz_84, dz_85, dz_86, dz_87, dz_88, dz_89, dz_90, dz_91, dz_92, dz_93, dz_94, dz_95, dz_96, dz_97, dz_98, dz_99, dz_100, dz_101, dz_102, dz_103, dz_104, dz_105, dz_106, dz_107, dz_108, dz_109, dz_110, dz_111, dz_112, dz_113, dz_114, dz_115, dz_116, dz_117, dz_118, dz_119, dz_120, dz_121, dz_122, dz_123, dz_124, dz_125, dz_126, dz_127, dz_128, dz_129, dz_130, dz_131, dz_132, dz_133, dz_134, dz_135, dz_136, dz_137, dz_138, dz_139, dz_140, dz_141, dz_142, dz_143, dz_144, dz_145, dz_146, dz_147, dz_148, dz_149, dz_150, dz_151, dz_152, dz_153, dz_154, dz_155, dz_156, dz_157, dz_158, dz_159, dz_160, dz_161, dz_162, dz_163, dz_164, dz_165, dz_166, dz_167, dz_168, dz_169, dz_170, dz_171, dz_172, dz_173, dz_174, dz_175, dz_176, dz_177, dz_178, dz_179, dz_180, dz_181, dz_182, dz_183, dz_184, dz_185, dz_186, dz_187, dz_188, dz_189, dz_190, dz_191, dz_192, dz_193, dz_194, dz_195, dz_196, dz_197, dz_198, dz_199, dz_200, dz_201, dz_202, dz_203, dz_204, dz_205, dz_206, dz_207, dz_208, dz_209, dz_210, dz_211, dz_212, dz_213, dz_214, dz_215, dz_216, dz_217, dz_218, dz_219, dz_220, dz_221, dz_222, dz_223, dz_224, dz_225, dz_226, dz_227, dz_228, dz_229, dz_230, dz_231, dz_232, dz_233, dz_234, dz_235, dz_236, dz_237, dz_238, dz_239, dz_240, dz_241, dz_242, dz_243, dz_244, dz_245, dz_246, dz_247, dz_248, dz_249, dz_250, dz_251, dz_252, dz_253, dz_254, dz_255, dz_256, dz_257, dz_258, dz_259, dz_260, dz_261, dz_262, dz_263, dz_264, dz_265, dz_266, dz_267, dz_268, dz_269, dz_270, dz_271, dz_272, dz_273, dz_274, dz_275, dz_276, dz_277, dz_278, dz_279, dz_280, dz_281, dz_282, dz_283, dz_284, dz_285, dz_286, dz_287, dz_288, dz_289, dz_290, dz_291, dz_292, dz_293, dz_294, dz_295, dz_296, dz_297, dz_298, dz_299, dz_300, dz_301, dz_302, dz_303, dz_304, dz_305, dz_306, dz_307, dz_308, dz_309, dz_310, dz_311, dz_312, dz_313, dz_314, dz_315, dz_316, dz_317, dz_318, dz_319, dz_320, dz_321, dz_322, dz_323, dz_324, dz_325, dz_326, dz_327, dz_328, dz_329, dz_330, trivial⟩
theorem dc_zuse {z : Nat} {x : Nat × Bool × Bool × Bool} (h : dc_zs[z]? = some x) : dc_zP z x := by
  have q := dc_zrun_at _ 0 z x dc_zall h
  rw [Nat.zero_add] at q
  exact q
def dc_zc (z : Nat) : Bool := match dc_zs[z]? with
  | some x => x.2.1
  | none => false
def dc_zi (z : Nat) : Bool := match dc_zs[z]? with
  | some x => x.2.2.1
  | none => false
def dc_Y (z2 wi wc : Nat) : Bool := match dc_zs[z2]? with
  | some x => x.2.2.2 && dq (dc_at wi) [6, x.1] && dq (dc_at wc) [0, z2]
  | none => false
theorem dc_Y_ok {z2 wi wc : Nat} (h : dc_Y z2 wi wc = true) : dm_okY z2 wi wc = true := by
  unfold dc_Y at h
  split at h
  · rename_i x e
    simp only [Bool.and_eq_true] at h
    obtain ⟨a1, -, -, a4⟩ := dc_zuse e
    obtain ⟨r1, r2, r3⟩ := a4 h.1.1
    have b1 : dm_T wi = some (.initialized (dc_s x.1)) := dq_use h.1.2 (by simp)
    have b2 : dm_T wc = some (dm_cw z2) ∧ goodWord (dm_cw z2) = true := dq_use h.2 (by simp)
    rw [a1] at b1
    unfold dm_okY
    rw [dm_g_of b1 rfl, dm_g_of b2.1 b2.2, decide_eq_true (p := (dm_m z2).1.cls ≠ "java/lang/invoke/MethodHandle" ∧ (dm_m z2).1.cls ≠ "java/lang/invoke/VarHandle") r1, decide_eq_true r2, decide_eq_true r3]
    rfl
  · cases h
theorem dc_C_ok {z2 : Nat} (h : dc_zc z2 = true) : dm_okC z2 = true := by
  unfold dc_zc at h
  split at h
  · rename_i x e; exact (dc_zuse e).2.1 h
  · cases h
theorem dc_I_ok {z2 : Nat} (h : dc_zi z2 = true) : decide ((dm_m z2).1.name = "<init>") = true := by
  unfold dc_zi at h
  split at h
  · rename_i x e; exact decide_eq_true ((dc_zuse e).2.2.1 h)
  · cases h
def dm_okF2 (a idx ci k md w : Nat) : Bool := match vwCl[ci]? with
  | some q => decide (k < q.2.2) && (if md = 0 ∨ md = 2 then dq (dc_at w) [1, a, idx, ci, k] else dq (dc_at w) [8, a, idx, ci, k])
  | none => false
theorem dm_okF2_ok {a idx ci k md w : Nat} (h : dm_okF2 a idx ci k md w = true) : dm_okF (dc_s a) idx ci k md w = true := by
  unfold dm_okF2 at h
  unfold dm_okF
  split at h
  · rename_i q e
    rw [e]
    simp only [Bool.and_eq_true] at h ⊢
    refine ⟨h.1, ?_⟩
    have h2 := h.2
    split at h2
    · rename_i hm
      rw [if_pos hm]
      obtain ⟨q2, e2, b⟩ := dq_use h2 (by simp)
      cases Option.some.inj (e.symm.trans e2)
      exact dm_g_of b rfl
    · rename_i hm
      rw [if_neg hm]
      obtain ⟨q2, n, e2, b⟩ := dq_use h2 (by simp)
      cases Option.some.inj (e.symm.trans e2)
      unfold dm_okN
      rw [b]
      exact decide_eq_true ⟨rfl, rfl, rfl, rfl, rfl⟩
  · cases h
theorem dc_nh_ok {c a idx z2 : Nat} (h : dq (dc_at c) [7, a, idx, z2] = true) : dm_nh (dc_s a) idx (dm_m z2).1 c = true := by
  obtain ⟨n, b⟩ := dq_use h (by simp)
  unfold dm_nh
  rw [b]
  exact decide_eq_true ⟨rfl, rfl, rfl⟩
theorem dc_2_ok {c a idx z2 : Nat} (h : dq (dc_at c) [2, a, idx, z2] = true) : dm_g c (.methodLink (dc_s a) idx (dm_m z2).1) = true := dm_g_of (dq_use h (by simp)) rfl
theorem dc_3_ok {c z2 : Nat} (h : dq (dc_at c) [3, z2] = true) : dm_g c (.static (dm_m z2).1) = true := dm_g_of (dq_use h (by simp)) rfl
theorem dc_4_ok {c z2 : Nat} (h : dq (dc_at c) [4, z2] = true) : dm_g c (.instanceMethod (dm_m z2).1) = true := dm_g_of (dq_use h (by simp)) rfl
theorem dc_5_ok {c z2 : Nat} (h : dq (dc_at c) [5, z2] = true) : dm_g c (.selects (dm_m z2).1.cls (dm_m z2).1 (dm_m z2).1) = true := dm_g_of (dq_use h (by simp)) rfl
theorem dxr_0 : dm_okR 0 1 (.invokespecial 3) [0, 3, 1144, 1033, 1034] = true := by decide +kernel
theorem dxr_1 : dm_okR 0 7 (.newarray .int) [20, 1092] = true := by decide +kernel
theorem dxr_2 : dm_okR 0 15 (.newarray .int) [20, 1092] = true := by decide +kernel
theorem dxr_3 : dm_okR 19 0 (.new 39) [1, 4074, 4075, 1017] = true := by decide +kernel
theorem dxr_4 : dm_okR 28 1 (.invokespecial 3) [0, 3, 1082, 1033, 1034] = true := by decide +kernel
theorem dxr_5 : dm_okR 28 7 (.newarray .int) [20, 1092] = true := by decide +kernel
theorem dxr_6 : dm_okR 34 1 (.invokespecial 3) [0, 3, 1061, 1033, 1034] = true := by decide +kernel
theorem dxr_7 : dm_okR 36 1 (.invokespecial 3) [0, 3, 1098, 1033, 1034] = true := by decide +kernel
theorem dxr_8 : dm_okR 36 7 (.newarray .int) [20, 1092] = true := by decide +kernel
theorem dxr_9 : dm_okR 41 1 (.invokespecial 3) [0, 3, 1042, 1033, 1034] = true := by decide +kernel
theorem dxr_10 : dm_okR 47 1 (.invokespecial 3) [0, 3, 1116, 1033, 1034] = true := by decide +kernel
theorem dxr_11 : dm_okR 47 7 (.newarray .int) [20, 1092] = true := by decide +kernel
theorem dxr_12 : dm_okR 47 15 (.newarray .int) [20, 1092] = true := by decide +kernel
theorem dxr_13 : dm_okR 47 21 (.new 18) [3, 1117, 1078, 1004] = true := by decide +kernel
theorem dxr_14 : dm_okR 47 32 (.new 18) [3, 1117, 1078, 1004] = true := by decide +kernel
theorem dxr_15 : dm_okR 47 43 (.new 28) [5, 1119, 1094, 1005] = true := by decide +kernel
theorem dxr_16 : dm_okR 54 1 (.invokespecial 1) [0, 3, 1032, 1033, 1034] = true := by decide +kernel
theorem dxr_17 : dm_okR 54 6 (.anewarray 9) [22, 1035] = true := by decide +kernel
theorem dxr_18 : dm_okR 54 13 (.new 15) [6, 1037, 1038, 1002] = true := by decide +kernel
theorem dxr_19 : dm_okR 54 24 (.new 22) [4, 1056, 1057, 1003] = true := by decide +kernel
theorem dxr_20 : dm_okR 54 35 (.new 29) [3, 1077, 1078, 1004] = true := by decide +kernel
theorem dxr_21 : dm_okR 54 46 (.new 36) [5, 1093, 1094, 1005] = true := by decide +kernel
theorem dxr_22 : dm_okR 54 57 (.new 43) [7, 1111, 1112, 1006] = true := by decide +kernel
theorem dxr_23 : dm_okR 54 79 (.new 9) [2, 1035, 1140, 1007] = true := by decide +kernel
theorem dxr_24 : dm_okR 67 19 (.new 120) [201, 0, 122, 124, 6, 2123, 1014, 1010, 2145, 2154, 2158, 2161, 2163, 2146, 2147, 1033, 1034, 2148, 2153, 2159, 2179, 2135, 2180, 2137, 2181, 2139, 2149, 2151, 2141, 2175, 2176, 2178, 2141, 2166, 2167, 2168, 2169, 2127, 2169, 2170, 2171, 2172, 2129, 2172, 2173, 2174, 2175, 2131, 2165, 2124, 2125, 2132, 2133, 2134, 2136, 2138, 2140, 2144, 2143, 2142] = true := by decide +kernel
theorem dxr_25 : dm_okR 67 23 (.ldc 122) [2, 6] = true := by decide +kernel
theorem dxr_26 : dm_okR 68 29 (.new 120) [201, 0, 127, 124, 7, 2123, 1014, 1010, 2145, 2154, 2158, 2161, 2163, 2146, 2147, 1033, 1034, 2148, 2153, 2159, 2179, 2135, 2180, 2137, 2181, 2139, 2149, 2151, 2141, 2175, 2176, 2178, 2141, 2166, 2167, 2168, 2169, 2127, 2169, 2170, 2171, 2172, 2129, 2172, 2173, 2174, 2175, 2131, 2165, 2124, 2125, 2132, 2133, 2134, 2136, 2138, 2140, 2144, 2143, 2142] = true := by decide +kernel
theorem dxr_27 : dm_okR 68 33 (.ldc 127) [2, 7] = true := by decide +kernel
theorem dxr_28 : dm_okR 68 54 (.new 120) [201, 0, 129, 124, 8, 2123, 1014, 1010, 2145, 2154, 2158, 2161, 2163, 2146, 2147, 1033, 1034, 2148, 2153, 2159, 2179, 2135, 2180, 2137, 2181, 2139, 2149, 2151, 2141, 2175, 2176, 2178, 2141, 2166, 2167, 2168, 2169, 2127, 2169, 2170, 2171, 2172, 2129, 2172, 2173, 2174, 2175, 2131, 2165, 2124, 2125, 2132, 2133, 2134, 2136, 2138, 2140, 2144, 2143, 2142] = true := by decide +kernel
theorem dxr_29 : dm_okR 68 58 (.ldc 129) [2, 8] = true := by decide +kernel
theorem dxr_30 : dm_okR 102 0 (.ldc2_w 272) [2114, 7945] = true := by decide +kernel
theorem dxr_31 : dm_okR 102 12 (.ldc2_w 274) [2115, 31] = true := by decide +kernel
theorem dxr_32 : dm_okR 102 76 (.ldc2_w 274) [2115, 31] = true := by decide +kernel
theorem dxr_33 : dm_okR 102 95 (.ldc2_w 274) [2115, 31] = true := by decide +kernel
theorem dxr_34 : dm_okR 103 14 (.ldc2_w 274) [2115, 31] = true := by decide +kernel
theorem dxr_35 : dm_okR 103 37 (.ldc2_w 274) [2115, 31] = true := by decide +kernel
theorem dxr_36 : dm_okR 103 61 (.ldc2_w 274) [2115, 31] = true := by decide +kernel
theorem dxr_37 : dm_okR 103 84 (.ldc2_w 274) [2115, 31] = true := by decide +kernel
theorem dxr_38 : dm_okR 103 100 (.ldc2_w 274) [2115, 31] = true := by decide +kernel
theorem dxr_39 : dm_okR 103 116 (.ldc2_w 274) [2115, 31] = true := by decide +kernel
theorem dxr_40 : dm_okR 104 43 (.ldc2_w 274) [2115, 31] = true := by decide +kernel
theorem dxr_41 : dm_okR 104 60 (.ldc2_w 274) [2115, 31] = true := by decide +kernel
theorem dxr_42 : dm_okR 104 77 (.ldc2_w 274) [2115, 31] = true := by decide +kernel
theorem dxr_43 : dm_okR 104 96 (.ldc2_w 274) [2115, 31] = true := by decide +kernel
theorem dxr_44 : dm_okR 104 116 (.ldc2_w 274) [2115, 31] = true := by decide +kernel
theorem dxr_45 : dm_okR 113 7 (.new 326) [200, 1, 328, 330, 1, 2220, 1013, 1010, 2145, 2154, 2158, 2161, 2163, 2146, 2147, 1033, 1034, 2148, 2153, 2159, 2179, 2135, 2180, 2137, 2181, 2139, 2149, 2151, 2141, 2175, 2176, 2178, 2141, 2231, 2232, 2233, 2169, 2127, 2169, 2170, 2171, 2172, 2129, 2172, 2173, 2174, 2175, 2131, 2230, 2221, 2222, 2223, 2157, 2224, 2225, 2226, 2227, 2144, 2143, 2228] = true := by decide +kernel
theorem dxr_46 : dm_okR 114 13 (.new 331) [202, 1, 333, 335, 4, 3067, 1015, 1010, 2145, 2154, 2158, 2161, 2163, 2146, 2147, 1033, 1034, 2148, 2153, 2159, 2179, 2135, 2180, 2137, 2181, 2139, 2149, 2151, 2141, 2175, 2176, 2178, 2141, 3078, 3079, 3080, 2169, 2127, 2169, 2170, 2171, 2172, 2129, 2172, 2173, 2174, 2175, 2131, 3077, 3068, 3069, 3070, 2156, 3071, 3072, 3073, 3074, 2144, 2143, 3075] = true := by decide +kernel
theorem dxr_47 : dm_okR 115 13 (.new 331) [202, 1, 336, 335, 11, 3067, 1015, 1010, 2145, 2154, 2158, 2161, 2163, 2146, 2147, 1033, 1034, 2148, 2153, 2159, 2179, 2135, 2180, 2137, 2181, 2139, 2149, 2151, 2141, 2175, 2176, 2178, 2141, 3078, 3079, 3080, 2169, 2127, 2169, 2170, 2171, 2172, 2129, 2172, 2173, 2174, 2175, 2131, 3077, 3068, 3069, 3070, 2156, 3071, 3072, 3073, 3074, 2144, 2143, 3075] = true := by decide +kernel
theorem dxr_48 : dm_okR 116 15 (.new 120) [201, 1, 338, 124, 3, 2123, 1014, 1010, 2145, 2154, 2158, 2161, 2163, 2146, 2147, 1033, 1034, 2148, 2153, 2159, 2179, 2135, 2180, 2137, 2181, 2139, 2149, 2151, 2141, 2175, 2176, 2178, 2141, 2166, 2167, 2168, 2169, 2127, 2169, 2170, 2171, 2172, 2129, 2172, 2173, 2174, 2175, 2131, 2165, 2124, 2125, 2132, 2133, 2134, 2136, 2138, 2140, 2144, 2143, 2142] = true := by decide +kernel
theorem dxr_49 : dm_okR 117 15 (.new 120) [201, 1, 340, 124, 9, 2123, 1014, 1010, 2145, 2154, 2158, 2161, 2163, 2146, 2147, 1033, 1034, 2148, 2153, 2159, 2179, 2135, 2180, 2137, 2181, 2139, 2149, 2151, 2141, 2175, 2176, 2178, 2141, 2166, 2167, 2168, 2169, 2127, 2169, 2170, 2171, 2172, 2129, 2172, 2173, 2174, 2175, 2131, 2165, 2124, 2125, 2132, 2133, 2134, 2136, 2138, 2140, 2144, 2143, 2142] = true := by decide +kernel
theorem dxr_50 : dm_okR 118 10 (.new 120) [201, 1, 342, 124, 13, 2123, 1014, 1010, 2145, 2154, 2158, 2161, 2163, 2146, 2147, 1033, 1034, 2148, 2153, 2159, 2179, 2135, 2180, 2137, 2181, 2139, 2149, 2151, 2141, 2175, 2176, 2178, 2141, 2166, 2167, 2168, 2169, 2127, 2169, 2170, 2171, 2172, 2129, 2172, 2173, 2174, 2175, 2131, 2165, 2124, 2125, 2132, 2133, 2134, 2136, 2138, 2140, 2144, 2143, 2142] = true := by decide +kernel
theorem dxr_51 : dm_okR 119 10 (.new 120) [201, 1, 344, 124, 5, 2123, 1014, 1010, 2145, 2154, 2158, 2161, 2163, 2146, 2147, 1033, 1034, 2148, 2153, 2159, 2179, 2135, 2180, 2137, 2181, 2139, 2149, 2151, 2141, 2175, 2176, 2178, 2141, 2166, 2167, 2168, 2169, 2127, 2169, 2170, 2171, 2172, 2129, 2172, 2173, 2174, 2175, 2131, 2165, 2124, 2125, 2132, 2133, 2134, 2136, 2138, 2140, 2144, 2143, 2142] = true := by decide +kernel
theorem dxr_52 : dm_okR 120 9 (.new 120) [201, 1, 346, 124, 0, 2123, 1014, 1010, 2145, 2154, 2158, 2161, 2163, 2146, 2147, 1033, 1034, 2148, 2153, 2159, 2179, 2135, 2180, 2137, 2181, 2139, 2149, 2151, 2141, 2175, 2176, 2178, 2141, 2166, 2167, 2168, 2169, 2127, 2169, 2170, 2171, 2172, 2129, 2172, 2173, 2174, 2175, 2131, 2165, 2124, 2125, 2132, 2133, 2134, 2136, 2138, 2140, 2144, 2143, 2142] = true := by decide +kernel
theorem dxr_53 : dm_okR 121 4 (.new 120) [201, 1, 348, 124, 2, 2123, 1014, 1010, 2145, 2154, 2158, 2161, 2163, 2146, 2147, 1033, 1034, 2148, 2153, 2159, 2179, 2135, 2180, 2137, 2181, 2139, 2149, 2151, 2141, 2175, 2176, 2178, 2141, 2166, 2167, 2168, 2169, 2127, 2169, 2170, 2171, 2172, 2129, 2172, 2173, 2174, 2175, 2131, 2165, 2124, 2125, 2132, 2133, 2134, 2136, 2138, 2140, 2144, 2143, 2142] = true := by decide +kernel
theorem dxr_54 : dm_okR 122 14 (.new 120) [201, 1, 350, 124, 12, 2123, 1014, 1010, 2145, 2154, 2158, 2161, 2163, 2146, 2147, 1033, 1034, 2148, 2153, 2159, 2179, 2135, 2180, 2137, 2181, 2139, 2149, 2151, 2141, 2175, 2176, 2178, 2141, 2166, 2167, 2168, 2169, 2127, 2169, 2170, 2171, 2172, 2129, 2172, 2173, 2174, 2175, 2131, 2165, 2124, 2125, 2132, 2133, 2134, 2136, 2138, 2140, 2144, 2143, 2142] = true := by decide +kernel
theorem dxr_55 : dm_okR 124 1 (.invokespecial 1) [0, 3, 3095, 1033, 1034] = true := by decide +kernel
theorem dxr_56 : dm_okR 125 1 (.invokespecial 1) [0, 3, 6031, 1033, 1034] = true := by decide +kernel
theorem dxr_57 : dm_okR 125 8 (.multianewarray 9 2) [23, 6032, 1092] = true := by decide +kernel
theorem dxr_58 : dm_okR 125 19 (.multianewarray 9 2) [23, 6032, 1092] = true := by decide +kernel
theorem dxr_59 : dm_okR 125 28 (.newarray .int) [20, 1092] = true := by decide +kernel
theorem dxr_60 : dm_okR 137 6 (.newarray .int) [20, 1092] = true := by decide +kernel
theorem dxr_61 : dm_okR 167 21 (.ldc 122) [2, 14] = true := by decide +kernel
theorem dxr_62 : dm_okR 182 0 (.new 138) [1, 7004, 4075, 1017] = true := by decide +kernel
theorem dxr_63 : dm_okR 183 12 (.ldc 122) [2, 14] = true := by decide +kernel
theorem dxr_64 : dm_okR 204 2 (.newarray .int) [20, 1092] = true := by decide +kernel
theorem dxr_65 : dm_okR 219 49 (.newarray .int) [20, 1092] = true := by decide +kernel
theorem dxr_66 : dm_okR 223 15 (.ldc2_w 245) [7223, 31] = true := by decide +kernel
theorem dxr_67 : dm_okR 223 38 (.ldc2_w 245) [7223, 31] = true := by decide +kernel
theorem dxr_68 : dm_okR 223 62 (.ldc2_w 245) [7223, 31] = true := by decide +kernel
theorem dxr_69 : dm_okR 223 85 (.ldc2_w 245) [7223, 31] = true := by decide +kernel
theorem dxr_70 : dm_okR 223 101 (.ldc2_w 245) [7223, 31] = true := by decide +kernel
theorem dxr_71 : dm_okR 223 117 (.ldc2_w 245) [7223, 31] = true := by decide +kernel
theorem dxr_72 : dm_okR 223 155 (.ldc2_w 245) [7223, 31] = true := by decide +kernel
theorem dxr_73 : dm_okR 223 167 (.ldc2_w 245) [7223, 31] = true := by decide +kernel
theorem dxr_74 : dm_okR 223 184 (.ldc2_w 245) [7223, 31] = true := by decide +kernel
theorem dxr_75 : dm_okR 223 201 (.ldc2_w 245) [7223, 31] = true := by decide +kernel
theorem dxr_76 : dm_okR 223 219 (.ldc2_w 245) [7223, 31] = true := by decide +kernel
theorem dxr_77 : dm_okR 224 5 (.ldc2_w 247) [7222, 7945] = true := by decide +kernel
theorem dxr_78 : dm_okR 224 17 (.ldc2_w 245) [7223, 31] = true := by decide +kernel
theorem dxr_79 : dm_okR 224 72 (.ldc2_w 245) [7223, 31] = true := by decide +kernel
theorem dxr_80 : dm_okR 224 91 (.ldc2_w 245) [7223, 31] = true := by decide +kernel
theorem dxr_81 : dm_okR 225 1 (.invokespecial 3) [0, 3, 4082, 1033, 1034] = true := by decide +kernel
theorem dxr_82 : dm_okR 225 12 (.newarray .byte) [21, 2190] = true := by decide +kernel
theorem dxr_83 : dm_okR 228 36 (.ldc 39) [1, 4128, 2147483647] = true := by decide +kernel
theorem dxr_84 : dm_okR 246 1 (.invokespecial 1) [0, 3, 5005, 1033, 1034] = true := by decide +kernel
theorem dxr_85 : dm_okR 255 0 (.new 18) [0, 4237, 4238, 1018] = true := by decide +kernel
theorem dxr_86 : dm_okR 275 15 (.newarray .byte) [21, 2190] = true := by decide +kernel
theorem dxr_87 : dm_okR 276 9 (.new 45) [1, 5030, 4075, 1017] = true := by decide +kernel
theorem dxr_88 : dm_okR 278 10 (.newarray .byte) [21, 2190] = true := by decide +kernel
theorem dxr_89 : dm_okR 279 14 (.ldc 200) [1, 4124, 2147483639] = true := by decide +kernel
theorem dxr_90 : dm_okR 329 0 (.new 8) [8, 1027, 1028, 1001] = true := by decide +kernel
theorem dxr_91 : dm_okR 329 8 (.new 174) [10, 6026, 6027, 1008] = true := by decide +kernel
theorem dxr_92 : dm_okR 329 16 (.new 14) [9, 3090, 3091, 1009] = true := by decide +kernel
def dx_l : List (Nat × Instr × List Nat) := [(1, .invokespecial 3, [0, 3, 1144, 1033, 1034]),
  (7, .newarray .int, [20, 1092]),
  (15, .newarray .int, [20, 1092]),
  (1900000, .new 39, [1, 4074, 4075, 1017]),
  (2800001, .invokespecial 3, [0, 3, 1082, 1033, 1034]),
  (2800007, .newarray .int, [20, 1092]),
  (3400001, .invokespecial 3, [0, 3, 1061, 1033, 1034]),
  (3600001, .invokespecial 3, [0, 3, 1098, 1033, 1034]),
  (3600007, .newarray .int, [20, 1092]),
  (4100001, .invokespecial 3, [0, 3, 1042, 1033, 1034]),
  (4700001, .invokespecial 3, [0, 3, 1116, 1033, 1034]),
  (4700007, .newarray .int, [20, 1092]),
  (4700015, .newarray .int, [20, 1092]),
  (4700021, .new 18, [3, 1117, 1078, 1004]),
  (4700032, .new 18, [3, 1117, 1078, 1004]),
  (4700043, .new 28, [5, 1119, 1094, 1005]),
  (5400001, .invokespecial 1, [0, 3, 1032, 1033, 1034]),
  (5400006, .anewarray 9, [22, 1035]),
  (5400013, .new 15, [6, 1037, 1038, 1002]),
  (5400024, .new 22, [4, 1056, 1057, 1003]),
  (5400035, .new 29, [3, 1077, 1078, 1004]),
  (5400046, .new 36, [5, 1093, 1094, 1005]),
  (5400057, .new 43, [7, 1111, 1112, 1006]),
  (5400079, .new 9, [2, 1035, 1140, 1007]),
  (6700019, .new 120, [201, 0, 122, 124, 6, 2123, 1014, 1010, 2145, 2154, 2158, 2161, 2163, 2146, 2147, 1033, 1034, 2148, 2153, 2159, 2179, 2135, 2180, 2137, 2181, 2139, 2149, 2151, 2141, 2175, 2176, 2178, 2141, 2166, 2167, 2168, 2169, 2127, 2169, 2170, 2171, 2172, 2129, 2172, 2173, 2174, 2175, 2131, 2165, 2124, 2125, 2132, 2133, 2134, 2136, 2138, 2140, 2144, 2143, 2142]),
  (6700023, .ldc 122, [2, 6]),
  (6800029, .new 120, [201, 0, 127, 124, 7, 2123, 1014, 1010, 2145, 2154, 2158, 2161, 2163, 2146, 2147, 1033, 1034, 2148, 2153, 2159, 2179, 2135, 2180, 2137, 2181, 2139, 2149, 2151, 2141, 2175, 2176, 2178, 2141, 2166, 2167, 2168, 2169, 2127, 2169, 2170, 2171, 2172, 2129, 2172, 2173, 2174, 2175, 2131, 2165, 2124, 2125, 2132, 2133, 2134, 2136, 2138, 2140, 2144, 2143, 2142]),
  (6800033, .ldc 127, [2, 7]),
  (6800054, .new 120, [201, 0, 129, 124, 8, 2123, 1014, 1010, 2145, 2154, 2158, 2161, 2163, 2146, 2147, 1033, 1034, 2148, 2153, 2159, 2179, 2135, 2180, 2137, 2181, 2139, 2149, 2151, 2141, 2175, 2176, 2178, 2141, 2166, 2167, 2168, 2169, 2127, 2169, 2170, 2171, 2172, 2129, 2172, 2173, 2174, 2175, 2131, 2165, 2124, 2125, 2132, 2133, 2134, 2136, 2138, 2140, 2144, 2143, 2142]),
  (6800058, .ldc 129, [2, 8]),
  (10200000, .ldc2_w 272, [2114, 7945]),
  (10200012, .ldc2_w 274, [2115, 31]),
  (10200076, .ldc2_w 274, [2115, 31]),
  (10200095, .ldc2_w 274, [2115, 31]),
  (10300014, .ldc2_w 274, [2115, 31]),
  (10300037, .ldc2_w 274, [2115, 31]),
  (10300061, .ldc2_w 274, [2115, 31]),
  (10300084, .ldc2_w 274, [2115, 31]),
  (10300100, .ldc2_w 274, [2115, 31]),
  (10300116, .ldc2_w 274, [2115, 31]),
  (10400043, .ldc2_w 274, [2115, 31]),
  (10400060, .ldc2_w 274, [2115, 31]),
  (10400077, .ldc2_w 274, [2115, 31]),
  (10400096, .ldc2_w 274, [2115, 31]),
  (10400116, .ldc2_w 274, [2115, 31]),
  (11300007, .new 326, [200, 1, 328, 330, 1, 2220, 1013, 1010, 2145, 2154, 2158, 2161, 2163, 2146, 2147, 1033, 1034, 2148, 2153, 2159, 2179, 2135, 2180, 2137, 2181, 2139, 2149, 2151, 2141, 2175, 2176, 2178, 2141, 2231, 2232, 2233, 2169, 2127, 2169, 2170, 2171, 2172, 2129, 2172, 2173, 2174, 2175, 2131, 2230, 2221, 2222, 2223, 2157, 2224, 2225, 2226, 2227, 2144, 2143, 2228]),
  (11400013, .new 331, [202, 1, 333, 335, 4, 3067, 1015, 1010, 2145, 2154, 2158, 2161, 2163, 2146, 2147, 1033, 1034, 2148, 2153, 2159, 2179, 2135, 2180, 2137, 2181, 2139, 2149, 2151, 2141, 2175, 2176, 2178, 2141, 3078, 3079, 3080, 2169, 2127, 2169, 2170, 2171, 2172, 2129, 2172, 2173, 2174, 2175, 2131, 3077, 3068, 3069, 3070, 2156, 3071, 3072, 3073, 3074, 2144, 2143, 3075]),
  (11500013, .new 331, [202, 1, 336, 335, 11, 3067, 1015, 1010, 2145, 2154, 2158, 2161, 2163, 2146, 2147, 1033, 1034, 2148, 2153, 2159, 2179, 2135, 2180, 2137, 2181, 2139, 2149, 2151, 2141, 2175, 2176, 2178, 2141, 3078, 3079, 3080, 2169, 2127, 2169, 2170, 2171, 2172, 2129, 2172, 2173, 2174, 2175, 2131, 3077, 3068, 3069, 3070, 2156, 3071, 3072, 3073, 3074, 2144, 2143, 3075]),
  (11600015, .new 120, [201, 1, 338, 124, 3, 2123, 1014, 1010, 2145, 2154, 2158, 2161, 2163, 2146, 2147, 1033, 1034, 2148, 2153, 2159, 2179, 2135, 2180, 2137, 2181, 2139, 2149, 2151, 2141, 2175, 2176, 2178, 2141, 2166, 2167, 2168, 2169, 2127, 2169, 2170, 2171, 2172, 2129, 2172, 2173, 2174, 2175, 2131, 2165, 2124, 2125, 2132, 2133, 2134, 2136, 2138, 2140, 2144, 2143, 2142]),
  (11700015, .new 120, [201, 1, 340, 124, 9, 2123, 1014, 1010, 2145, 2154, 2158, 2161, 2163, 2146, 2147, 1033, 1034, 2148, 2153, 2159, 2179, 2135, 2180, 2137, 2181, 2139, 2149, 2151, 2141, 2175, 2176, 2178, 2141, 2166, 2167, 2168, 2169, 2127, 2169, 2170, 2171, 2172, 2129, 2172, 2173, 2174, 2175, 2131, 2165, 2124, 2125, 2132, 2133, 2134, 2136, 2138, 2140, 2144, 2143, 2142]),
  (11800010, .new 120, [201, 1, 342, 124, 13, 2123, 1014, 1010, 2145, 2154, 2158, 2161, 2163, 2146, 2147, 1033, 1034, 2148, 2153, 2159, 2179, 2135, 2180, 2137, 2181, 2139, 2149, 2151, 2141, 2175, 2176, 2178, 2141, 2166, 2167, 2168, 2169, 2127, 2169, 2170, 2171, 2172, 2129, 2172, 2173, 2174, 2175, 2131, 2165, 2124, 2125, 2132, 2133, 2134, 2136, 2138, 2140, 2144, 2143, 2142]),
  (11900010, .new 120, [201, 1, 344, 124, 5, 2123, 1014, 1010, 2145, 2154, 2158, 2161, 2163, 2146, 2147, 1033, 1034, 2148, 2153, 2159, 2179, 2135, 2180, 2137, 2181, 2139, 2149, 2151, 2141, 2175, 2176, 2178, 2141, 2166, 2167, 2168, 2169, 2127, 2169, 2170, 2171, 2172, 2129, 2172, 2173, 2174, 2175, 2131, 2165, 2124, 2125, 2132, 2133, 2134, 2136, 2138, 2140, 2144, 2143, 2142]),
  (12000009, .new 120, [201, 1, 346, 124, 0, 2123, 1014, 1010, 2145, 2154, 2158, 2161, 2163, 2146, 2147, 1033, 1034, 2148, 2153, 2159, 2179, 2135, 2180, 2137, 2181, 2139, 2149, 2151, 2141, 2175, 2176, 2178, 2141, 2166, 2167, 2168, 2169, 2127, 2169, 2170, 2171, 2172, 2129, 2172, 2173, 2174, 2175, 2131, 2165, 2124, 2125, 2132, 2133, 2134, 2136, 2138, 2140, 2144, 2143, 2142]),
  (12100004, .new 120, [201, 1, 348, 124, 2, 2123, 1014, 1010, 2145, 2154, 2158, 2161, 2163, 2146, 2147, 1033, 1034, 2148, 2153, 2159, 2179, 2135, 2180, 2137, 2181, 2139, 2149, 2151, 2141, 2175, 2176, 2178, 2141, 2166, 2167, 2168, 2169, 2127, 2169, 2170, 2171, 2172, 2129, 2172, 2173, 2174, 2175, 2131, 2165, 2124, 2125, 2132, 2133, 2134, 2136, 2138, 2140, 2144, 2143, 2142]),
  (12200014, .new 120, [201, 1, 350, 124, 12, 2123, 1014, 1010, 2145, 2154, 2158, 2161, 2163, 2146, 2147, 1033, 1034, 2148, 2153, 2159, 2179, 2135, 2180, 2137, 2181, 2139, 2149, 2151, 2141, 2175, 2176, 2178, 2141, 2166, 2167, 2168, 2169, 2127, 2169, 2170, 2171, 2172, 2129, 2172, 2173, 2174, 2175, 2131, 2165, 2124, 2125, 2132, 2133, 2134, 2136, 2138, 2140, 2144, 2143, 2142]),
  (12400001, .invokespecial 1, [0, 3, 3095, 1033, 1034]),
  (12500001, .invokespecial 1, [0, 3, 6031, 1033, 1034]),
  (12500008, .multianewarray 9 2, [23, 6032, 1092]),
  (12500019, .multianewarray 9 2, [23, 6032, 1092]),
  (12500028, .newarray .int, [20, 1092]),
  (13700006, .newarray .int, [20, 1092]),
  (16700021, .ldc 122, [2, 14]),
  (18200000, .new 138, [1, 7004, 4075, 1017]),
  (18300012, .ldc 122, [2, 14]),
  (20400002, .newarray .int, [20, 1092]),
  (21900049, .newarray .int, [20, 1092]),
  (22300015, .ldc2_w 245, [7223, 31]),
  (22300038, .ldc2_w 245, [7223, 31]),
  (22300062, .ldc2_w 245, [7223, 31]),
  (22300085, .ldc2_w 245, [7223, 31]),
  (22300101, .ldc2_w 245, [7223, 31]),
  (22300117, .ldc2_w 245, [7223, 31]),
  (22300155, .ldc2_w 245, [7223, 31]),
  (22300167, .ldc2_w 245, [7223, 31]),
  (22300184, .ldc2_w 245, [7223, 31]),
  (22300201, .ldc2_w 245, [7223, 31]),
  (22300219, .ldc2_w 245, [7223, 31]),
  (22400005, .ldc2_w 247, [7222, 7945]),
  (22400017, .ldc2_w 245, [7223, 31]),
  (22400072, .ldc2_w 245, [7223, 31]),
  (22400091, .ldc2_w 245, [7223, 31]),
  (22500001, .invokespecial 3, [0, 3, 4082, 1033, 1034]),
  (22500012, .newarray .byte, [21, 2190]),
  (22800036, .ldc 39, [1, 4128, 2147483647]),
  (24600001, .invokespecial 1, [0, 3, 5005, 1033, 1034]),
  (25500000, .new 18, [0, 4237, 4238, 1018]),
  (27500015, .newarray .byte, [21, 2190]),
  (27600009, .new 45, [1, 5030, 4075, 1017]),
  (27800010, .newarray .byte, [21, 2190]),
  (27900014, .ldc 200, [1, 4124, 2147483639]),
  (32900000, .new 8, [8, 1027, 1028, 1001]),
  (32900008, .new 174, [10, 6026, 6027, 1008]),
  (32900016, .new 14, [9, 3090, 3091, 1009])]
def dx_P : List (Nat × Instr × List Nat) → Prop
  | [] => True
  | y :: r => dm_okR (y.1 / 100000) (y.1 % 100000) y.2.1 y.2.2 = true ∧ dx_P r
theorem dx_all : dx_P dx_l := ⟨dxr_0, dxr_1, dxr_2, dxr_3, dxr_4, dxr_5, dxr_6, dxr_7, dxr_8, dxr_9, dxr_10, dxr_11, dxr_12, dxr_13, dxr_14, dxr_15, dxr_16, dxr_17, dxr_18, dxr_19, dxr_20, dxr_21, dxr_22, dxr_23, dxr_24, dxr_25, dxr_26, dxr_27, dxr_28, dxr_29, dxr_30, dxr_31, dxr_32, dxr_33, dxr_34, dxr_35, dxr_36, dxr_37, dxr_38, dxr_39, dxr_40, dxr_41, dxr_42, dxr_43, dxr_44, dxr_45, dxr_46, dxr_47, dxr_48, dxr_49, dxr_50, dxr_51, dxr_52, dxr_53, dxr_54, dxr_55, dxr_56, dxr_57, dxr_58, dxr_59, dxr_60, dxr_61, dxr_62, dxr_63, dxr_64, dxr_65, dxr_66, dxr_67, dxr_68, dxr_69, dxr_70, dxr_71, dxr_72, dxr_73, dxr_74, dxr_75, dxr_76, dxr_77, dxr_78, dxr_79, dxr_80, dxr_81, dxr_82, dxr_83, dxr_84, dxr_85, dxr_86, dxr_87, dxr_88, dxr_89, dxr_90, dxr_91, dxr_92, trivial⟩
theorem dx_mem : ∀ {l : List (Nat × Instr × List Nat)} {y : Nat × Instr × List Nat}, dx_P l → y ∈ l → dm_okR (y.1 / 100000) (y.1 % 100000) y.2.1 y.2.2 = true
  | x :: r, y, h, hm => by
    rcases List.mem_cons.mp hm with e | e
    · subst e; exact h.1
    · exact dx_mem h.2 e
def dx_look : List (Nat × Instr × List Nat) → Nat → Option (Nat × Instr × List Nat)
  | [], _ => none
  | y :: r, k => match Nat.beq y.1 k with
    | true => some y
    | false => dx_look r k
theorem dx_look_ok : ∀ {l : List (Nat × Instr × List Nat)} {k : Nat} {y : Nat × Instr × List Nat}, dx_look l k = some y → y ∈ l ∧ y.1 = k
  | [], k, y, h => by cases h
  | x :: r, k, y, h => by
    unfold dx_look at h
    split at h
    · rename_i hb
      cases h
      exact ⟨List.mem_cons_self, Nat.eq_of_beq_eq_true hb⟩
    · obtain ⟨h1, h2⟩ := dx_look_ok h
      exact ⟨List.mem_cons_of_mem _ h1, h2⟩
def dx_chk (z pc : Nat) (i : Instr) (x : List Nat) : Bool := match dx_look dx_l (100000 * z + pc) with
  | some y => Nat.blt pc 100000 && decide (y.2.1 = i) && dq y.2.2 x
  | none => dm_okR z pc i x
theorem dx_chk_ok {z pc : Nat} {i : Instr} {x : List Nat} (h : dx_chk z pc i x = true) : dm_okR z pc i x = true := by
  unfold dx_chk at h
  split at h
  · rename_i y e
    simp only [Bool.and_eq_true, decide_eq_true_eq] at h
    obtain ⟨⟨h1, h2⟩, h3⟩ := h
    have h1 : pc < 100000 := Nat.lt_of_lt_of_le (Nat.lt_succ_self _) (Nat.le_of_ble_eq_true h1)
    obtain ⟨m1, m2⟩ := dx_look_ok e
    have q := dx_mem dx_all m1
    rw [m2, h2, dq_eq h3, show (100000 * z + pc) / 100000 = z by omega, show (100000 * z + pc) % 100000 = pc by omega] at q
    exact q
  · exact h
def dm_okR2 (a z pc : Nat) (i : Instr) (x : List Nat) : Bool := match i, x with
  | .getfield idx, [ci, k, md, w] => dm_okF2 a idx ci k md w
  | .putfield idx, [ci, k, md, w] => dm_okF2 a idx ci k md w && dm_okP z ci k md
  | .invokestatic idx, [z2, 0, w1, w2, w3, w4] => dq (dc_at w1) [2, a, idx, z2] && dq (dc_at w2) [3, z2] && dc_Y z2 w3 w4
  | .invokestatic idx, [z2, 4, w1, w2, w3, w4] => dq (dc_at w1) [7, a, idx, z2] && dq (dc_at w2) [3, z2] && dc_Y z2 w3 w4
  | .invokevirtual idx, [z2, 1, w1, w2, w3, w4, w5] => dq (dc_at w1) [2, a, idx, z2] && dq (dc_at w2) [4, z2] && dq (dc_at w3) [5, z2] && dc_Y z2 w4 w5 && dc_zc z2
  | .invokevirtual idx, [z2, 6, w1, w2, w3, w4, w5] => dq (dc_at w1) [7, a, idx, z2] && dq (dc_at w2) [4, z2] && dq (dc_at w3) [5, z2] && dc_Y z2 w4 w5 && dc_zc z2
  | .invokespecial idx, [z2, 2, w1, w2, w3, w4] => dq (dc_at w1) [2, a, idx, z2] && dq (dc_at w2) [4, z2] && dc_Y z2 w3 w4 && dc_zi z2
  | .invokespecial idx, [z2, 5, w1, w2, w3, w4] => dq (dc_at w1) [7, a, idx, z2] && dq (dc_at w2) [4, z2] && dc_Y z2 w3 w4 && dc_zi z2
  | .new idx, x => dx_chk z pc (.new idx) x
  | .newarray t, x => dx_chk z pc (.newarray t) x
  | .anewarray idx, x => dx_chk z pc (.anewarray idx) x
  | .multianewarray idx n, x => dx_chk z pc (.multianewarray idx n) x
  | .ldc2_w idx, x => dx_chk z pc (.ldc2_w idx) x
  | .ldc idx, x => dx_chk z pc (.ldc idx) x
  | .invokespecial idx, x => dx_chk z pc (.invokespecial idx) x
  | i, x => dm_okR z pc i x
theorem dm_okR2_ok {a z pc : Nat} {i : Instr} {x : List Nat} (ha : dc_s a = (dm_m z).1.cls) (h : dm_okR2 a z pc i x = true) : dm_okR z pc i x = true := by
  unfold dm_okR2 at h
  split at h
  · have b := dm_okF2_ok h
    rw [ha] at b; exact b
  · simp only [Bool.and_eq_true] at h
    have b := dm_okF2_ok h.1
    rw [ha] at b
    exact (Bool.and_eq_true _ _).mpr ⟨b, h.2⟩
  · simp only [Bool.and_eq_true] at h
    simp only [dm_okR, Bool.and_eq_true, ← ha]
    exact ⟨⟨dc_2_ok h.1.1, dc_3_ok h.1.2⟩, dc_Y_ok h.2⟩
  · simp only [Bool.and_eq_true] at h
    simp only [dm_okR, Bool.and_eq_true, ← ha]
    exact ⟨⟨dc_nh_ok h.1.1, dc_3_ok h.1.2⟩, dc_Y_ok h.2⟩
  · simp only [Bool.and_eq_true] at h
    simp only [dm_okR, Bool.and_eq_true, ← ha]
    exact ⟨⟨⟨⟨dc_2_ok h.1.1.1.1, dc_4_ok h.1.1.1.2⟩, dc_5_ok h.1.1.2⟩, dc_Y_ok h.1.2⟩, dc_C_ok h.2⟩
  · simp only [Bool.and_eq_true] at h
    simp only [dm_okR, Bool.and_eq_true, ← ha]
    exact ⟨⟨⟨⟨dc_nh_ok h.1.1.1.1, dc_4_ok h.1.1.1.2⟩, dc_5_ok h.1.1.2⟩, dc_Y_ok h.1.2⟩, dc_C_ok h.2⟩
  · simp only [Bool.and_eq_true] at h
    simp only [dm_okR, Bool.and_eq_true, ← ha]
    exact ⟨⟨⟨dc_2_ok h.1.1.1, dc_4_ok h.1.1.2⟩, dc_Y_ok h.1.2⟩, dc_I_ok h.2⟩
  · simp only [Bool.and_eq_true] at h
    simp only [dm_okR, Bool.and_eq_true, ← ha]
    exact ⟨⟨⟨dc_nh_ok h.1.1.1, dc_4_ok h.1.1.2⟩, dc_Y_ok h.1.2⟩, dc_I_ok h.2⟩
  · exact dx_chk_ok h
  · exact dx_chk_ok h
  · exact dx_chk_ok h
  · exact dx_chk_ok h
  · exact dx_chk_ok h
  · exact dx_chk_ok h
  · exact dx_chk_ok h
  · exact h
def dm_okI2 (a z : Nat) (x : Nat × dm_I) : Bool := decide (decode (dm_m z).2.1 x.1 = .ok (x.2.1, x.2.2.1)) && dm_okR2 a z x.1 x.2.1 x.2.2.2
theorem dm_okI2_ok {a z : Nat} {x : Nat × dm_I} (ha : dc_s a = (dm_m z).1.cls) (h : dm_okI2 a z x = true) : dm_okI z x = true := by
  simp only [dm_okI2, Bool.and_eq_true] at h
  simp only [dm_okI, Bool.and_eq_true]
  exact ⟨h.1, dm_okR2_ok ha h.2⟩
theorem dpn_0 : plainName "Earlyends$Book" = true := by decide +kernel
theorem dpn_1 : plainName "Earlyends$Chain" = true := by decide +kernel
theorem dpn_2 : plainName "Earlyends$Hand" = true := by decide +kernel
theorem dpn_3 : plainName "Earlyends$Housing" = true := by decide +kernel
theorem dpn_4 : plainName "Earlyends$Part" = true := by decide +kernel
theorem dpn_5 : plainName "Earlyends$Trial" = true := by decide +kernel
theorem dpn_6 : plainName "Earlyends" = true := by decide +kernel
theorem dpn_7 : plainName "EarlyendsLaw$Out" = true := by decide +kernel
theorem dpn_8 : plainName "EarlyendsModel" = true := by decide +kernel
theorem dpn_9 : plainName "java/lang/AbstractStringBuilder" = true := by decide +kernel
theorem dpn_10 : plainName "java/lang/Integer" = true := by decide +kernel
theorem dpn_12 : plainName "java/lang/String" = true := by decide +kernel
theorem dpn_13 : plainName "java/lang/StringBuilder" = true := by decide +kernel
theorem dpn_14 : plainName "java/lang/StringLatin1" = true := by decide +kernel
theorem dpn_16 : plainName "java/util/Arrays" = true := by decide +kernel
theorem dpn_17 : plainName "jdk/internal/util/ArraysSupport" = true := by decide +kernel
theorem dpn_19 : plainName "EarlyendsLaw" = true := by decide +kernel
def dm_ok2 (z : Nat) : Bool := match dc_zs[z]? with
  | some x => (dm_c z).all (dm_okI2 x.1 z)
  | none => false
theorem dm_ok_of {z : Nat} (hp : plainName (dm_m z).1.cls = true) (h : dm_ok2 z = true) : dm_ok z = true := by
  unfold dm_ok2 at h
  split at h
  · rename_i x e
    obtain ⟨a1, -⟩ := dc_zuse e
    unfold dm_ok
    rw [Bool.and_eq_true]
    exact ⟨List.all_eq_true.mpr (fun y hy => dm_okI2_ok a1 (List.all_eq_true.mp h y hy)), hp⟩
  · cases h
