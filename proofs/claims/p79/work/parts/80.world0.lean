/-! THE WORLD THAT THE CONSTRUCTORS MAKE -/
def LW (q : Nat) (α : Nat → Nat) : List Nat := [(α 0), (α 1), q, (α 5), (α 12), (α 11), (α 20), (α 21), (α 17), (α 22), (α 23), (α 16), (α 24), (α 25), (α 15), (α 26), (α 27), (α 14), (α 28), (α 29), (α 13), (α 30), (α 31), (α 32), (α 19), (α 33), (α 34), (α 35), (α 18), (α 36), (α 47), (α 10), (α 46), (α 45), (α 44), (α 43), (α 42), (α 41), (α 40), (α 39), (α 38), (α 37), (α 53), (α 52), (α 51), (α 50), (α 49), (α 48), (α 4), (α 56), (α 55), (α 64), (α 65), (α 61), (α 66), (α 67), (α 60), (α 68), (α 69), (α 59), (α 70), (α 71), (α 58), (α 72), (α 73), (α 57), (α 74), (α 75), (α 76), (α 63), (α 77), (α 78), (α 79), (α 62), (α 80), (α 91), (α 54), (α 90), (α 89), (α 88), (α 87), (α 86), (α 85), (α 84), (α 83), (α 82), (α 81), (α 97), (α 96), (α 95), (α 94), (α 93), (α 92), (α 3), (α 100), (α 99), (α 108), (α 109), (α 105), (α 110), (α 111), (α 104), (α 112), (α 113), (α 103), (α 114), (α 115), (α 102), (α 116), (α 117), (α 101), (α 118), (α 119), (α 120), (α 107), (α 121), (α 122), (α 123), (α 106), (α 124), (α 135), (α 98), (α 134), (α 133), (α 132), (α 131), (α 130), (α 129), (α 128), (α 127), (α 126), (α 125), (α 141), (α 140), (α 139), (α 138), (α 137), (α 136), (α 2), (α 144), (α 143), (α 152), (α 153), (α 149), (α 154), (α 155), (α 148), (α 156), (α 157), (α 147), (α 158), (α 159), (α 146), (α 160), (α 161), (α 145), (α 162), (α 163), (α 164), (α 151), (α 165), (α 166), (α 167), (α 150), (α 168), (α 179), (α 142), (α 178), (α 177), (α 176), (α 175), (α 174), (α 173), (α 172), (α 171), (α 170), (α 169), (α 185), (α 184), (α 183), (α 182), (α 181), (α 180), (α 186), (α 187), (α 188), (α 189), (α 190), (α 191), (α 192), (α 9), (α 8), (α 194), (α 193), (α 197), (α 196), (α 205), (α 206), (α 202), (α 207), (α 208), (α 201), (α 209), (α 210), (α 200), (α 211), (α 212), (α 199), (α 213), (α 214), (α 198), (α 215), (α 216), (α 217), (α 204), (α 218), (α 219), (α 220), (α 203), (α 221), (α 232), (α 195), (α 231), (α 230), (α 229), (α 228), (α 227), (α 226), (α 225), (α 224), (α 223), (α 222), (α 238), (α 237), (α 236), (α 235), (α 234), (α 233), (α 7), (α 241), (α 240), (α 249), (α 250), (α 246), (α 251), (α 252), (α 245), (α 253), (α 254), (α 244), (α 255), (α 256), (α 243), (α 257), (α 258), (α 242), (α 259), (α 260), (α 261), (α 248), (α 262), (α 263), (α 264), (α 247), (α 265), (α 276), (α 239), (α 275), (α 274), (α 273), (α 272), (α 271), (α 270), (α 269), (α 268), (α 267), (α 266), (α 282), (α 281), (α 280), (α 279), (α 278), (α 277), (α 6), (α 285), (α 284), (α 293), (α 294), (α 290), (α 295), (α 296), (α 289), (α 297), (α 298), (α 288), (α 299), (α 300), (α 287), (α 301), (α 302), (α 286), (α 303), (α 304), (α 305), (α 292), (α 306), (α 307), (α 308), (α 291), (α 309), (α 320), (α 283), (α 319), (α 318), (α 317), (α 316), (α 315), (α 314), (α 313), (α 312), (α 311), (α 310), (α 326), (α 325), (α 324), (α 323), (α 322), (α 321)]
def posL : List Nat := [283, 311, 285, 310, 309, 284, 308, 304, 307, 306, 305, 303, 302, 301, 999, 999, 327, 326, 325, 324, 323, 322, 999, 999, 321, 320, 319, 318, 317, 316, 315, 314, 313, 312, 999, 999, 300, 297, 294, 291, 288, 299, 296, 293, 290, 287, 298, 295, 292, 289, 286, 999, 999, 999, 999, 999, 999, 999, 999, 999, 999, 999, 999, 999, 138, 166, 140, 165, 164, 139, 163, 159, 162, 161, 160, 158, 157, 156, 999, 999, 182, 181, 180, 179, 178, 177, 999, 999, 176, 175, 174, 173, 172, 171, 170, 169, 168, 167, 999, 999, 155, 152, 149, 146, 143, 154, 151, 148, 145, 142, 153, 150, 147, 144, 141, 999, 999, 999, 999, 999, 999, 999, 999, 999, 999, 999, 999, 999, 93, 121, 95, 120, 119, 94, 118, 114, 117, 116, 115, 113, 112, 111, 999, 999, 137, 136, 135, 134, 133, 132, 999, 999, 131, 130, 129, 128, 127, 126, 125, 124, 123, 122, 999, 999, 110, 107, 104, 101, 98, 109, 106, 103, 100, 97, 108, 105, 102, 99, 96, 999, 999, 999, 999, 999, 999, 999, 999, 999, 999, 999, 999, 999, 48, 76, 50, 75, 74, 49, 73, 69, 72, 71, 70, 68, 67, 66, 999, 999, 92, 91, 90, 89, 88, 87, 999, 999, 86, 85, 84, 83, 82, 81, 80, 79, 78, 77, 999, 999, 65, 62, 59, 56, 53, 64, 61, 58, 55, 52, 63, 60, 57, 54, 51, 999, 999, 999, 999, 999, 999, 999, 999, 999, 999, 999, 999, 999, 3, 31, 5, 30, 29, 4, 28, 24, 27, 26, 25, 23, 22, 21, 999, 999, 47, 46, 45, 44, 43, 42, 999, 999, 41, 40, 39, 38, 37, 36, 35, 34, 33, 32, 999, 999, 20, 17, 14, 11, 8, 19, 16, 13, 10, 7, 18, 15, 12, 9, 6, 999, 999, 999, 999, 999, 999, 999, 999, 999, 999, 999, 999, 999, 238, 266, 240, 265, 264, 239, 263, 259, 262, 261, 260, 258, 257, 256, 999, 999, 282, 281, 280, 279, 278, 277, 999, 999, 276, 275, 274, 273, 272, 271, 270, 269, 268, 267, 999, 999, 255, 252, 249, 246, 243, 254, 251, 248, 245, 242, 253, 250, 247, 244, 241, 999, 999, 999, 999, 999, 999, 999, 999, 999, 999, 999, 999, 999, 193, 221, 195, 220, 219, 194, 218, 214, 217, 216, 215, 213, 212, 211, 999, 999, 237, 236, 235, 234, 233, 232, 999, 999, 231, 230, 229, 228, 227, 226, 225, 224, 223, 222, 999, 999, 210, 207, 204, 201, 198, 209, 206, 203, 200, 197, 208, 205, 202, 199, 196, 999, 999, 999, 999, 999, 999, 999, 999, 999, 999, 999, 999, 999, 2, 1, 0, 191, 192, 190, 183, 184, 185, 186, 187, 188, 189, 999, 999, 999, 999, 999, 999, 999, 999, 999]
def adF (q : Nat) (α : Nat → Nat) : Nat → Nat := fun r => (LW q α).getD (posL.getD r 999) 0
def G1 (G : gG) (q : Nat) (α : Nat → Nat) : gG := (gD G, gc G, adF q α, gb G, gs G)
def W0 (G : gG) (q : Nat) (α : Nat → Nat) : va_W := FN_X10 G q α ++ []
def AP (G : gG) (da : Nat → Nat) (H : Heap) (l : List Nat) : Prop := ∀ r ∈ l, va_at (gD G) vwCl (adr G da r, cE G da v0 x0 r) H
theorem AP.nil {G : gG} {da : Nat → Nat} {H : Heap} : AP G da H [] := fun _ h => absurd h List.not_mem_nil
theorem AP.cons {G : gG} {da : Nat → Nat} {H : Heap} {r : Nat} {l : List Nat} (h : va_at (gD G) vwCl (adr G da r, cE G da v0 x0 r) H) (t : AP G da H l) : AP G da H (r :: l) := fun x hx =>
  (List.mem_cons.mp hx).elim (fun e => by rw [e]; exact h) (fun hx => t x hx)
theorem AP.app {G : gG} {da : Nat → Nat} {H : Heap} {l k : List Nat} (h : AP G da H l) (t : AP G da H k) : AP G da H (l ++ k) := fun x hx =>
  (List.mem_append.mp hx).elim (fun hx => h x hx) (fun hx => t x hx)
set_option maxRecDepth 100000 in
theorem ap_0 {G : gG} {H : Heap} {q : Nat} {α : Nat → Nat} (hP : va_P (gD G) vwCl (W0 G q α) H) : AP (G1 G q α) (adF q α) H [0, 1, 2, 3, 4, 5, 6, 7, 8, 9, 10, 11, 12, 13, 16, 17, 18, 19, 20, 21, 24, 25, 26, 27, 28, 29, 30, 31, 32, 33, 36, 37, 38, 39, 40, 41, 42, 43, 44, 45, 46, 47, 48, 49, 50] := by
  refine AP.cons (hP 283 _ rfl) ?_
  refine AP.cons (hP 311 _ rfl) ?_
  refine AP.cons (hP 285 _ rfl) ?_
  refine AP.cons (at_aQ (g := fun i => some (ga (G1 G q α) (3 + 13 + i))) (fun i hi => match i, hi with | 0, _ => rfl | 1, _ => rfl | 2, _ => rfl | 3, _ => rfl | 4, _ => rfl | 5, _ => rfl | i + 6, h => absurd h (by omega)) (hP 310 _ rfl)) ?_
  refine AP.cons (at_aQ (g := fun i => some (ga (G1 G q α) (4 + 20 + i))) (fun i hi => match i, hi with | 0, _ => rfl | 1, _ => rfl | 2, _ => rfl | 3, _ => rfl | 4, _ => rfl | 5, _ => rfl | 6, _ => rfl | 7, _ => rfl | 8, _ => rfl | 9, _ => rfl | i + 10, h => absurd h (by omega)) (hP 309 _ rfl)) ?_
  refine AP.cons (at_aQ (g := fun i => some (ga (G1 G q α) (5 + 31 + i))) (fun i hi => match i, hi with | 0, _ => rfl | 1, _ => rfl | 2, _ => rfl | 3, _ => rfl | 4, _ => rfl | i + 5, h => absurd h (by omega)) (hP 284 _ rfl)) ?_
  refine AP.cons (hP 308 _ rfl) ?_
  refine AP.cons (hP 304 _ rfl) ?_
  refine AP.cons (hP 307 _ rfl) ?_
  refine AP.cons (hP 306 _ rfl) ?_
  refine AP.cons (hP 305 _ rfl) ?_
  refine AP.cons (hP 303 _ rfl) ?_
  refine AP.cons (hP 302 _ rfl) ?_
  refine AP.cons (hP 301 _ rfl) ?_
  refine AP.cons (hP 327 _ rfl) ?_
  refine AP.cons (hP 326 _ rfl) ?_
  refine AP.cons (hP 325 _ rfl) ?_
  refine AP.cons (hP 324 _ rfl) ?_
  refine AP.cons (hP 323 _ rfl) ?_
  refine AP.cons (hP 322 _ rfl) ?_
  refine AP.cons (hP 321 _ rfl) ?_
  refine AP.cons (hP 320 _ rfl) ?_
  refine AP.cons (hP 319 _ rfl) ?_
  refine AP.cons (hP 318 _ rfl) ?_
  refine AP.cons (hP 317 _ rfl) ?_
  refine AP.cons (hP 316 _ rfl) ?_
  refine AP.cons (hP 315 _ rfl) ?_
  refine AP.cons (hP 314 _ rfl) ?_
  refine AP.cons (hP 313 _ rfl) ?_
  refine AP.cons (hP 312 _ rfl) ?_
  refine AP.cons (hP 300 _ rfl) ?_
  refine AP.cons (hP 297 _ rfl) ?_
  refine AP.cons (hP 294 _ rfl) ?_
  refine AP.cons (hP 291 _ rfl) ?_
  refine AP.cons (hP 288 _ rfl) ?_
  refine AP.cons (hP 299 _ rfl) ?_
  refine AP.cons (hP 296 _ rfl) ?_
  refine AP.cons (hP 293 _ rfl) ?_
  refine AP.cons (hP 290 _ rfl) ?_
  refine AP.cons (hP 287 _ rfl) ?_
  refine AP.cons (hP 298 _ rfl) ?_
  refine AP.cons (hP 295 _ rfl) ?_
  refine AP.cons (hP 292 _ rfl) ?_
  refine AP.cons (hP 289 _ rfl) ?_
  refine AP.cons (hP 286 _ rfl) ?_
  exact AP.nil
set_option maxRecDepth 100000 in
theorem ap_1 {G : gG} {H : Heap} {q : Nat} {α : Nat → Nat} (hP : va_P (gD G) vwCl (W0 G q α) H) : AP (G1 G q α) (adF q α) H [64, 65, 66, 67, 68, 69, 70, 71, 72, 73, 74, 75, 76, 77, 80, 81, 82, 83, 84, 85, 88, 89, 90, 91, 92, 93, 94, 95, 96, 97, 100, 101, 102, 103, 104, 105, 106, 107, 108, 109, 110, 111, 112, 113, 114] := by
  refine AP.cons (hP 138 _ rfl) ?_
  refine AP.cons (hP 166 _ rfl) ?_
  refine AP.cons (hP 140 _ rfl) ?_
  refine AP.cons (at_aQ (g := fun i => some (ga (G1 G q α) (67 + 13 + i))) (fun i hi => match i, hi with | 0, _ => rfl | 1, _ => rfl | 2, _ => rfl | 3, _ => rfl | 4, _ => rfl | 5, _ => rfl | i + 6, h => absurd h (by omega)) (hP 165 _ rfl)) ?_
  refine AP.cons (at_aQ (g := fun i => some (ga (G1 G q α) (68 + 20 + i))) (fun i hi => match i, hi with | 0, _ => rfl | 1, _ => rfl | 2, _ => rfl | 3, _ => rfl | 4, _ => rfl | 5, _ => rfl | 6, _ => rfl | 7, _ => rfl | 8, _ => rfl | 9, _ => rfl | i + 10, h => absurd h (by omega)) (hP 164 _ rfl)) ?_
  refine AP.cons (at_aQ (g := fun i => some (ga (G1 G q α) (69 + 31 + i))) (fun i hi => match i, hi with | 0, _ => rfl | 1, _ => rfl | 2, _ => rfl | 3, _ => rfl | 4, _ => rfl | i + 5, h => absurd h (by omega)) (hP 139 _ rfl)) ?_
  refine AP.cons (hP 163 _ rfl) ?_
  refine AP.cons (hP 159 _ rfl) ?_
  refine AP.cons (hP 162 _ rfl) ?_
  refine AP.cons (hP 161 _ rfl) ?_
  refine AP.cons (hP 160 _ rfl) ?_
  refine AP.cons (hP 158 _ rfl) ?_
  refine AP.cons (hP 157 _ rfl) ?_
  refine AP.cons (hP 156 _ rfl) ?_
  refine AP.cons (hP 182 _ rfl) ?_
  refine AP.cons (hP 181 _ rfl) ?_
  refine AP.cons (hP 180 _ rfl) ?_
  refine AP.cons (hP 179 _ rfl) ?_
  refine AP.cons (hP 178 _ rfl) ?_
  refine AP.cons (hP 177 _ rfl) ?_
  refine AP.cons (hP 176 _ rfl) ?_
  refine AP.cons (hP 175 _ rfl) ?_
  refine AP.cons (hP 174 _ rfl) ?_
  refine AP.cons (hP 173 _ rfl) ?_
  refine AP.cons (hP 172 _ rfl) ?_
  refine AP.cons (hP 171 _ rfl) ?_
  refine AP.cons (hP 170 _ rfl) ?_
  refine AP.cons (hP 169 _ rfl) ?_
  refine AP.cons (hP 168 _ rfl) ?_
  refine AP.cons (hP 167 _ rfl) ?_
  refine AP.cons (hP 155 _ rfl) ?_
  refine AP.cons (hP 152 _ rfl) ?_
  refine AP.cons (hP 149 _ rfl) ?_
  refine AP.cons (hP 146 _ rfl) ?_
  refine AP.cons (hP 143 _ rfl) ?_
  refine AP.cons (hP 154 _ rfl) ?_
  refine AP.cons (hP 151 _ rfl) ?_
  refine AP.cons (hP 148 _ rfl) ?_
  refine AP.cons (hP 145 _ rfl) ?_
  refine AP.cons (hP 142 _ rfl) ?_
  refine AP.cons (hP 153 _ rfl) ?_
  refine AP.cons (hP 150 _ rfl) ?_
  refine AP.cons (hP 147 _ rfl) ?_
  refine AP.cons (hP 144 _ rfl) ?_
  refine AP.cons (hP 141 _ rfl) ?_
  exact AP.nil
set_option maxRecDepth 100000 in
theorem ap_2 {G : gG} {H : Heap} {q : Nat} {α : Nat → Nat} (hP : va_P (gD G) vwCl (W0 G q α) H) : AP (G1 G q α) (adF q α) H [128, 129, 130, 131, 132, 133, 134, 135, 136, 137, 138, 139, 140, 141, 144, 145, 146, 147, 148, 149, 152, 153, 154, 155, 156, 157, 158, 159, 160, 161, 164, 165, 166, 167, 168, 169, 170, 171, 172, 173, 174, 175, 176, 177, 178] := by
  refine AP.cons (hP 93 _ rfl) ?_
  refine AP.cons (hP 121 _ rfl) ?_
  refine AP.cons (hP 95 _ rfl) ?_
  refine AP.cons (at_aQ (g := fun i => some (ga (G1 G q α) (131 + 13 + i))) (fun i hi => match i, hi with | 0, _ => rfl | 1, _ => rfl | 2, _ => rfl | 3, _ => rfl | 4, _ => rfl | 5, _ => rfl | i + 6, h => absurd h (by omega)) (hP 120 _ rfl)) ?_
  refine AP.cons (at_aQ (g := fun i => some (ga (G1 G q α) (132 + 20 + i))) (fun i hi => match i, hi with | 0, _ => rfl | 1, _ => rfl | 2, _ => rfl | 3, _ => rfl | 4, _ => rfl | 5, _ => rfl | 6, _ => rfl | 7, _ => rfl | 8, _ => rfl | 9, _ => rfl | i + 10, h => absurd h (by omega)) (hP 119 _ rfl)) ?_
  refine AP.cons (at_aQ (g := fun i => some (ga (G1 G q α) (133 + 31 + i))) (fun i hi => match i, hi with | 0, _ => rfl | 1, _ => rfl | 2, _ => rfl | 3, _ => rfl | 4, _ => rfl | i + 5, h => absurd h (by omega)) (hP 94 _ rfl)) ?_
  refine AP.cons (hP 118 _ rfl) ?_
  refine AP.cons (hP 114 _ rfl) ?_
  refine AP.cons (hP 117 _ rfl) ?_
  refine AP.cons (hP 116 _ rfl) ?_
  refine AP.cons (hP 115 _ rfl) ?_
  refine AP.cons (hP 113 _ rfl) ?_
  refine AP.cons (hP 112 _ rfl) ?_
  refine AP.cons (hP 111 _ rfl) ?_
  refine AP.cons (hP 137 _ rfl) ?_
  refine AP.cons (hP 136 _ rfl) ?_
  refine AP.cons (hP 135 _ rfl) ?_
  refine AP.cons (hP 134 _ rfl) ?_
  refine AP.cons (hP 133 _ rfl) ?_
  refine AP.cons (hP 132 _ rfl) ?_
  refine AP.cons (hP 131 _ rfl) ?_
  refine AP.cons (hP 130 _ rfl) ?_
  refine AP.cons (hP 129 _ rfl) ?_
  refine AP.cons (hP 128 _ rfl) ?_
  refine AP.cons (hP 127 _ rfl) ?_
  refine AP.cons (hP 126 _ rfl) ?_
  refine AP.cons (hP 125 _ rfl) ?_
  refine AP.cons (hP 124 _ rfl) ?_
  refine AP.cons (hP 123 _ rfl) ?_
  refine AP.cons (hP 122 _ rfl) ?_
  refine AP.cons (hP 110 _ rfl) ?_
  refine AP.cons (hP 107 _ rfl) ?_
  refine AP.cons (hP 104 _ rfl) ?_
  refine AP.cons (hP 101 _ rfl) ?_
  refine AP.cons (hP 98 _ rfl) ?_
  refine AP.cons (hP 109 _ rfl) ?_
  refine AP.cons (hP 106 _ rfl) ?_
  refine AP.cons (hP 103 _ rfl) ?_
  refine AP.cons (hP 100 _ rfl) ?_
  refine AP.cons (hP 97 _ rfl) ?_
  refine AP.cons (hP 108 _ rfl) ?_
  refine AP.cons (hP 105 _ rfl) ?_
  refine AP.cons (hP 102 _ rfl) ?_
  refine AP.cons (hP 99 _ rfl) ?_
  refine AP.cons (hP 96 _ rfl) ?_
  exact AP.nil
set_option maxRecDepth 100000 in
theorem ap_3 {G : gG} {H : Heap} {q : Nat} {α : Nat → Nat} (hP : va_P (gD G) vwCl (W0 G q α) H) : AP (G1 G q α) (adF q α) H [192, 193, 194, 195, 196, 197, 198, 199, 200, 201, 202, 203, 204, 205, 208, 209, 210, 211, 212, 213, 216, 217, 218, 219, 220, 221, 222, 223, 224, 225, 228, 229, 230, 231, 232, 233, 234, 235, 236, 237, 238, 239, 240, 241, 242] := by
  refine AP.cons (hP 48 _ rfl) ?_
  refine AP.cons (hP 76 _ rfl) ?_
  refine AP.cons (hP 50 _ rfl) ?_
  refine AP.cons (at_aQ (g := fun i => some (ga (G1 G q α) (195 + 13 + i))) (fun i hi => match i, hi with | 0, _ => rfl | 1, _ => rfl | 2, _ => rfl | 3, _ => rfl | 4, _ => rfl | 5, _ => rfl | i + 6, h => absurd h (by omega)) (hP 75 _ rfl)) ?_
  refine AP.cons (at_aQ (g := fun i => some (ga (G1 G q α) (196 + 20 + i))) (fun i hi => match i, hi with | 0, _ => rfl | 1, _ => rfl | 2, _ => rfl | 3, _ => rfl | 4, _ => rfl | 5, _ => rfl | 6, _ => rfl | 7, _ => rfl | 8, _ => rfl | 9, _ => rfl | i + 10, h => absurd h (by omega)) (hP 74 _ rfl)) ?_
  refine AP.cons (at_aQ (g := fun i => some (ga (G1 G q α) (197 + 31 + i))) (fun i hi => match i, hi with | 0, _ => rfl | 1, _ => rfl | 2, _ => rfl | 3, _ => rfl | 4, _ => rfl | i + 5, h => absurd h (by omega)) (hP 49 _ rfl)) ?_
  refine AP.cons (hP 73 _ rfl) ?_
  refine AP.cons (hP 69 _ rfl) ?_
  refine AP.cons (hP 72 _ rfl) ?_
  refine AP.cons (hP 71 _ rfl) ?_
  refine AP.cons (hP 70 _ rfl) ?_
  refine AP.cons (hP 68 _ rfl) ?_
  refine AP.cons (hP 67 _ rfl) ?_
  refine AP.cons (hP 66 _ rfl) ?_
  refine AP.cons (hP 92 _ rfl) ?_
  refine AP.cons (hP 91 _ rfl) ?_
  refine AP.cons (hP 90 _ rfl) ?_
  refine AP.cons (hP 89 _ rfl) ?_
  refine AP.cons (hP 88 _ rfl) ?_
  refine AP.cons (hP 87 _ rfl) ?_
  refine AP.cons (hP 86 _ rfl) ?_
  refine AP.cons (hP 85 _ rfl) ?_
  refine AP.cons (hP 84 _ rfl) ?_
  refine AP.cons (hP 83 _ rfl) ?_
  refine AP.cons (hP 82 _ rfl) ?_
  refine AP.cons (hP 81 _ rfl) ?_
  refine AP.cons (hP 80 _ rfl) ?_
  refine AP.cons (hP 79 _ rfl) ?_
  refine AP.cons (hP 78 _ rfl) ?_
  refine AP.cons (hP 77 _ rfl) ?_
  refine AP.cons (hP 65 _ rfl) ?_
  refine AP.cons (hP 62 _ rfl) ?_
  refine AP.cons (hP 59 _ rfl) ?_
  refine AP.cons (hP 56 _ rfl) ?_
  refine AP.cons (hP 53 _ rfl) ?_
  refine AP.cons (hP 64 _ rfl) ?_
  refine AP.cons (hP 61 _ rfl) ?_
  refine AP.cons (hP 58 _ rfl) ?_
  refine AP.cons (hP 55 _ rfl) ?_
  refine AP.cons (hP 52 _ rfl) ?_
  refine AP.cons (hP 63 _ rfl) ?_
  refine AP.cons (hP 60 _ rfl) ?_
  refine AP.cons (hP 57 _ rfl) ?_
  refine AP.cons (hP 54 _ rfl) ?_
  refine AP.cons (hP 51 _ rfl) ?_
  exact AP.nil
set_option maxRecDepth 100000 in
theorem ap_4 {G : gG} {H : Heap} {q : Nat} {α : Nat → Nat} (hP : va_P (gD G) vwCl (W0 G q α) H) : AP (G1 G q α) (adF q α) H [256, 257, 258, 259, 260, 261, 262, 263, 264, 265, 266, 267, 268, 269, 272, 273, 274, 275, 276, 277, 280, 281, 282, 283, 284, 285, 286, 287, 288, 289, 292, 293, 294, 295, 296, 297, 298, 299, 300, 301, 302, 303, 304, 305, 306] := by
  refine AP.cons (hP 3 _ rfl) ?_
  refine AP.cons (hP 31 _ rfl) ?_
  refine AP.cons (hP 5 _ rfl) ?_
  refine AP.cons (at_aQ (g := fun i => some (ga (G1 G q α) (259 + 13 + i))) (fun i hi => match i, hi with | 0, _ => rfl | 1, _ => rfl | 2, _ => rfl | 3, _ => rfl | 4, _ => rfl | 5, _ => rfl | i + 6, h => absurd h (by omega)) (hP 30 _ rfl)) ?_
  refine AP.cons (at_aQ (g := fun i => some (ga (G1 G q α) (260 + 20 + i))) (fun i hi => match i, hi with | 0, _ => rfl | 1, _ => rfl | 2, _ => rfl | 3, _ => rfl | 4, _ => rfl | 5, _ => rfl | 6, _ => rfl | 7, _ => rfl | 8, _ => rfl | 9, _ => rfl | i + 10, h => absurd h (by omega)) (hP 29 _ rfl)) ?_
  refine AP.cons (at_aQ (g := fun i => some (ga (G1 G q α) (261 + 31 + i))) (fun i hi => match i, hi with | 0, _ => rfl | 1, _ => rfl | 2, _ => rfl | 3, _ => rfl | 4, _ => rfl | i + 5, h => absurd h (by omega)) (hP 4 _ rfl)) ?_
  refine AP.cons (hP 28 _ rfl) ?_
  refine AP.cons (hP 24 _ rfl) ?_
  refine AP.cons (hP 27 _ rfl) ?_
  refine AP.cons (hP 26 _ rfl) ?_
  refine AP.cons (hP 25 _ rfl) ?_
  refine AP.cons (hP 23 _ rfl) ?_
  refine AP.cons (hP 22 _ rfl) ?_
  refine AP.cons (hP 21 _ rfl) ?_
  refine AP.cons (hP 47 _ rfl) ?_
  refine AP.cons (hP 46 _ rfl) ?_
  refine AP.cons (hP 45 _ rfl) ?_
  refine AP.cons (hP 44 _ rfl) ?_
  refine AP.cons (hP 43 _ rfl) ?_
  refine AP.cons (hP 42 _ rfl) ?_
  refine AP.cons (hP 41 _ rfl) ?_
  refine AP.cons (hP 40 _ rfl) ?_
  refine AP.cons (hP 39 _ rfl) ?_
  refine AP.cons (hP 38 _ rfl) ?_
  refine AP.cons (hP 37 _ rfl) ?_
  refine AP.cons (hP 36 _ rfl) ?_
  refine AP.cons (hP 35 _ rfl) ?_
  refine AP.cons (hP 34 _ rfl) ?_
  refine AP.cons (hP 33 _ rfl) ?_
  refine AP.cons (hP 32 _ rfl) ?_
  refine AP.cons (hP 20 _ rfl) ?_
  refine AP.cons (hP 17 _ rfl) ?_
  refine AP.cons (hP 14 _ rfl) ?_
  refine AP.cons (hP 11 _ rfl) ?_
  refine AP.cons (hP 8 _ rfl) ?_
  refine AP.cons (hP 19 _ rfl) ?_
  refine AP.cons (hP 16 _ rfl) ?_
  refine AP.cons (hP 13 _ rfl) ?_
  refine AP.cons (hP 10 _ rfl) ?_
  refine AP.cons (hP 7 _ rfl) ?_
  refine AP.cons (hP 18 _ rfl) ?_
  refine AP.cons (hP 15 _ rfl) ?_
  refine AP.cons (hP 12 _ rfl) ?_
  refine AP.cons (hP 9 _ rfl) ?_
  refine AP.cons (hP 6 _ rfl) ?_
  exact AP.nil
set_option maxRecDepth 100000 in
theorem ap_5 {G : gG} {H : Heap} {q : Nat} {α : Nat → Nat} (hP : va_P (gD G) vwCl (W0 G q α) H) : AP (G1 G q α) (adF q α) H [320, 321, 322, 323, 324, 325, 326, 327, 328, 329, 330, 331, 332, 333, 336, 337, 338, 339, 340, 341, 344, 345, 346, 347, 348, 349, 350, 351, 352, 353, 356, 357, 358, 359, 360, 361, 362, 363, 364, 365, 366, 367, 368, 369, 370] := by
  refine AP.cons (hP 238 _ rfl) ?_
  refine AP.cons (hP 266 _ rfl) ?_
  refine AP.cons (hP 240 _ rfl) ?_
  refine AP.cons (at_aQ (g := fun i => some (ga (G1 G q α) (323 + 13 + i))) (fun i hi => match i, hi with | 0, _ => rfl | 1, _ => rfl | 2, _ => rfl | 3, _ => rfl | 4, _ => rfl | 5, _ => rfl | i + 6, h => absurd h (by omega)) (hP 265 _ rfl)) ?_
  refine AP.cons (at_aQ (g := fun i => some (ga (G1 G q α) (324 + 20 + i))) (fun i hi => match i, hi with | 0, _ => rfl | 1, _ => rfl | 2, _ => rfl | 3, _ => rfl | 4, _ => rfl | 5, _ => rfl | 6, _ => rfl | 7, _ => rfl | 8, _ => rfl | 9, _ => rfl | i + 10, h => absurd h (by omega)) (hP 264 _ rfl)) ?_
  refine AP.cons (at_aQ (g := fun i => some (ga (G1 G q α) (325 + 31 + i))) (fun i hi => match i, hi with | 0, _ => rfl | 1, _ => rfl | 2, _ => rfl | 3, _ => rfl | 4, _ => rfl | i + 5, h => absurd h (by omega)) (hP 239 _ rfl)) ?_
  refine AP.cons (hP 263 _ rfl) ?_
  refine AP.cons (hP 259 _ rfl) ?_
  refine AP.cons (hP 262 _ rfl) ?_
  refine AP.cons (hP 261 _ rfl) ?_
  refine AP.cons (hP 260 _ rfl) ?_
  refine AP.cons (hP 258 _ rfl) ?_
  refine AP.cons (hP 257 _ rfl) ?_
  refine AP.cons (hP 256 _ rfl) ?_
  refine AP.cons (hP 282 _ rfl) ?_
  refine AP.cons (hP 281 _ rfl) ?_
  refine AP.cons (hP 280 _ rfl) ?_
  refine AP.cons (hP 279 _ rfl) ?_
  refine AP.cons (hP 278 _ rfl) ?_
  refine AP.cons (hP 277 _ rfl) ?_
  refine AP.cons (hP 276 _ rfl) ?_
  refine AP.cons (hP 275 _ rfl) ?_
  refine AP.cons (hP 274 _ rfl) ?_
  refine AP.cons (hP 273 _ rfl) ?_
  refine AP.cons (hP 272 _ rfl) ?_
  refine AP.cons (hP 271 _ rfl) ?_
  refine AP.cons (hP 270 _ rfl) ?_
  refine AP.cons (hP 269 _ rfl) ?_
  refine AP.cons (hP 268 _ rfl) ?_
  refine AP.cons (hP 267 _ rfl) ?_
  refine AP.cons (hP 255 _ rfl) ?_
  refine AP.cons (hP 252 _ rfl) ?_
  refine AP.cons (hP 249 _ rfl) ?_
  refine AP.cons (hP 246 _ rfl) ?_
  refine AP.cons (hP 243 _ rfl) ?_
  refine AP.cons (hP 254 _ rfl) ?_
  refine AP.cons (hP 251 _ rfl) ?_
  refine AP.cons (hP 248 _ rfl) ?_
  refine AP.cons (hP 245 _ rfl) ?_
  refine AP.cons (hP 242 _ rfl) ?_
  refine AP.cons (hP 253 _ rfl) ?_
  refine AP.cons (hP 250 _ rfl) ?_
  refine AP.cons (hP 247 _ rfl) ?_
  refine AP.cons (hP 244 _ rfl) ?_
  refine AP.cons (hP 241 _ rfl) ?_
  exact AP.nil
set_option maxRecDepth 100000 in
theorem ap_6 {G : gG} {H : Heap} {q : Nat} {α : Nat → Nat} (hP : va_P (gD G) vwCl (W0 G q α) H) : AP (G1 G q α) (adF q α) H [384, 385, 386, 387, 388, 389, 390, 391, 392, 393, 394, 395, 396, 397, 400, 401, 402, 403, 404, 405, 408, 409, 410, 411, 412, 413, 414, 415, 416, 417, 420, 421, 422, 423, 424, 425, 426, 427, 428, 429, 430, 431, 432, 433, 434] := by
  refine AP.cons (hP 193 _ rfl) ?_
  refine AP.cons (hP 221 _ rfl) ?_
  refine AP.cons (hP 195 _ rfl) ?_
  refine AP.cons (at_aQ (g := fun i => some (ga (G1 G q α) (387 + 13 + i))) (fun i hi => match i, hi with | 0, _ => rfl | 1, _ => rfl | 2, _ => rfl | 3, _ => rfl | 4, _ => rfl | 5, _ => rfl | i + 6, h => absurd h (by omega)) (hP 220 _ rfl)) ?_
  refine AP.cons (at_aQ (g := fun i => some (ga (G1 G q α) (388 + 20 + i))) (fun i hi => match i, hi with | 0, _ => rfl | 1, _ => rfl | 2, _ => rfl | 3, _ => rfl | 4, _ => rfl | 5, _ => rfl | 6, _ => rfl | 7, _ => rfl | 8, _ => rfl | 9, _ => rfl | i + 10, h => absurd h (by omega)) (hP 219 _ rfl)) ?_
  refine AP.cons (at_aQ (g := fun i => some (ga (G1 G q α) (389 + 31 + i))) (fun i hi => match i, hi with | 0, _ => rfl | 1, _ => rfl | 2, _ => rfl | 3, _ => rfl | 4, _ => rfl | i + 5, h => absurd h (by omega)) (hP 194 _ rfl)) ?_
  refine AP.cons (hP 218 _ rfl) ?_
  refine AP.cons (hP 214 _ rfl) ?_
  refine AP.cons (hP 217 _ rfl) ?_
  refine AP.cons (hP 216 _ rfl) ?_
  refine AP.cons (hP 215 _ rfl) ?_
  refine AP.cons (hP 213 _ rfl) ?_
  refine AP.cons (hP 212 _ rfl) ?_
  refine AP.cons (hP 211 _ rfl) ?_
  refine AP.cons (hP 237 _ rfl) ?_
  refine AP.cons (hP 236 _ rfl) ?_
  refine AP.cons (hP 235 _ rfl) ?_
  refine AP.cons (hP 234 _ rfl) ?_
  refine AP.cons (hP 233 _ rfl) ?_
  refine AP.cons (hP 232 _ rfl) ?_
  refine AP.cons (hP 231 _ rfl) ?_
  refine AP.cons (hP 230 _ rfl) ?_
  refine AP.cons (hP 229 _ rfl) ?_
  refine AP.cons (hP 228 _ rfl) ?_
  refine AP.cons (hP 227 _ rfl) ?_
  refine AP.cons (hP 226 _ rfl) ?_
  refine AP.cons (hP 225 _ rfl) ?_
  refine AP.cons (hP 224 _ rfl) ?_
  refine AP.cons (hP 223 _ rfl) ?_
  refine AP.cons (hP 222 _ rfl) ?_
  refine AP.cons (hP 210 _ rfl) ?_
  refine AP.cons (hP 207 _ rfl) ?_
  refine AP.cons (hP 204 _ rfl) ?_
  refine AP.cons (hP 201 _ rfl) ?_
  refine AP.cons (hP 198 _ rfl) ?_
  refine AP.cons (hP 209 _ rfl) ?_
  refine AP.cons (hP 206 _ rfl) ?_
  refine AP.cons (hP 203 _ rfl) ?_
  refine AP.cons (hP 200 _ rfl) ?_
  refine AP.cons (hP 197 _ rfl) ?_
  refine AP.cons (hP 208 _ rfl) ?_
  refine AP.cons (hP 205 _ rfl) ?_
  refine AP.cons (hP 202 _ rfl) ?_
  refine AP.cons (hP 199 _ rfl) ?_
  refine AP.cons (hP 196 _ rfl) ?_
  exact AP.nil
set_option maxRecDepth 100000 in
theorem ap_7 {G : gG} {H : Heap} {q : Nat} {α : Nat → Nat} (hP : va_P (gD G) vwCl (W0 G q α) H) : AP (G1 G q α) (adF q α) H [448, 449, 450, 451, 452, 453, 454, 455, 456, 457, 458, 459, 460] := by
  refine AP.cons (hP 2 _ rfl) ?_
  refine AP.cons (at_aQ (g := fun i => some (ga (G1 G q α) (rN (v0 449 i)))) (fun i hi => match i, hi with | 0, _ => rfl | 1, _ => rfl | 2, _ => rfl | 3, _ => rfl | i + 4, h => absurd h (by omega)) (hP 1 _ rfl)) ?_
  refine AP.cons (hP 0 _ rfl) ?_
  refine AP.cons (hP 191 _ rfl) ?_
  refine AP.cons (hP 192 _ rfl) ?_
  refine AP.cons (hP 190 _ rfl) ?_
  refine AP.cons (at_aQ (g := fun i => some (ga (G1 G q α) (455 + i))) (fun i hi => match i, hi with | 0, _ => rfl | 1, _ => rfl | 2, _ => rfl | 3, _ => rfl | 4, _ => rfl | 5, _ => rfl | i + 6, h => absurd h (by omega)) (hP 183 _ rfl)) ?_
  refine AP.cons (hP 184 _ rfl) ?_
  refine AP.cons (hP 185 _ rfl) ?_
  refine AP.cons (hP 186 _ rfl) ?_
  refine AP.cons (hP 187 _ rfl) ?_
  refine AP.cons (hP 188 _ rfl) ?_
  refine AP.cons (hP 189 _ rfl) ?_
  exact AP.nil
theorem rol_eq : rol = [0, 1, 2, 3, 4, 5, 6, 7, 8, 9, 10, 11, 12, 13, 16, 17, 18, 19, 20, 21, 24, 25, 26, 27, 28, 29, 30, 31, 32, 33, 36, 37, 38, 39, 40, 41, 42, 43, 44, 45, 46, 47, 48, 49, 50] ++ ([64, 65, 66, 67, 68, 69, 70, 71, 72, 73, 74, 75, 76, 77, 80, 81, 82, 83, 84, 85, 88, 89, 90, 91, 92, 93, 94, 95, 96, 97, 100, 101, 102, 103, 104, 105, 106, 107, 108, 109, 110, 111, 112, 113, 114] ++ ([128, 129, 130, 131, 132, 133, 134, 135, 136, 137, 138, 139, 140, 141, 144, 145, 146, 147, 148, 149, 152, 153, 154, 155, 156, 157, 158, 159, 160, 161, 164, 165, 166, 167, 168, 169, 170, 171, 172, 173, 174, 175, 176, 177, 178] ++ ([192, 193, 194, 195, 196, 197, 198, 199, 200, 201, 202, 203, 204, 205, 208, 209, 210, 211, 212, 213, 216, 217, 218, 219, 220, 221, 222, 223, 224, 225, 228, 229, 230, 231, 232, 233, 234, 235, 236, 237, 238, 239, 240, 241, 242] ++ ([256, 257, 258, 259, 260, 261, 262, 263, 264, 265, 266, 267, 268, 269, 272, 273, 274, 275, 276, 277, 280, 281, 282, 283, 284, 285, 286, 287, 288, 289, 292, 293, 294, 295, 296, 297, 298, 299, 300, 301, 302, 303, 304, 305, 306] ++ ([320, 321, 322, 323, 324, 325, 326, 327, 328, 329, 330, 331, 332, 333, 336, 337, 338, 339, 340, 341, 344, 345, 346, 347, 348, 349, 350, 351, 352, 353, 356, 357, 358, 359, 360, 361, 362, 363, 364, 365, 366, 367, 368, 369, 370] ++ ([384, 385, 386, 387, 388, 389, 390, 391, 392, 393, 394, 395, 396, 397, 400, 401, 402, 403, 404, 405, 408, 409, 410, 411, 412, 413, 414, 415, 416, 417, 420, 421, 422, 423, 424, 425, 426, 427, 428, 429, 430, 431, 432, 433, 434] ++ ([448, 449, 450, 451, 452, 453, 454, 455, 456, 457, 458, 459, 460]))))))) := by decide +kernel
theorem nd_get {L is : List Nat} (hL : L.Nodup) (hi : is.Nodup) (hlt : ∀ i ∈ is, i < L.length) : (is.map (fun i => L.getD i 0)).Nodup := by
  refine List.pairwise_map.mpr (hi.imp_of_mem (fun {a b} ha hb hne he => hne ?_))
  have e1 : L[a]? = some (L.getD a 0) := by rw [List.getD_eq_getElem?_getD, List.getElem?_eq_getElem (hlt a ha)]; rfl
  have e2 : L[b]? = some (L.getD b 0) := by rw [List.getD_eq_getElem?_getD, List.getElem?_eq_getElem (hlt b hb)]; rfl
  exact (List.getElem?_inj (hlt a ha) hL).mp (by rw [e1, e2, he])
theorem pos_nd : (rol.map (fun r => posL.getD r 999)).Nodup ∧ ∀ i ∈ rol.map (fun r => posL.getD r 999), i < 328 := by decide +kernel
set_option maxRecDepth 100000 in
theorem hp0 {G : gG} {H : Heap} {q : Nat} {α : Nat → Nat} (h : GW G (W0 G q α) H) : Hp (G1 G q α) (adF q α) v0 x0 H := by
  have hP := h.1
  have hap : AP (G1 G q α) (adF q α) H rol := by
    rw [rol_eq]
    exact (ap_0 hP).app ((ap_1 hP).app ((ap_2 hP).app ((ap_3 hP).app ((ap_4 hP).app ((ap_5 hP).app ((ap_6 hP).app (ap_7 hP)))))))
  obtain ⟨hn, hA⟩ := va_D_nd.mp h.2
  have hLW : (W0 G q α).map Prod.fst = LW q α := rfl
  rw [hLW] at hn
  have hlen : (LW q α).length = 328 := rfl
  have hadr : ∀ r, adr (G1 G q α) (adF q α) r = adF q α r := fun r => by
    unfold adr
    split <;> rfl
  refine ⟨va_P_mem.mpr (fun p hp => ?_), va_D_nd.mpr ⟨?_, fun p hp => ?_⟩⟩
  · obtain ⟨r, hr, rfl⟩ := List.mem_map.mp hp
    exact hap r hr
  · have e : (wl (G1 G q α) (adF q α) v0 x0).map Prod.fst = (rol.map (fun r => posL.getD r 999)).map (fun i => (LW q α).getD i 0) := by
      unfold wl
      rw [List.map_map, List.map_map]
      exact List.map_congr_left (fun r _ => hadr r)
    rw [e]
    exact nd_get hn pos_nd.1 (fun i hi => by rw [hlen]; exact pos_nd.2 i hi)
  · obtain ⟨r, hr, rfl⟩ := List.mem_map.mp hp
    have hlt : posL.getD r 999 < (LW q α).length := by rw [hlen]; exact pos_nd.2 _ (List.mem_map.mpr ⟨r, hr, rfl⟩)
    have hm : adF q α r ∈ LW q α := by
      unfold adF
      rw [List.getD_eq_getElem?_getD, List.getElem?_eq_getElem hlt]
      exact List.getElem_mem hlt
    rw [← hLW] at hm
    obtain ⟨p, hp1, hp2⟩ := List.mem_map.mp hm
    have := hA p hp1
    rw [hp2] at this
    show gA G (adr (G1 G q α) (adF q α) r)
    rw [hadr]
    exact this
