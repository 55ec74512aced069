/-! ===== the law's instructions, each by itself ===== -/
theorem lw_bytes : (dm_m 329).2.1 = code := rfl
theorem dm_look_dr : ∀ (l : List (Nat × dm_I)) (n pc : Nat), ((l.take n).all (fun x => Nat.blt x.1 pc)) = true → dm_look l pc = dm_look (l.drop n) pc
  | [], n, pc, _ => by simp
  | x :: r, 0, pc, _ => rfl
  | (k, x) :: r, n + 1, pc, h => by
    simp only [List.take_succ_cons, List.all_cons, Bool.and_eq_true] at h
    rw [List.drop_succ_cons, ← dm_look_dr r n pc h.2]
    have h1 : Nat.blt k pc = true := h.1
    have h2 : Nat.beq k pc = false := by
      cases e : Nat.beq k pc with
      | false => rfl
      | true =>
        have e2 := Nat.eq_of_beq_eq_true e
        have e3 : k < pc := Nat.le_of_ble_eq_true h1
        omega
    show (match Nat.beq k pc with | true => some x | false => dm_look r pc) = _
    rw [h2]
theorem dm_look_tk : ∀ (l : List (Nat × dm_I)) (m pc : Nat) (x : dm_I), dm_look (l.take m) pc = some x → dm_look l pc = some x
  | [], m, pc, x, h => by simpa using h
  | y :: r, 0, pc, x, h => by cases h
  | (k, y) :: r, m + 1, pc, x, h => by
    have h : (match Nat.beq k pc with | true => some y | false => dm_look (r.take m) pc) = some x := h
    show (match Nat.beq k pc with | true => some y | false => dm_look r pc) = some x
    cases e : Nat.beq k pc with
    | true => rw [e] at h; exact h
    | false => rw [e] at h; exact dm_look_tk r m pc x h
theorem la_all {l : List (Nat × dm_I)} {P pc : Nat} (h : l.all (fun x => Nat.blt x.1 P) = true) (hP : Nat.ble P pc = true) : l.all (fun x => Nat.blt x.1 pc) = true := List.all_eq_true.mpr (fun y hy => by
  have h1 : y.1 < P := Nat.le_of_ble_eq_true (List.all_eq_true.mp h y hy)
  have h2 := Nat.le_of_ble_eq_true hP
  exact Nat.ble_eq_true_of_le (show y.1 + 1 ≤ pc by omega))
theorem la_of {n pc P : Nat} {x : dm_I} {sg : List (Nat × dm_I)} (hp : ((dm_c 329).take n).all (fun x => Nat.blt x.1 P) = true) (hP : Nat.ble P pc = true) (hs : ((dm_c 329).drop n).take 40 = sg) (h : dm_look sg pc = some x) : dm_at 329 pc = some x := by
  unfold dm_at
  rw [dm_look_dr _ n pc (la_all hp hP)]
  exact dm_look_tk _ 40 pc x (by rw [hs]; exact h)
set_option maxRecDepth 100000 in
def sg_0 : List (Nat × dm_I) := [(0, (.new 8, 3, [8, 1027, 1028, 1001])), (3, (.dup, 1, [])), (4, (.invokespecial 173, 3, [54, 2, 1029, 1030, 1001, 1031])), (7, (.astore_n 1, 1, [])), (8, (.new 174, 3, [10, 6026, 6027, 1008])), (11, (.dup, 1, [])), (12, (.invokespecial 176, 3, [125, 2, 6028, 6029, 1008, 6030])), (15, (.astore_n 2, 1, [])), (16, (.new 14, 3, [9, 3090, 3091, 1009])), (19, (.dup, 1, [])), (20, (.invokespecial 177, 3, [124, 5, 3092, 3093, 1009, 3094])), (23, (.astore_n 3, 1, [])), (24, (.iconst 0, 1, [])), (25, (.istore 4, 2, [])), (27, (.iload 4, 2, [])), (29, (.aload_n 0, 1, [])), (30, (.arraylength, 1, [])), (31, (.bipush 6, 2, [])), (33, (.isub, 1, [])), (34, (.if_icmp .gt 2352, 3, [2386])), (37, (.aload_n 0, 1, [])), (38, (.iload 4, 2, [])), (40, (.iaload, 1, [])), (41, (.bipush 63, 2, [])), (43, (.iand, 1, [])), (44, (.tableswitch 2336 0 47 #[208, 272, 336, 400, 464, 540, 592, 656, 696, 752, 780, 820, 860, 928, 980, 1020, 1072, 1112, 1156, 1172, 1200, 1216, 1244, 1260, 1288, 1304, 1344, 1408, 1460, 1500, 1564, 1628, 1704, 1760, 1800, 1857, 1897, 1937, 1977, 2017, 2073, 2101, 2153, 2205, 2269, 2297, 2310, 2323], 208, [2380, 252, 316, 380, 444, 508, 584, 636, 700, 740, 796, 824, 864, 904, 972, 1024, 1064, 1116, 1156, 1200, 1216, 1244, 1260, 1288, 1304, 1332, 1348, 1388, 1452, 1504, 1544, 1608, 1672, 1748, 1804, 1844, 1901, 1941, 1981, 2021, 2061, 2117, 2145, 2197, 2249, 2313, 2341, 2354, 2367])), (252, (.aload_n 1, 1, [])), (253, (.aload_n 0, 1, [])), (254, (.iload 4, 2, [])), (256, (.iconst 1, 1, [])), (257, (.iadd, 1, [])), (258, (.iaload, 1, [])), (259, (.aload_n 0, 1, [])), (260, (.iload 4, 2, [])), (262, (.iconst 2, 1, [])), (263, (.iadd, 1, [])), (264, (.iaload, 1, [])), (265, (.aload_n 0, 1, [])), (266, (.iload 4, 2, [])), (268, (.iconst 3, 1, []))]
set_option maxRecDepth 100000 in
theorem sgd_0 : ((dm_c 329).drop 0).take 40 = sg_0 := by decide +kernel
set_option maxRecDepth 100000 in
theorem sgp_0 : ((dm_c 329).take 0).all (fun x => Nat.blt x.1 0) = true := by decide +kernel
theorem la_0 : dm_at 329 0 = some (.new 8, 3, [8, 1027, 1028, 1001]) := la_of sgp_0 rfl sgd_0 rfl
theorem la_3 : dm_at 329 3 = some (.dup, 1, []) := la_of sgp_0 rfl sgd_0 rfl
theorem la_4 : dm_at 329 4 = some (.invokespecial 173, 3, [54, 2, 1029, 1030, 1001, 1031]) := la_of sgp_0 rfl sgd_0 rfl
theorem la_7 : dm_at 329 7 = some (.astore_n 1, 1, []) := la_of sgp_0 rfl sgd_0 rfl
theorem la_8 : dm_at 329 8 = some (.new 174, 3, [10, 6026, 6027, 1008]) := la_of sgp_0 rfl sgd_0 rfl
theorem la_11 : dm_at 329 11 = some (.dup, 1, []) := la_of sgp_0 rfl sgd_0 rfl
theorem la_12 : dm_at 329 12 = some (.invokespecial 176, 3, [125, 2, 6028, 6029, 1008, 6030]) := la_of sgp_0 rfl sgd_0 rfl
theorem la_15 : dm_at 329 15 = some (.astore_n 2, 1, []) := la_of sgp_0 rfl sgd_0 rfl
theorem la_16 : dm_at 329 16 = some (.new 14, 3, [9, 3090, 3091, 1009]) := la_of sgp_0 rfl sgd_0 rfl
theorem la_19 : dm_at 329 19 = some (.dup, 1, []) := la_of sgp_0 rfl sgd_0 rfl
theorem la_20 : dm_at 329 20 = some (.invokespecial 177, 3, [124, 5, 3092, 3093, 1009, 3094]) := la_of sgp_0 rfl sgd_0 rfl
theorem la_23 : dm_at 329 23 = some (.astore_n 3, 1, []) := la_of sgp_0 rfl sgd_0 rfl
theorem la_24 : dm_at 329 24 = some (.iconst 0, 1, []) := la_of sgp_0 rfl sgd_0 rfl
theorem la_25 : dm_at 329 25 = some (.istore 4, 2, []) := la_of sgp_0 rfl sgd_0 rfl
theorem la_27 : dm_at 329 27 = some (.iload 4, 2, []) := la_of sgp_0 rfl sgd_0 rfl
theorem la_29 : dm_at 329 29 = some (.aload_n 0, 1, []) := la_of sgp_0 rfl sgd_0 rfl
theorem la_30 : dm_at 329 30 = some (.arraylength, 1, []) := la_of sgp_0 rfl sgd_0 rfl
theorem la_31 : dm_at 329 31 = some (.bipush 6, 2, []) := la_of sgp_0 rfl sgd_0 rfl
theorem la_33 : dm_at 329 33 = some (.isub, 1, []) := la_of sgp_0 rfl sgd_0 rfl
theorem la_34 : dm_at 329 34 = some (.if_icmp .gt 2352, 3, [2386]) := la_of sgp_0 rfl sgd_0 rfl
theorem la_37 : dm_at 329 37 = some (.aload_n 0, 1, []) := la_of sgp_0 rfl sgd_0 rfl
theorem la_38 : dm_at 329 38 = some (.iload 4, 2, []) := la_of sgp_0 rfl sgd_0 rfl
theorem la_40 : dm_at 329 40 = some (.iaload, 1, []) := la_of sgp_0 rfl sgd_0 rfl
theorem la_41 : dm_at 329 41 = some (.bipush 63, 2, []) := la_of sgp_0 rfl sgd_0 rfl
theorem la_43 : dm_at 329 43 = some (.iand, 1, []) := la_of sgp_0 rfl sgd_0 rfl
theorem la_44 : dm_at 329 44 = some (.tableswitch 2336 0 47 #[208, 272, 336, 400, 464, 540, 592, 656, 696, 752, 780, 820, 860, 928, 980, 1020, 1072, 1112, 1156, 1172, 1200, 1216, 1244, 1260, 1288, 1304, 1344, 1408, 1460, 1500, 1564, 1628, 1704, 1760, 1800, 1857, 1897, 1937, 1977, 2017, 2073, 2101, 2153, 2205, 2269, 2297, 2310, 2323], 208, [2380, 252, 316, 380, 444, 508, 584, 636, 700, 740, 796, 824, 864, 904, 972, 1024, 1064, 1116, 1156, 1200, 1216, 1244, 1260, 1288, 1304, 1332, 1348, 1388, 1452, 1504, 1544, 1608, 1672, 1748, 1804, 1844, 1901, 1941, 1981, 2021, 2061, 2117, 2145, 2197, 2249, 2313, 2341, 2354, 2367]) := la_of sgp_0 rfl sgd_0 rfl
theorem la_252 : dm_at 329 252 = some (.aload_n 1, 1, []) := la_of sgp_0 rfl sgd_0 rfl
theorem la_253 : dm_at 329 253 = some (.aload_n 0, 1, []) := la_of sgp_0 rfl sgd_0 rfl
theorem la_254 : dm_at 329 254 = some (.iload 4, 2, []) := la_of sgp_0 rfl sgd_0 rfl
theorem la_256 : dm_at 329 256 = some (.iconst 1, 1, []) := la_of sgp_0 rfl sgd_0 rfl
theorem la_257 : dm_at 329 257 = some (.iadd, 1, []) := la_of sgp_0 rfl sgd_0 rfl
theorem la_258 : dm_at 329 258 = some (.iaload, 1, []) := la_of sgp_0 rfl sgd_0 rfl
theorem la_259 : dm_at 329 259 = some (.aload_n 0, 1, []) := la_of sgp_0 rfl sgd_0 rfl
theorem la_260 : dm_at 329 260 = some (.iload 4, 2, []) := la_of sgp_0 rfl sgd_0 rfl
theorem la_262 : dm_at 329 262 = some (.iconst 2, 1, []) := la_of sgp_0 rfl sgd_0 rfl
theorem la_263 : dm_at 329 263 = some (.iadd, 1, []) := la_of sgp_0 rfl sgd_0 rfl
theorem la_264 : dm_at 329 264 = some (.iaload, 1, []) := la_of sgp_0 rfl sgd_0 rfl
theorem la_265 : dm_at 329 265 = some (.aload_n 0, 1, []) := la_of sgp_0 rfl sgd_0 rfl
theorem la_266 : dm_at 329 266 = some (.iload 4, 2, []) := la_of sgp_0 rfl sgd_0 rfl
theorem la_268 : dm_at 329 268 = some (.iconst 3, 1, []) := la_of sgp_0 rfl sgd_0 rfl
set_option maxRecDepth 100000 in
def sg_1 : List (Nat × dm_I) := [(269, (.iadd, 1, [])), (270, (.iaload, 1, [])), (271, (.aload_n 0, 1, [])), (272, (.iload 4, 2, [])), (274, (.iconst 4, 1, [])), (275, (.iadd, 1, [])), (276, (.iaload, 1, [])), (277, (.aload_n 3, 1, [])), (278, (.invokestatic 178, 3, [284, 0, 3103, 3104, 1000, 3105])), (281, (.istore 5, 2, [])), (283, (.aload_n 2, 1, [])), (284, (.aload_n 0, 1, [])), (285, (.iload 4, 2, [])), (287, (.iconst 1, 1, [])), (288, (.iadd, 1, [])), (289, (.iaload, 1, [])), (290, (.aload_n 0, 1, [])), (291, (.iload 4, 2, [])), (293, (.iconst 2, 1, [])), (294, (.iadd, 1, [])), (295, (.iaload, 1, [])), (296, (.aload_n 0, 1, [])), (297, (.iload 4, 2, [])), (299, (.iconst 3, 1, [])), (300, (.iadd, 1, [])), (301, (.iaload, 1, [])), (302, (.aload_n 0, 1, [])), (303, (.iload 4, 2, [])), (305, (.iconst 4, 1, [])), (306, (.iadd, 1, [])), (307, (.iaload, 1, [])), (308, (.invokevirtual 183, 3, [143, 1, 6078, 6079, 6080, 1008, 6081])), (311, (.istore 6, 2, [])), (313, (.goto 2067, 3, [2380])), (316, (.aload_n 1, 1, [])), (317, (.aload_n 0, 1, [])), (318, (.iload 4, 2, [])), (320, (.iconst 1, 1, [])), (321, (.iadd, 1, [])), (322, (.iaload, 1, []))]
set_option maxRecDepth 100000 in
theorem sgd_1 : ((dm_c 329).drop 40).take 40 = sg_1 := by decide +kernel
set_option maxRecDepth 100000 in
theorem sgp_1 : ((dm_c 329).take 40).all (fun x => Nat.blt x.1 269) = true := by decide +kernel
theorem la_269 : dm_at 329 269 = some (.iadd, 1, []) := la_of sgp_1 rfl sgd_1 rfl
theorem la_270 : dm_at 329 270 = some (.iaload, 1, []) := la_of sgp_1 rfl sgd_1 rfl
theorem la_271 : dm_at 329 271 = some (.aload_n 0, 1, []) := la_of sgp_1 rfl sgd_1 rfl
theorem la_272 : dm_at 329 272 = some (.iload 4, 2, []) := la_of sgp_1 rfl sgd_1 rfl
theorem la_274 : dm_at 329 274 = some (.iconst 4, 1, []) := la_of sgp_1 rfl sgd_1 rfl
theorem la_275 : dm_at 329 275 = some (.iadd, 1, []) := la_of sgp_1 rfl sgd_1 rfl
theorem la_276 : dm_at 329 276 = some (.iaload, 1, []) := la_of sgp_1 rfl sgd_1 rfl
theorem la_277 : dm_at 329 277 = some (.aload_n 3, 1, []) := la_of sgp_1 rfl sgd_1 rfl
theorem la_278 : dm_at 329 278 = some (.invokestatic 178, 3, [284, 0, 3103, 3104, 1000, 3105]) := la_of sgp_1 rfl sgd_1 rfl
theorem la_281 : dm_at 329 281 = some (.istore 5, 2, []) := la_of sgp_1 rfl sgd_1 rfl
theorem la_283 : dm_at 329 283 = some (.aload_n 2, 1, []) := la_of sgp_1 rfl sgd_1 rfl
theorem la_284 : dm_at 329 284 = some (.aload_n 0, 1, []) := la_of sgp_1 rfl sgd_1 rfl
theorem la_285 : dm_at 329 285 = some (.iload 4, 2, []) := la_of sgp_1 rfl sgd_1 rfl
theorem la_287 : dm_at 329 287 = some (.iconst 1, 1, []) := la_of sgp_1 rfl sgd_1 rfl
theorem la_288 : dm_at 329 288 = some (.iadd, 1, []) := la_of sgp_1 rfl sgd_1 rfl
theorem la_289 : dm_at 329 289 = some (.iaload, 1, []) := la_of sgp_1 rfl sgd_1 rfl
theorem la_290 : dm_at 329 290 = some (.aload_n 0, 1, []) := la_of sgp_1 rfl sgd_1 rfl
theorem la_291 : dm_at 329 291 = some (.iload 4, 2, []) := la_of sgp_1 rfl sgd_1 rfl
theorem la_293 : dm_at 329 293 = some (.iconst 2, 1, []) := la_of sgp_1 rfl sgd_1 rfl
theorem la_294 : dm_at 329 294 = some (.iadd, 1, []) := la_of sgp_1 rfl sgd_1 rfl
theorem la_295 : dm_at 329 295 = some (.iaload, 1, []) := la_of sgp_1 rfl sgd_1 rfl
theorem la_296 : dm_at 329 296 = some (.aload_n 0, 1, []) := la_of sgp_1 rfl sgd_1 rfl
theorem la_297 : dm_at 329 297 = some (.iload 4, 2, []) := la_of sgp_1 rfl sgd_1 rfl
theorem la_299 : dm_at 329 299 = some (.iconst 3, 1, []) := la_of sgp_1 rfl sgd_1 rfl
theorem la_300 : dm_at 329 300 = some (.iadd, 1, []) := la_of sgp_1 rfl sgd_1 rfl
theorem la_301 : dm_at 329 301 = some (.iaload, 1, []) := la_of sgp_1 rfl sgd_1 rfl
theorem la_302 : dm_at 329 302 = some (.aload_n 0, 1, []) := la_of sgp_1 rfl sgd_1 rfl
theorem la_303 : dm_at 329 303 = some (.iload 4, 2, []) := la_of sgp_1 rfl sgd_1 rfl
theorem la_305 : dm_at 329 305 = some (.iconst 4, 1, []) := la_of sgp_1 rfl sgd_1 rfl
theorem la_306 : dm_at 329 306 = some (.iadd, 1, []) := la_of sgp_1 rfl sgd_1 rfl
theorem la_307 : dm_at 329 307 = some (.iaload, 1, []) := la_of sgp_1 rfl sgd_1 rfl
theorem la_308 : dm_at 329 308 = some (.invokevirtual 183, 3, [143, 1, 6078, 6079, 6080, 1008, 6081]) := la_of sgp_1 rfl sgd_1 rfl
theorem la_311 : dm_at 329 311 = some (.istore 6, 2, []) := la_of sgp_1 rfl sgd_1 rfl
theorem la_313 : dm_at 329 313 = some (.goto 2067, 3, [2380]) := la_of sgp_1 rfl sgd_1 rfl
theorem la_316 : dm_at 329 316 = some (.aload_n 1, 1, []) := la_of sgp_1 rfl sgd_1 rfl
theorem la_317 : dm_at 329 317 = some (.aload_n 0, 1, []) := la_of sgp_1 rfl sgd_1 rfl
theorem la_318 : dm_at 329 318 = some (.iload 4, 2, []) := la_of sgp_1 rfl sgd_1 rfl
theorem la_320 : dm_at 329 320 = some (.iconst 1, 1, []) := la_of sgp_1 rfl sgd_1 rfl
theorem la_321 : dm_at 329 321 = some (.iadd, 1, []) := la_of sgp_1 rfl sgd_1 rfl
theorem la_322 : dm_at 329 322 = some (.iaload, 1, []) := la_of sgp_1 rfl sgd_1 rfl
set_option maxRecDepth 100000 in
def sg_2 : List (Nat × dm_I) := [(323, (.aload_n 0, 1, [])), (324, (.iload 4, 2, [])), (326, (.iconst 2, 1, [])), (327, (.iadd, 1, [])), (328, (.iaload, 1, [])), (329, (.aload_n 0, 1, [])), (330, (.iload 4, 2, [])), (332, (.iconst 3, 1, [])), (333, (.iadd, 1, [])), (334, (.iaload, 1, [])), (335, (.aload_n 0, 1, [])), (336, (.iload 4, 2, [])), (338, (.iconst 4, 1, [])), (339, (.iadd, 1, [])), (340, (.iaload, 1, [])), (341, (.aload_n 3, 1, [])), (342, (.invokestatic 184, 3, [285, 0, 3136, 3137, 1000, 3138])), (345, (.istore 5, 2, [])), (347, (.aload_n 2, 1, [])), (348, (.aload_n 0, 1, [])), (349, (.iload 4, 2, [])), (351, (.iconst 1, 1, [])), (352, (.iadd, 1, [])), (353, (.iaload, 1, [])), (354, (.aload_n 0, 1, [])), (355, (.iload 4, 2, [])), (357, (.iconst 2, 1, [])), (358, (.iadd, 1, [])), (359, (.iaload, 1, [])), (360, (.aload_n 0, 1, [])), (361, (.iload 4, 2, [])), (363, (.iconst 3, 1, [])), (364, (.iadd, 1, [])), (365, (.iaload, 1, [])), (366, (.aload_n 0, 1, [])), (367, (.iload 4, 2, [])), (369, (.iconst 4, 1, [])), (370, (.iadd, 1, [])), (371, (.iaload, 1, [])), (372, (.invokevirtual 186, 3, [144, 1, 6123, 6124, 6125, 1008, 6126]))]
set_option maxRecDepth 100000 in
theorem sgd_2 : ((dm_c 329).drop 80).take 40 = sg_2 := by decide +kernel
set_option maxRecDepth 100000 in
theorem sgp_2 : ((dm_c 329).take 80).all (fun x => Nat.blt x.1 323) = true := by decide +kernel
theorem la_323 : dm_at 329 323 = some (.aload_n 0, 1, []) := la_of sgp_2 rfl sgd_2 rfl
theorem la_324 : dm_at 329 324 = some (.iload 4, 2, []) := la_of sgp_2 rfl sgd_2 rfl
theorem la_326 : dm_at 329 326 = some (.iconst 2, 1, []) := la_of sgp_2 rfl sgd_2 rfl
theorem la_327 : dm_at 329 327 = some (.iadd, 1, []) := la_of sgp_2 rfl sgd_2 rfl
theorem la_328 : dm_at 329 328 = some (.iaload, 1, []) := la_of sgp_2 rfl sgd_2 rfl
theorem la_329 : dm_at 329 329 = some (.aload_n 0, 1, []) := la_of sgp_2 rfl sgd_2 rfl
theorem la_330 : dm_at 329 330 = some (.iload 4, 2, []) := la_of sgp_2 rfl sgd_2 rfl
theorem la_332 : dm_at 329 332 = some (.iconst 3, 1, []) := la_of sgp_2 rfl sgd_2 rfl
theorem la_333 : dm_at 329 333 = some (.iadd, 1, []) := la_of sgp_2 rfl sgd_2 rfl
theorem la_334 : dm_at 329 334 = some (.iaload, 1, []) := la_of sgp_2 rfl sgd_2 rfl
theorem la_335 : dm_at 329 335 = some (.aload_n 0, 1, []) := la_of sgp_2 rfl sgd_2 rfl
theorem la_336 : dm_at 329 336 = some (.iload 4, 2, []) := la_of sgp_2 rfl sgd_2 rfl
theorem la_338 : dm_at 329 338 = some (.iconst 4, 1, []) := la_of sgp_2 rfl sgd_2 rfl
theorem la_339 : dm_at 329 339 = some (.iadd, 1, []) := la_of sgp_2 rfl sgd_2 rfl
theorem la_340 : dm_at 329 340 = some (.iaload, 1, []) := la_of sgp_2 rfl sgd_2 rfl
theorem la_341 : dm_at 329 341 = some (.aload_n 3, 1, []) := la_of sgp_2 rfl sgd_2 rfl
theorem la_342 : dm_at 329 342 = some (.invokestatic 184, 3, [285, 0, 3136, 3137, 1000, 3138]) := la_of sgp_2 rfl sgd_2 rfl
theorem la_345 : dm_at 329 345 = some (.istore 5, 2, []) := la_of sgp_2 rfl sgd_2 rfl
theorem la_347 : dm_at 329 347 = some (.aload_n 2, 1, []) := la_of sgp_2 rfl sgd_2 rfl
theorem la_348 : dm_at 329 348 = some (.aload_n 0, 1, []) := la_of sgp_2 rfl sgd_2 rfl
theorem la_349 : dm_at 329 349 = some (.iload 4, 2, []) := la_of sgp_2 rfl sgd_2 rfl
theorem la_351 : dm_at 329 351 = some (.iconst 1, 1, []) := la_of sgp_2 rfl sgd_2 rfl
theorem la_352 : dm_at 329 352 = some (.iadd, 1, []) := la_of sgp_2 rfl sgd_2 rfl
theorem la_353 : dm_at 329 353 = some (.iaload, 1, []) := la_of sgp_2 rfl sgd_2 rfl
theorem la_354 : dm_at 329 354 = some (.aload_n 0, 1, []) := la_of sgp_2 rfl sgd_2 rfl
theorem la_355 : dm_at 329 355 = some (.iload 4, 2, []) := la_of sgp_2 rfl sgd_2 rfl
theorem la_357 : dm_at 329 357 = some (.iconst 2, 1, []) := la_of sgp_2 rfl sgd_2 rfl
theorem la_358 : dm_at 329 358 = some (.iadd, 1, []) := la_of sgp_2 rfl sgd_2 rfl
theorem la_359 : dm_at 329 359 = some (.iaload, 1, []) := la_of sgp_2 rfl sgd_2 rfl
theorem la_360 : dm_at 329 360 = some (.aload_n 0, 1, []) := la_of sgp_2 rfl sgd_2 rfl
theorem la_361 : dm_at 329 361 = some (.iload 4, 2, []) := la_of sgp_2 rfl sgd_2 rfl
theorem la_363 : dm_at 329 363 = some (.iconst 3, 1, []) := la_of sgp_2 rfl sgd_2 rfl
theorem la_364 : dm_at 329 364 = some (.iadd, 1, []) := la_of sgp_2 rfl sgd_2 rfl
theorem la_365 : dm_at 329 365 = some (.iaload, 1, []) := la_of sgp_2 rfl sgd_2 rfl
theorem la_366 : dm_at 329 366 = some (.aload_n 0, 1, []) := la_of sgp_2 rfl sgd_2 rfl
theorem la_367 : dm_at 329 367 = some (.iload 4, 2, []) := la_of sgp_2 rfl sgd_2 rfl
theorem la_369 : dm_at 329 369 = some (.iconst 4, 1, []) := la_of sgp_2 rfl sgd_2 rfl
theorem la_370 : dm_at 329 370 = some (.iadd, 1, []) := la_of sgp_2 rfl sgd_2 rfl
theorem la_371 : dm_at 329 371 = some (.iaload, 1, []) := la_of sgp_2 rfl sgd_2 rfl
theorem la_372 : dm_at 329 372 = some (.invokevirtual 186, 3, [144, 1, 6123, 6124, 6125, 1008, 6126]) := la_of sgp_2 rfl sgd_2 rfl
set_option maxRecDepth 100000 in
def sg_3 : List (Nat × dm_I) := [(375, (.istore 6, 2, [])), (377, (.goto 2003, 3, [2380])), (380, (.aload_n 1, 1, [])), (381, (.aload_n 0, 1, [])), (382, (.iload 4, 2, [])), (384, (.iconst 1, 1, [])), (385, (.iadd, 1, [])), (386, (.iaload, 1, [])), (387, (.aload_n 0, 1, [])), (388, (.iload 4, 2, [])), (390, (.iconst 2, 1, [])), (391, (.iadd, 1, [])), (392, (.iaload, 1, [])), (393, (.aload_n 0, 1, [])), (394, (.iload 4, 2, [])), (396, (.iconst 3, 1, [])), (397, (.iadd, 1, [])), (398, (.iaload, 1, [])), (399, (.aload_n 0, 1, [])), (400, (.iload 4, 2, [])), (402, (.iconst 4, 1, [])), (403, (.iadd, 1, [])), (404, (.iaload, 1, [])), (405, (.aload_n 3, 1, [])), (406, (.invokestatic 187, 3, [286, 0, 3143, 3144, 1000, 3145])), (409, (.istore 5, 2, [])), (411, (.aload_n 2, 1, [])), (412, (.aload_n 0, 1, [])), (413, (.iload 4, 2, [])), (415, (.iconst 1, 1, [])), (416, (.iadd, 1, [])), (417, (.iaload, 1, [])), (418, (.aload_n 0, 1, [])), (419, (.iload 4, 2, [])), (421, (.iconst 2, 1, [])), (422, (.iadd, 1, [])), (423, (.iaload, 1, [])), (424, (.aload_n 0, 1, [])), (425, (.iload 4, 2, [])), (427, (.iconst 3, 1, []))]
set_option maxRecDepth 100000 in
theorem sgd_3 : ((dm_c 329).drop 120).take 40 = sg_3 := by decide +kernel
set_option maxRecDepth 100000 in
theorem sgp_3 : ((dm_c 329).take 120).all (fun x => Nat.blt x.1 375) = true := by decide +kernel
theorem la_375 : dm_at 329 375 = some (.istore 6, 2, []) := la_of sgp_3 rfl sgd_3 rfl
theorem la_377 : dm_at 329 377 = some (.goto 2003, 3, [2380]) := la_of sgp_3 rfl sgd_3 rfl
theorem la_380 : dm_at 329 380 = some (.aload_n 1, 1, []) := la_of sgp_3 rfl sgd_3 rfl
theorem la_381 : dm_at 329 381 = some (.aload_n 0, 1, []) := la_of sgp_3 rfl sgd_3 rfl
theorem la_382 : dm_at 329 382 = some (.iload 4, 2, []) := la_of sgp_3 rfl sgd_3 rfl
theorem la_384 : dm_at 329 384 = some (.iconst 1, 1, []) := la_of sgp_3 rfl sgd_3 rfl
theorem la_385 : dm_at 329 385 = some (.iadd, 1, []) := la_of sgp_3 rfl sgd_3 rfl
theorem la_386 : dm_at 329 386 = some (.iaload, 1, []) := la_of sgp_3 rfl sgd_3 rfl
theorem la_387 : dm_at 329 387 = some (.aload_n 0, 1, []) := la_of sgp_3 rfl sgd_3 rfl
theorem la_388 : dm_at 329 388 = some (.iload 4, 2, []) := la_of sgp_3 rfl sgd_3 rfl
theorem la_390 : dm_at 329 390 = some (.iconst 2, 1, []) := la_of sgp_3 rfl sgd_3 rfl
theorem la_391 : dm_at 329 391 = some (.iadd, 1, []) := la_of sgp_3 rfl sgd_3 rfl
theorem la_392 : dm_at 329 392 = some (.iaload, 1, []) := la_of sgp_3 rfl sgd_3 rfl
theorem la_393 : dm_at 329 393 = some (.aload_n 0, 1, []) := la_of sgp_3 rfl sgd_3 rfl
theorem la_394 : dm_at 329 394 = some (.iload 4, 2, []) := la_of sgp_3 rfl sgd_3 rfl
theorem la_396 : dm_at 329 396 = some (.iconst 3, 1, []) := la_of sgp_3 rfl sgd_3 rfl
theorem la_397 : dm_at 329 397 = some (.iadd, 1, []) := la_of sgp_3 rfl sgd_3 rfl
theorem la_398 : dm_at 329 398 = some (.iaload, 1, []) := la_of sgp_3 rfl sgd_3 rfl
theorem la_399 : dm_at 329 399 = some (.aload_n 0, 1, []) := la_of sgp_3 rfl sgd_3 rfl
theorem la_400 : dm_at 329 400 = some (.iload 4, 2, []) := la_of sgp_3 rfl sgd_3 rfl
theorem la_402 : dm_at 329 402 = some (.iconst 4, 1, []) := la_of sgp_3 rfl sgd_3 rfl
theorem la_403 : dm_at 329 403 = some (.iadd, 1, []) := la_of sgp_3 rfl sgd_3 rfl
theorem la_404 : dm_at 329 404 = some (.iaload, 1, []) := la_of sgp_3 rfl sgd_3 rfl
theorem la_405 : dm_at 329 405 = some (.aload_n 3, 1, []) := la_of sgp_3 rfl sgd_3 rfl
theorem la_406 : dm_at 329 406 = some (.invokestatic 187, 3, [286, 0, 3143, 3144, 1000, 3145]) := la_of sgp_3 rfl sgd_3 rfl
theorem la_409 : dm_at 329 409 = some (.istore 5, 2, []) := la_of sgp_3 rfl sgd_3 rfl
theorem la_411 : dm_at 329 411 = some (.aload_n 2, 1, []) := la_of sgp_3 rfl sgd_3 rfl
theorem la_412 : dm_at 329 412 = some (.aload_n 0, 1, []) := la_of sgp_3 rfl sgd_3 rfl
theorem la_413 : dm_at 329 413 = some (.iload 4, 2, []) := la_of sgp_3 rfl sgd_3 rfl
theorem la_415 : dm_at 329 415 = some (.iconst 1, 1, []) := la_of sgp_3 rfl sgd_3 rfl
theorem la_416 : dm_at 329 416 = some (.iadd, 1, []) := la_of sgp_3 rfl sgd_3 rfl
theorem la_417 : dm_at 329 417 = some (.iaload, 1, []) := la_of sgp_3 rfl sgd_3 rfl
theorem la_418 : dm_at 329 418 = some (.aload_n 0, 1, []) := la_of sgp_3 rfl sgd_3 rfl
theorem la_419 : dm_at 329 419 = some (.iload 4, 2, []) := la_of sgp_3 rfl sgd_3 rfl
theorem la_421 : dm_at 329 421 = some (.iconst 2, 1, []) := la_of sgp_3 rfl sgd_3 rfl
theorem la_422 : dm_at 329 422 = some (.iadd, 1, []) := la_of sgp_3 rfl sgd_3 rfl
theorem la_423 : dm_at 329 423 = some (.iaload, 1, []) := la_of sgp_3 rfl sgd_3 rfl
theorem la_424 : dm_at 329 424 = some (.aload_n 0, 1, []) := la_of sgp_3 rfl sgd_3 rfl
theorem la_425 : dm_at 329 425 = some (.iload 4, 2, []) := la_of sgp_3 rfl sgd_3 rfl
theorem la_427 : dm_at 329 427 = some (.iconst 3, 1, []) := la_of sgp_3 rfl sgd_3 rfl
set_option maxRecDepth 100000 in
def sg_4 : List (Nat × dm_I) := [(428, (.iadd, 1, [])), (429, (.iaload, 1, [])), (430, (.aload_n 0, 1, [])), (431, (.iload 4, 2, [])), (433, (.iconst 4, 1, [])), (434, (.iadd, 1, [])), (435, (.iaload, 1, [])), (436, (.invokevirtual 189, 3, [145, 1, 6131, 6132, 6133, 1008, 6134])), (439, (.istore 6, 2, [])), (441, (.goto 1939, 3, [2380])), (444, (.aload_n 1, 1, [])), (445, (.aload_n 0, 1, [])), (446, (.iload 4, 2, [])), (448, (.iconst 1, 1, [])), (449, (.iadd, 1, [])), (450, (.iaload, 1, [])), (451, (.aload_n 0, 1, [])), (452, (.iload 4, 2, [])), (454, (.iconst 2, 1, [])), (455, (.iadd, 1, [])), (456, (.iaload, 1, [])), (457, (.aload_n 0, 1, [])), (458, (.iload 4, 2, [])), (460, (.iconst 3, 1, [])), (461, (.iadd, 1, [])), (462, (.iaload, 1, [])), (463, (.aload_n 0, 1, [])), (464, (.iload 4, 2, [])), (466, (.iconst 4, 1, [])), (467, (.iadd, 1, [])), (468, (.iaload, 1, [])), (469, (.aload_n 3, 1, [])), (470, (.invokestatic 190, 3, [287, 0, 3150, 3151, 1000, 3152])), (473, (.istore 5, 2, [])), (475, (.aload_n 2, 1, [])), (476, (.aload_n 0, 1, [])), (477, (.iload 4, 2, [])), (479, (.iconst 1, 1, [])), (480, (.iadd, 1, [])), (481, (.iaload, 1, []))]
set_option maxRecDepth 100000 in
theorem sgd_4 : ((dm_c 329).drop 160).take 40 = sg_4 := by decide +kernel
set_option maxRecDepth 100000 in
theorem sgp_4 : ((dm_c 329).take 160).all (fun x => Nat.blt x.1 428) = true := by decide +kernel
theorem la_428 : dm_at 329 428 = some (.iadd, 1, []) := la_of sgp_4 rfl sgd_4 rfl
theorem la_429 : dm_at 329 429 = some (.iaload, 1, []) := la_of sgp_4 rfl sgd_4 rfl
theorem la_430 : dm_at 329 430 = some (.aload_n 0, 1, []) := la_of sgp_4 rfl sgd_4 rfl
theorem la_431 : dm_at 329 431 = some (.iload 4, 2, []) := la_of sgp_4 rfl sgd_4 rfl
theorem la_433 : dm_at 329 433 = some (.iconst 4, 1, []) := la_of sgp_4 rfl sgd_4 rfl
theorem la_434 : dm_at 329 434 = some (.iadd, 1, []) := la_of sgp_4 rfl sgd_4 rfl
theorem la_435 : dm_at 329 435 = some (.iaload, 1, []) := la_of sgp_4 rfl sgd_4 rfl
theorem la_436 : dm_at 329 436 = some (.invokevirtual 189, 3, [145, 1, 6131, 6132, 6133, 1008, 6134]) := la_of sgp_4 rfl sgd_4 rfl
theorem la_439 : dm_at 329 439 = some (.istore 6, 2, []) := la_of sgp_4 rfl sgd_4 rfl
theorem la_441 : dm_at 329 441 = some (.goto 1939, 3, [2380]) := la_of sgp_4 rfl sgd_4 rfl
theorem la_444 : dm_at 329 444 = some (.aload_n 1, 1, []) := la_of sgp_4 rfl sgd_4 rfl
theorem la_445 : dm_at 329 445 = some (.aload_n 0, 1, []) := la_of sgp_4 rfl sgd_4 rfl
theorem la_446 : dm_at 329 446 = some (.iload 4, 2, []) := la_of sgp_4 rfl sgd_4 rfl
theorem la_448 : dm_at 329 448 = some (.iconst 1, 1, []) := la_of sgp_4 rfl sgd_4 rfl
theorem la_449 : dm_at 329 449 = some (.iadd, 1, []) := la_of sgp_4 rfl sgd_4 rfl
theorem la_450 : dm_at 329 450 = some (.iaload, 1, []) := la_of sgp_4 rfl sgd_4 rfl
theorem la_451 : dm_at 329 451 = some (.aload_n 0, 1, []) := la_of sgp_4 rfl sgd_4 rfl
theorem la_452 : dm_at 329 452 = some (.iload 4, 2, []) := la_of sgp_4 rfl sgd_4 rfl
theorem la_454 : dm_at 329 454 = some (.iconst 2, 1, []) := la_of sgp_4 rfl sgd_4 rfl
theorem la_455 : dm_at 329 455 = some (.iadd, 1, []) := la_of sgp_4 rfl sgd_4 rfl
theorem la_456 : dm_at 329 456 = some (.iaload, 1, []) := la_of sgp_4 rfl sgd_4 rfl
theorem la_457 : dm_at 329 457 = some (.aload_n 0, 1, []) := la_of sgp_4 rfl sgd_4 rfl
theorem la_458 : dm_at 329 458 = some (.iload 4, 2, []) := la_of sgp_4 rfl sgd_4 rfl
theorem la_460 : dm_at 329 460 = some (.iconst 3, 1, []) := la_of sgp_4 rfl sgd_4 rfl
theorem la_461 : dm_at 329 461 = some (.iadd, 1, []) := la_of sgp_4 rfl sgd_4 rfl
theorem la_462 : dm_at 329 462 = some (.iaload, 1, []) := la_of sgp_4 rfl sgd_4 rfl
theorem la_463 : dm_at 329 463 = some (.aload_n 0, 1, []) := la_of sgp_4 rfl sgd_4 rfl
theorem la_464 : dm_at 329 464 = some (.iload 4, 2, []) := la_of sgp_4 rfl sgd_4 rfl
theorem la_466 : dm_at 329 466 = some (.iconst 4, 1, []) := la_of sgp_4 rfl sgd_4 rfl
theorem la_467 : dm_at 329 467 = some (.iadd, 1, []) := la_of sgp_4 rfl sgd_4 rfl
theorem la_468 : dm_at 329 468 = some (.iaload, 1, []) := la_of sgp_4 rfl sgd_4 rfl
theorem la_469 : dm_at 329 469 = some (.aload_n 3, 1, []) := la_of sgp_4 rfl sgd_4 rfl
theorem la_470 : dm_at 329 470 = some (.invokestatic 190, 3, [287, 0, 3150, 3151, 1000, 3152]) := la_of sgp_4 rfl sgd_4 rfl
theorem la_473 : dm_at 329 473 = some (.istore 5, 2, []) := la_of sgp_4 rfl sgd_4 rfl
theorem la_475 : dm_at 329 475 = some (.aload_n 2, 1, []) := la_of sgp_4 rfl sgd_4 rfl
theorem la_476 : dm_at 329 476 = some (.aload_n 0, 1, []) := la_of sgp_4 rfl sgd_4 rfl
theorem la_477 : dm_at 329 477 = some (.iload 4, 2, []) := la_of sgp_4 rfl sgd_4 rfl
theorem la_479 : dm_at 329 479 = some (.iconst 1, 1, []) := la_of sgp_4 rfl sgd_4 rfl
theorem la_480 : dm_at 329 480 = some (.iadd, 1, []) := la_of sgp_4 rfl sgd_4 rfl
theorem la_481 : dm_at 329 481 = some (.iaload, 1, []) := la_of sgp_4 rfl sgd_4 rfl
set_option maxRecDepth 100000 in
def sg_5 : List (Nat × dm_I) := [(482, (.aload_n 0, 1, [])), (483, (.iload 4, 2, [])), (485, (.iconst 2, 1, [])), (486, (.iadd, 1, [])), (487, (.iaload, 1, [])), (488, (.aload_n 0, 1, [])), (489, (.iload 4, 2, [])), (491, (.iconst 3, 1, [])), (492, (.iadd, 1, [])), (493, (.iaload, 1, [])), (494, (.aload_n 0, 1, [])), (495, (.iload 4, 2, [])), (497, (.iconst 4, 1, [])), (498, (.iadd, 1, [])), (499, (.iaload, 1, [])), (500, (.invokevirtual 192, 3, [146, 1, 6135, 6136, 6137, 1008, 6138])), (503, (.istore 6, 2, [])), (505, (.goto 1875, 3, [2380])), (508, (.aload_n 1, 1, [])), (509, (.aload_n 0, 1, [])), (510, (.iload 4, 2, [])), (512, (.iconst 1, 1, [])), (513, (.iadd, 1, [])), (514, (.iaload, 1, [])), (515, (.aload_n 0, 1, [])), (516, (.iload 4, 2, [])), (518, (.iconst 2, 1, [])), (519, (.iadd, 1, [])), (520, (.iaload, 1, [])), (521, (.aload_n 0, 1, [])), (522, (.iload 4, 2, [])), (524, (.iconst 3, 1, [])), (525, (.iadd, 1, [])), (526, (.iaload, 1, [])), (527, (.aload_n 0, 1, [])), (528, (.iload 4, 2, [])), (530, (.iconst 4, 1, [])), (531, (.iadd, 1, [])), (532, (.iaload, 1, [])), (533, (.aload_n 0, 1, []))]
set_option maxRecDepth 100000 in
theorem sgd_5 : ((dm_c 329).drop 200).take 40 = sg_5 := by decide +kernel
set_option maxRecDepth 100000 in
theorem sgp_5 : ((dm_c 329).take 200).all (fun x => Nat.blt x.1 482) = true := by decide +kernel
theorem la_482 : dm_at 329 482 = some (.aload_n 0, 1, []) := la_of sgp_5 rfl sgd_5 rfl
theorem la_483 : dm_at 329 483 = some (.iload 4, 2, []) := la_of sgp_5 rfl sgd_5 rfl
theorem la_485 : dm_at 329 485 = some (.iconst 2, 1, []) := la_of sgp_5 rfl sgd_5 rfl
theorem la_486 : dm_at 329 486 = some (.iadd, 1, []) := la_of sgp_5 rfl sgd_5 rfl
theorem la_487 : dm_at 329 487 = some (.iaload, 1, []) := la_of sgp_5 rfl sgd_5 rfl
theorem la_488 : dm_at 329 488 = some (.aload_n 0, 1, []) := la_of sgp_5 rfl sgd_5 rfl
theorem la_489 : dm_at 329 489 = some (.iload 4, 2, []) := la_of sgp_5 rfl sgd_5 rfl
theorem la_491 : dm_at 329 491 = some (.iconst 3, 1, []) := la_of sgp_5 rfl sgd_5 rfl
theorem la_492 : dm_at 329 492 = some (.iadd, 1, []) := la_of sgp_5 rfl sgd_5 rfl
theorem la_493 : dm_at 329 493 = some (.iaload, 1, []) := la_of sgp_5 rfl sgd_5 rfl
theorem la_494 : dm_at 329 494 = some (.aload_n 0, 1, []) := la_of sgp_5 rfl sgd_5 rfl
theorem la_495 : dm_at 329 495 = some (.iload 4, 2, []) := la_of sgp_5 rfl sgd_5 rfl
theorem la_497 : dm_at 329 497 = some (.iconst 4, 1, []) := la_of sgp_5 rfl sgd_5 rfl
theorem la_498 : dm_at 329 498 = some (.iadd, 1, []) := la_of sgp_5 rfl sgd_5 rfl
theorem la_499 : dm_at 329 499 = some (.iaload, 1, []) := la_of sgp_5 rfl sgd_5 rfl
theorem la_500 : dm_at 329 500 = some (.invokevirtual 192, 3, [146, 1, 6135, 6136, 6137, 1008, 6138]) := la_of sgp_5 rfl sgd_5 rfl
theorem la_503 : dm_at 329 503 = some (.istore 6, 2, []) := la_of sgp_5 rfl sgd_5 rfl
theorem la_505 : dm_at 329 505 = some (.goto 1875, 3, [2380]) := la_of sgp_5 rfl sgd_5 rfl
theorem la_508 : dm_at 329 508 = some (.aload_n 1, 1, []) := la_of sgp_5 rfl sgd_5 rfl
theorem la_509 : dm_at 329 509 = some (.aload_n 0, 1, []) := la_of sgp_5 rfl sgd_5 rfl
theorem la_510 : dm_at 329 510 = some (.iload 4, 2, []) := la_of sgp_5 rfl sgd_5 rfl
theorem la_512 : dm_at 329 512 = some (.iconst 1, 1, []) := la_of sgp_5 rfl sgd_5 rfl
theorem la_513 : dm_at 329 513 = some (.iadd, 1, []) := la_of sgp_5 rfl sgd_5 rfl
theorem la_514 : dm_at 329 514 = some (.iaload, 1, []) := la_of sgp_5 rfl sgd_5 rfl
theorem la_515 : dm_at 329 515 = some (.aload_n 0, 1, []) := la_of sgp_5 rfl sgd_5 rfl
theorem la_516 : dm_at 329 516 = some (.iload 4, 2, []) := la_of sgp_5 rfl sgd_5 rfl
theorem la_518 : dm_at 329 518 = some (.iconst 2, 1, []) := la_of sgp_5 rfl sgd_5 rfl
theorem la_519 : dm_at 329 519 = some (.iadd, 1, []) := la_of sgp_5 rfl sgd_5 rfl
theorem la_520 : dm_at 329 520 = some (.iaload, 1, []) := la_of sgp_5 rfl sgd_5 rfl
theorem la_521 : dm_at 329 521 = some (.aload_n 0, 1, []) := la_of sgp_5 rfl sgd_5 rfl
theorem la_522 : dm_at 329 522 = some (.iload 4, 2, []) := la_of sgp_5 rfl sgd_5 rfl
theorem la_524 : dm_at 329 524 = some (.iconst 3, 1, []) := la_of sgp_5 rfl sgd_5 rfl
theorem la_525 : dm_at 329 525 = some (.iadd, 1, []) := la_of sgp_5 rfl sgd_5 rfl
theorem la_526 : dm_at 329 526 = some (.iaload, 1, []) := la_of sgp_5 rfl sgd_5 rfl
theorem la_527 : dm_at 329 527 = some (.aload_n 0, 1, []) := la_of sgp_5 rfl sgd_5 rfl
theorem la_528 : dm_at 329 528 = some (.iload 4, 2, []) := la_of sgp_5 rfl sgd_5 rfl
theorem la_530 : dm_at 329 530 = some (.iconst 4, 1, []) := la_of sgp_5 rfl sgd_5 rfl
theorem la_531 : dm_at 329 531 = some (.iadd, 1, []) := la_of sgp_5 rfl sgd_5 rfl
theorem la_532 : dm_at 329 532 = some (.iaload, 1, []) := la_of sgp_5 rfl sgd_5 rfl
theorem la_533 : dm_at 329 533 = some (.aload_n 0, 1, []) := la_of sgp_5 rfl sgd_5 rfl
set_option maxRecDepth 100000 in
def sg_6 : List (Nat × dm_I) := [(534, (.iload 4, 2, [])), (536, (.iconst 5, 1, [])), (537, (.iadd, 1, [])), (538, (.iaload, 1, [])), (539, (.aload_n 3, 1, [])), (540, (.invokestatic 193, 3, [288, 0, 3157, 3158, 1000, 3159])), (543, (.istore 5, 2, [])), (545, (.aload_n 2, 1, [])), (546, (.aload_n 0, 1, [])), (547, (.iload 4, 2, [])), (549, (.iconst 1, 1, [])), (550, (.iadd, 1, [])), (551, (.iaload, 1, [])), (552, (.aload_n 0, 1, [])), (553, (.iload 4, 2, [])), (555, (.iconst 2, 1, [])), (556, (.iadd, 1, [])), (557, (.iaload, 1, [])), (558, (.aload_n 0, 1, [])), (559, (.iload 4, 2, [])), (561, (.iconst 3, 1, [])), (562, (.iadd, 1, [])), (563, (.iaload, 1, [])), (564, (.aload_n 0, 1, [])), (565, (.iload 4, 2, [])), (567, (.iconst 4, 1, [])), (568, (.iadd, 1, [])), (569, (.iaload, 1, [])), (570, (.aload_n 0, 1, [])), (571, (.iload 4, 2, [])), (573, (.iconst 5, 1, [])), (574, (.iadd, 1, [])), (575, (.iaload, 1, [])), (576, (.invokevirtual 196, 3, [147, 1, 6139, 6140, 6141, 1008, 6142])), (579, (.istore 6, 2, [])), (581, (.goto 1799, 3, [2380])), (584, (.aload_n 1, 1, [])), (585, (.aload_n 0, 1, [])), (586, (.iload 4, 2, [])), (588, (.iconst 1, 1, []))]
set_option maxRecDepth 100000 in
theorem sgd_6 : ((dm_c 329).drop 240).take 40 = sg_6 := by decide +kernel
set_option maxRecDepth 100000 in
theorem sgp_6 : ((dm_c 329).take 240).all (fun x => Nat.blt x.1 534) = true := by decide +kernel
theorem la_534 : dm_at 329 534 = some (.iload 4, 2, []) := la_of sgp_6 rfl sgd_6 rfl
theorem la_536 : dm_at 329 536 = some (.iconst 5, 1, []) := la_of sgp_6 rfl sgd_6 rfl
theorem la_537 : dm_at 329 537 = some (.iadd, 1, []) := la_of sgp_6 rfl sgd_6 rfl
theorem la_538 : dm_at 329 538 = some (.iaload, 1, []) := la_of sgp_6 rfl sgd_6 rfl
theorem la_539 : dm_at 329 539 = some (.aload_n 3, 1, []) := la_of sgp_6 rfl sgd_6 rfl
theorem la_540 : dm_at 329 540 = some (.invokestatic 193, 3, [288, 0, 3157, 3158, 1000, 3159]) := la_of sgp_6 rfl sgd_6 rfl
theorem la_543 : dm_at 329 543 = some (.istore 5, 2, []) := la_of sgp_6 rfl sgd_6 rfl
theorem la_545 : dm_at 329 545 = some (.aload_n 2, 1, []) := la_of sgp_6 rfl sgd_6 rfl
theorem la_546 : dm_at 329 546 = some (.aload_n 0, 1, []) := la_of sgp_6 rfl sgd_6 rfl
theorem la_547 : dm_at 329 547 = some (.iload 4, 2, []) := la_of sgp_6 rfl sgd_6 rfl
theorem la_549 : dm_at 329 549 = some (.iconst 1, 1, []) := la_of sgp_6 rfl sgd_6 rfl
theorem la_550 : dm_at 329 550 = some (.iadd, 1, []) := la_of sgp_6 rfl sgd_6 rfl
theorem la_551 : dm_at 329 551 = some (.iaload, 1, []) := la_of sgp_6 rfl sgd_6 rfl
theorem la_552 : dm_at 329 552 = some (.aload_n 0, 1, []) := la_of sgp_6 rfl sgd_6 rfl
theorem la_553 : dm_at 329 553 = some (.iload 4, 2, []) := la_of sgp_6 rfl sgd_6 rfl
theorem la_555 : dm_at 329 555 = some (.iconst 2, 1, []) := la_of sgp_6 rfl sgd_6 rfl
theorem la_556 : dm_at 329 556 = some (.iadd, 1, []) := la_of sgp_6 rfl sgd_6 rfl
theorem la_557 : dm_at 329 557 = some (.iaload, 1, []) := la_of sgp_6 rfl sgd_6 rfl
theorem la_558 : dm_at 329 558 = some (.aload_n 0, 1, []) := la_of sgp_6 rfl sgd_6 rfl
theorem la_559 : dm_at 329 559 = some (.iload 4, 2, []) := la_of sgp_6 rfl sgd_6 rfl
theorem la_561 : dm_at 329 561 = some (.iconst 3, 1, []) := la_of sgp_6 rfl sgd_6 rfl
theorem la_562 : dm_at 329 562 = some (.iadd, 1, []) := la_of sgp_6 rfl sgd_6 rfl
theorem la_563 : dm_at 329 563 = some (.iaload, 1, []) := la_of sgp_6 rfl sgd_6 rfl
theorem la_564 : dm_at 329 564 = some (.aload_n 0, 1, []) := la_of sgp_6 rfl sgd_6 rfl
theorem la_565 : dm_at 329 565 = some (.iload 4, 2, []) := la_of sgp_6 rfl sgd_6 rfl
theorem la_567 : dm_at 329 567 = some (.iconst 4, 1, []) := la_of sgp_6 rfl sgd_6 rfl
theorem la_568 : dm_at 329 568 = some (.iadd, 1, []) := la_of sgp_6 rfl sgd_6 rfl
theorem la_569 : dm_at 329 569 = some (.iaload, 1, []) := la_of sgp_6 rfl sgd_6 rfl
theorem la_570 : dm_at 329 570 = some (.aload_n 0, 1, []) := la_of sgp_6 rfl sgd_6 rfl
theorem la_571 : dm_at 329 571 = some (.iload 4, 2, []) := la_of sgp_6 rfl sgd_6 rfl
theorem la_573 : dm_at 329 573 = some (.iconst 5, 1, []) := la_of sgp_6 rfl sgd_6 rfl
theorem la_574 : dm_at 329 574 = some (.iadd, 1, []) := la_of sgp_6 rfl sgd_6 rfl
theorem la_575 : dm_at 329 575 = some (.iaload, 1, []) := la_of sgp_6 rfl sgd_6 rfl
theorem la_576 : dm_at 329 576 = some (.invokevirtual 196, 3, [147, 1, 6139, 6140, 6141, 1008, 6142]) := la_of sgp_6 rfl sgd_6 rfl
theorem la_579 : dm_at 329 579 = some (.istore 6, 2, []) := la_of sgp_6 rfl sgd_6 rfl
theorem la_581 : dm_at 329 581 = some (.goto 1799, 3, [2380]) := la_of sgp_6 rfl sgd_6 rfl
theorem la_584 : dm_at 329 584 = some (.aload_n 1, 1, []) := la_of sgp_6 rfl sgd_6 rfl
theorem la_585 : dm_at 329 585 = some (.aload_n 0, 1, []) := la_of sgp_6 rfl sgd_6 rfl
theorem la_586 : dm_at 329 586 = some (.iload 4, 2, []) := la_of sgp_6 rfl sgd_6 rfl
theorem la_588 : dm_at 329 588 = some (.iconst 1, 1, []) := la_of sgp_6 rfl sgd_6 rfl
set_option maxRecDepth 100000 in
def sg_7 : List (Nat × dm_I) := [(589, (.iadd, 1, [])), (590, (.iaload, 1, [])), (591, (.aload_n 0, 1, [])), (592, (.iload 4, 2, [])), (594, (.iconst 2, 1, [])), (595, (.iadd, 1, [])), (596, (.iaload, 1, [])), (597, (.aload_n 0, 1, [])), (598, (.iload 4, 2, [])), (600, (.iconst 3, 1, [])), (601, (.iadd, 1, [])), (602, (.iaload, 1, [])), (603, (.aload_n 3, 1, [])), (604, (.invokestatic 197, 3, [289, 0, 3164, 3165, 1000, 3166])), (607, (.istore 5, 2, [])), (609, (.aload_n 2, 1, [])), (610, (.aload_n 0, 1, [])), (611, (.iload 4, 2, [])), (613, (.iconst 1, 1, [])), (614, (.iadd, 1, [])), (615, (.iaload, 1, [])), (616, (.aload_n 0, 1, [])), (617, (.iload 4, 2, [])), (619, (.iconst 2, 1, [])), (620, (.iadd, 1, [])), (621, (.iaload, 1, [])), (622, (.aload_n 0, 1, [])), (623, (.iload 4, 2, [])), (625, (.iconst 3, 1, [])), (626, (.iadd, 1, [])), (627, (.iaload, 1, [])), (628, (.invokevirtual 200, 3, [148, 1, 6143, 6144, 6145, 1008, 6146])), (631, (.istore 6, 2, [])), (633, (.goto 1747, 3, [2380])), (636, (.aload_n 1, 1, [])), (637, (.aload_n 0, 1, [])), (638, (.iload 4, 2, [])), (640, (.iconst 1, 1, [])), (641, (.iadd, 1, [])), (642, (.iaload, 1, []))]
set_option maxRecDepth 100000 in
theorem sgd_7 : ((dm_c 329).drop 280).take 40 = sg_7 := by decide +kernel
set_option maxRecDepth 100000 in
theorem sgp_7 : ((dm_c 329).take 280).all (fun x => Nat.blt x.1 589) = true := by decide +kernel
theorem la_589 : dm_at 329 589 = some (.iadd, 1, []) := la_of sgp_7 rfl sgd_7 rfl
theorem la_590 : dm_at 329 590 = some (.iaload, 1, []) := la_of sgp_7 rfl sgd_7 rfl
theorem la_591 : dm_at 329 591 = some (.aload_n 0, 1, []) := la_of sgp_7 rfl sgd_7 rfl
theorem la_592 : dm_at 329 592 = some (.iload 4, 2, []) := la_of sgp_7 rfl sgd_7 rfl
theorem la_594 : dm_at 329 594 = some (.iconst 2, 1, []) := la_of sgp_7 rfl sgd_7 rfl
theorem la_595 : dm_at 329 595 = some (.iadd, 1, []) := la_of sgp_7 rfl sgd_7 rfl
theorem la_596 : dm_at 329 596 = some (.iaload, 1, []) := la_of sgp_7 rfl sgd_7 rfl
theorem la_597 : dm_at 329 597 = some (.aload_n 0, 1, []) := la_of sgp_7 rfl sgd_7 rfl
theorem la_598 : dm_at 329 598 = some (.iload 4, 2, []) := la_of sgp_7 rfl sgd_7 rfl
theorem la_600 : dm_at 329 600 = some (.iconst 3, 1, []) := la_of sgp_7 rfl sgd_7 rfl
theorem la_601 : dm_at 329 601 = some (.iadd, 1, []) := la_of sgp_7 rfl sgd_7 rfl
theorem la_602 : dm_at 329 602 = some (.iaload, 1, []) := la_of sgp_7 rfl sgd_7 rfl
theorem la_603 : dm_at 329 603 = some (.aload_n 3, 1, []) := la_of sgp_7 rfl sgd_7 rfl
theorem la_604 : dm_at 329 604 = some (.invokestatic 197, 3, [289, 0, 3164, 3165, 1000, 3166]) := la_of sgp_7 rfl sgd_7 rfl
theorem la_607 : dm_at 329 607 = some (.istore 5, 2, []) := la_of sgp_7 rfl sgd_7 rfl
theorem la_609 : dm_at 329 609 = some (.aload_n 2, 1, []) := la_of sgp_7 rfl sgd_7 rfl
theorem la_610 : dm_at 329 610 = some (.aload_n 0, 1, []) := la_of sgp_7 rfl sgd_7 rfl
theorem la_611 : dm_at 329 611 = some (.iload 4, 2, []) := la_of sgp_7 rfl sgd_7 rfl
theorem la_613 : dm_at 329 613 = some (.iconst 1, 1, []) := la_of sgp_7 rfl sgd_7 rfl
theorem la_614 : dm_at 329 614 = some (.iadd, 1, []) := la_of sgp_7 rfl sgd_7 rfl
theorem la_615 : dm_at 329 615 = some (.iaload, 1, []) := la_of sgp_7 rfl sgd_7 rfl
theorem la_616 : dm_at 329 616 = some (.aload_n 0, 1, []) := la_of sgp_7 rfl sgd_7 rfl
theorem la_617 : dm_at 329 617 = some (.iload 4, 2, []) := la_of sgp_7 rfl sgd_7 rfl
theorem la_619 : dm_at 329 619 = some (.iconst 2, 1, []) := la_of sgp_7 rfl sgd_7 rfl
theorem la_620 : dm_at 329 620 = some (.iadd, 1, []) := la_of sgp_7 rfl sgd_7 rfl
theorem la_621 : dm_at 329 621 = some (.iaload, 1, []) := la_of sgp_7 rfl sgd_7 rfl
theorem la_622 : dm_at 329 622 = some (.aload_n 0, 1, []) := la_of sgp_7 rfl sgd_7 rfl
theorem la_623 : dm_at 329 623 = some (.iload 4, 2, []) := la_of sgp_7 rfl sgd_7 rfl
theorem la_625 : dm_at 329 625 = some (.iconst 3, 1, []) := la_of sgp_7 rfl sgd_7 rfl
theorem la_626 : dm_at 329 626 = some (.iadd, 1, []) := la_of sgp_7 rfl sgd_7 rfl
theorem la_627 : dm_at 329 627 = some (.iaload, 1, []) := la_of sgp_7 rfl sgd_7 rfl
theorem la_628 : dm_at 329 628 = some (.invokevirtual 200, 3, [148, 1, 6143, 6144, 6145, 1008, 6146]) := la_of sgp_7 rfl sgd_7 rfl
theorem la_631 : dm_at 329 631 = some (.istore 6, 2, []) := la_of sgp_7 rfl sgd_7 rfl
theorem la_633 : dm_at 329 633 = some (.goto 1747, 3, [2380]) := la_of sgp_7 rfl sgd_7 rfl
theorem la_636 : dm_at 329 636 = some (.aload_n 1, 1, []) := la_of sgp_7 rfl sgd_7 rfl
theorem la_637 : dm_at 329 637 = some (.aload_n 0, 1, []) := la_of sgp_7 rfl sgd_7 rfl
theorem la_638 : dm_at 329 638 = some (.iload 4, 2, []) := la_of sgp_7 rfl sgd_7 rfl
theorem la_640 : dm_at 329 640 = some (.iconst 1, 1, []) := la_of sgp_7 rfl sgd_7 rfl
theorem la_641 : dm_at 329 641 = some (.iadd, 1, []) := la_of sgp_7 rfl sgd_7 rfl
theorem la_642 : dm_at 329 642 = some (.iaload, 1, []) := la_of sgp_7 rfl sgd_7 rfl
set_option maxRecDepth 100000 in
def sg_8 : List (Nat × dm_I) := [(643, (.aload_n 0, 1, [])), (644, (.iload 4, 2, [])), (646, (.iconst 2, 1, [])), (647, (.iadd, 1, [])), (648, (.iaload, 1, [])), (649, (.aload_n 0, 1, [])), (650, (.iload 4, 2, [])), (652, (.iconst 3, 1, [])), (653, (.iadd, 1, [])), (654, (.iaload, 1, [])), (655, (.aload_n 0, 1, [])), (656, (.iload 4, 2, [])), (658, (.iconst 4, 1, [])), (659, (.iadd, 1, [])), (660, (.iaload, 1, [])), (661, (.aload_n 3, 1, [])), (662, (.invokestatic 201, 3, [290, 0, 3178, 3179, 1000, 3180])), (665, (.istore 5, 2, [])), (667, (.aload_n 2, 1, [])), (668, (.aload_n 0, 1, [])), (669, (.iload 4, 2, [])), (671, (.iconst 1, 1, [])), (672, (.iadd, 1, [])), (673, (.iaload, 1, [])), (674, (.aload_n 0, 1, [])), (675, (.iload 4, 2, [])), (677, (.iconst 2, 1, [])), (678, (.iadd, 1, [])), (679, (.iaload, 1, [])), (680, (.aload_n 0, 1, [])), (681, (.iload 4, 2, [])), (683, (.iconst 3, 1, [])), (684, (.iadd, 1, [])), (685, (.iaload, 1, [])), (686, (.aload_n 0, 1, [])), (687, (.iload 4, 2, [])), (689, (.iconst 4, 1, [])), (690, (.iadd, 1, [])), (691, (.iaload, 1, [])), (692, (.invokevirtual 203, 3, [149, 1, 6155, 6156, 6157, 1008, 6158]))]
set_option maxRecDepth 100000 in
theorem sgd_8 : ((dm_c 329).drop 320).take 40 = sg_8 := by decide +kernel
set_option maxRecDepth 100000 in
theorem sgp_8 : ((dm_c 329).take 320).all (fun x => Nat.blt x.1 643) = true := by decide +kernel
theorem la_643 : dm_at 329 643 = some (.aload_n 0, 1, []) := la_of sgp_8 rfl sgd_8 rfl
theorem la_644 : dm_at 329 644 = some (.iload 4, 2, []) := la_of sgp_8 rfl sgd_8 rfl
theorem la_646 : dm_at 329 646 = some (.iconst 2, 1, []) := la_of sgp_8 rfl sgd_8 rfl
theorem la_647 : dm_at 329 647 = some (.iadd, 1, []) := la_of sgp_8 rfl sgd_8 rfl
theorem la_648 : dm_at 329 648 = some (.iaload, 1, []) := la_of sgp_8 rfl sgd_8 rfl
theorem la_649 : dm_at 329 649 = some (.aload_n 0, 1, []) := la_of sgp_8 rfl sgd_8 rfl
theorem la_650 : dm_at 329 650 = some (.iload 4, 2, []) := la_of sgp_8 rfl sgd_8 rfl
theorem la_652 : dm_at 329 652 = some (.iconst 3, 1, []) := la_of sgp_8 rfl sgd_8 rfl
theorem la_653 : dm_at 329 653 = some (.iadd, 1, []) := la_of sgp_8 rfl sgd_8 rfl
theorem la_654 : dm_at 329 654 = some (.iaload, 1, []) := la_of sgp_8 rfl sgd_8 rfl
theorem la_655 : dm_at 329 655 = some (.aload_n 0, 1, []) := la_of sgp_8 rfl sgd_8 rfl
theorem la_656 : dm_at 329 656 = some (.iload 4, 2, []) := la_of sgp_8 rfl sgd_8 rfl
theorem la_658 : dm_at 329 658 = some (.iconst 4, 1, []) := la_of sgp_8 rfl sgd_8 rfl
theorem la_659 : dm_at 329 659 = some (.iadd, 1, []) := la_of sgp_8 rfl sgd_8 rfl
theorem la_660 : dm_at 329 660 = some (.iaload, 1, []) := la_of sgp_8 rfl sgd_8 rfl
theorem la_661 : dm_at 329 661 = some (.aload_n 3, 1, []) := la_of sgp_8 rfl sgd_8 rfl
theorem la_662 : dm_at 329 662 = some (.invokestatic 201, 3, [290, 0, 3178, 3179, 1000, 3180]) := la_of sgp_8 rfl sgd_8 rfl
theorem la_665 : dm_at 329 665 = some (.istore 5, 2, []) := la_of sgp_8 rfl sgd_8 rfl
theorem la_667 : dm_at 329 667 = some (.aload_n 2, 1, []) := la_of sgp_8 rfl sgd_8 rfl
theorem la_668 : dm_at 329 668 = some (.aload_n 0, 1, []) := la_of sgp_8 rfl sgd_8 rfl
theorem la_669 : dm_at 329 669 = some (.iload 4, 2, []) := la_of sgp_8 rfl sgd_8 rfl
theorem la_671 : dm_at 329 671 = some (.iconst 1, 1, []) := la_of sgp_8 rfl sgd_8 rfl
theorem la_672 : dm_at 329 672 = some (.iadd, 1, []) := la_of sgp_8 rfl sgd_8 rfl
theorem la_673 : dm_at 329 673 = some (.iaload, 1, []) := la_of sgp_8 rfl sgd_8 rfl
theorem la_674 : dm_at 329 674 = some (.aload_n 0, 1, []) := la_of sgp_8 rfl sgd_8 rfl
theorem la_675 : dm_at 329 675 = some (.iload 4, 2, []) := la_of sgp_8 rfl sgd_8 rfl
theorem la_677 : dm_at 329 677 = some (.iconst 2, 1, []) := la_of sgp_8 rfl sgd_8 rfl
theorem la_678 : dm_at 329 678 = some (.iadd, 1, []) := la_of sgp_8 rfl sgd_8 rfl
theorem la_679 : dm_at 329 679 = some (.iaload, 1, []) := la_of sgp_8 rfl sgd_8 rfl
theorem la_680 : dm_at 329 680 = some (.aload_n 0, 1, []) := la_of sgp_8 rfl sgd_8 rfl
theorem la_681 : dm_at 329 681 = some (.iload 4, 2, []) := la_of sgp_8 rfl sgd_8 rfl
theorem la_683 : dm_at 329 683 = some (.iconst 3, 1, []) := la_of sgp_8 rfl sgd_8 rfl
theorem la_684 : dm_at 329 684 = some (.iadd, 1, []) := la_of sgp_8 rfl sgd_8 rfl
theorem la_685 : dm_at 329 685 = some (.iaload, 1, []) := la_of sgp_8 rfl sgd_8 rfl
theorem la_686 : dm_at 329 686 = some (.aload_n 0, 1, []) := la_of sgp_8 rfl sgd_8 rfl
theorem la_687 : dm_at 329 687 = some (.iload 4, 2, []) := la_of sgp_8 rfl sgd_8 rfl
theorem la_689 : dm_at 329 689 = some (.iconst 4, 1, []) := la_of sgp_8 rfl sgd_8 rfl
theorem la_690 : dm_at 329 690 = some (.iadd, 1, []) := la_of sgp_8 rfl sgd_8 rfl
theorem la_691 : dm_at 329 691 = some (.iaload, 1, []) := la_of sgp_8 rfl sgd_8 rfl
theorem la_692 : dm_at 329 692 = some (.invokevirtual 203, 3, [149, 1, 6155, 6156, 6157, 1008, 6158]) := la_of sgp_8 rfl sgd_8 rfl
set_option maxRecDepth 100000 in
def sg_9 : List (Nat × dm_I) := [(695, (.istore 6, 2, [])), (697, (.goto 1683, 3, [2380])), (700, (.aload_n 1, 1, [])), (701, (.aload_n 0, 1, [])), (702, (.iload 4, 2, [])), (704, (.iconst 1, 1, [])), (705, (.iadd, 1, [])), (706, (.iaload, 1, [])), (707, (.aload_n 0, 1, [])), (708, (.iload 4, 2, [])), (710, (.iconst 2, 1, [])), (711, (.iadd, 1, [])), (712, (.iaload, 1, [])), (713, (.aload_n 3, 1, [])), (714, (.invokestatic 204, 3, [291, 0, 3185, 3186, 1000, 3187])), (717, (.istore 5, 2, [])), (719, (.aload_n 2, 1, [])), (720, (.aload_n 0, 1, [])), (721, (.iload 4, 2, [])), (723, (.iconst 1, 1, [])), (724, (.iadd, 1, [])), (725, (.iaload, 1, [])), (726, (.aload_n 0, 1, [])), (727, (.iload 4, 2, [])), (729, (.iconst 2, 1, [])), (730, (.iadd, 1, [])), (731, (.iaload, 1, [])), (732, (.invokevirtual 207, 3, [150, 1, 6159, 6160, 6161, 1008, 6162])), (735, (.istore 6, 2, [])), (737, (.goto 1643, 3, [2380])), (740, (.aload_n 1, 1, [])), (741, (.aload_n 0, 1, [])), (742, (.iload 4, 2, [])), (744, (.iconst 1, 1, [])), (745, (.iadd, 1, [])), (746, (.iaload, 1, [])), (747, (.aload_n 0, 1, [])), (748, (.iload 4, 2, [])), (750, (.iconst 2, 1, [])), (751, (.iadd, 1, []))]
set_option maxRecDepth 100000 in
theorem sgd_9 : ((dm_c 329).drop 360).take 40 = sg_9 := by decide +kernel
set_option maxRecDepth 100000 in
theorem sgp_9 : ((dm_c 329).take 360).all (fun x => Nat.blt x.1 695) = true := by decide +kernel
theorem la_695 : dm_at 329 695 = some (.istore 6, 2, []) := la_of sgp_9 rfl sgd_9 rfl
theorem la_697 : dm_at 329 697 = some (.goto 1683, 3, [2380]) := la_of sgp_9 rfl sgd_9 rfl
theorem la_700 : dm_at 329 700 = some (.aload_n 1, 1, []) := la_of sgp_9 rfl sgd_9 rfl
theorem la_701 : dm_at 329 701 = some (.aload_n 0, 1, []) := la_of sgp_9 rfl sgd_9 rfl
theorem la_702 : dm_at 329 702 = some (.iload 4, 2, []) := la_of sgp_9 rfl sgd_9 rfl
theorem la_704 : dm_at 329 704 = some (.iconst 1, 1, []) := la_of sgp_9 rfl sgd_9 rfl
theorem la_705 : dm_at 329 705 = some (.iadd, 1, []) := la_of sgp_9 rfl sgd_9 rfl
theorem la_706 : dm_at 329 706 = some (.iaload, 1, []) := la_of sgp_9 rfl sgd_9 rfl
theorem la_707 : dm_at 329 707 = some (.aload_n 0, 1, []) := la_of sgp_9 rfl sgd_9 rfl
theorem la_708 : dm_at 329 708 = some (.iload 4, 2, []) := la_of sgp_9 rfl sgd_9 rfl
theorem la_710 : dm_at 329 710 = some (.iconst 2, 1, []) := la_of sgp_9 rfl sgd_9 rfl
theorem la_711 : dm_at 329 711 = some (.iadd, 1, []) := la_of sgp_9 rfl sgd_9 rfl
theorem la_712 : dm_at 329 712 = some (.iaload, 1, []) := la_of sgp_9 rfl sgd_9 rfl
theorem la_713 : dm_at 329 713 = some (.aload_n 3, 1, []) := la_of sgp_9 rfl sgd_9 rfl
theorem la_714 : dm_at 329 714 = some (.invokestatic 204, 3, [291, 0, 3185, 3186, 1000, 3187]) := la_of sgp_9 rfl sgd_9 rfl
theorem la_717 : dm_at 329 717 = some (.istore 5, 2, []) := la_of sgp_9 rfl sgd_9 rfl
theorem la_719 : dm_at 329 719 = some (.aload_n 2, 1, []) := la_of sgp_9 rfl sgd_9 rfl
theorem la_720 : dm_at 329 720 = some (.aload_n 0, 1, []) := la_of sgp_9 rfl sgd_9 rfl
theorem la_721 : dm_at 329 721 = some (.iload 4, 2, []) := la_of sgp_9 rfl sgd_9 rfl
theorem la_723 : dm_at 329 723 = some (.iconst 1, 1, []) := la_of sgp_9 rfl sgd_9 rfl
theorem la_724 : dm_at 329 724 = some (.iadd, 1, []) := la_of sgp_9 rfl sgd_9 rfl
theorem la_725 : dm_at 329 725 = some (.iaload, 1, []) := la_of sgp_9 rfl sgd_9 rfl
theorem la_726 : dm_at 329 726 = some (.aload_n 0, 1, []) := la_of sgp_9 rfl sgd_9 rfl
theorem la_727 : dm_at 329 727 = some (.iload 4, 2, []) := la_of sgp_9 rfl sgd_9 rfl
theorem la_729 : dm_at 329 729 = some (.iconst 2, 1, []) := la_of sgp_9 rfl sgd_9 rfl
theorem la_730 : dm_at 329 730 = some (.iadd, 1, []) := la_of sgp_9 rfl sgd_9 rfl
theorem la_731 : dm_at 329 731 = some (.iaload, 1, []) := la_of sgp_9 rfl sgd_9 rfl
theorem la_732 : dm_at 329 732 = some (.invokevirtual 207, 3, [150, 1, 6159, 6160, 6161, 1008, 6162]) := la_of sgp_9 rfl sgd_9 rfl
theorem la_735 : dm_at 329 735 = some (.istore 6, 2, []) := la_of sgp_9 rfl sgd_9 rfl
theorem la_737 : dm_at 329 737 = some (.goto 1643, 3, [2380]) := la_of sgp_9 rfl sgd_9 rfl
theorem la_740 : dm_at 329 740 = some (.aload_n 1, 1, []) := la_of sgp_9 rfl sgd_9 rfl
theorem la_741 : dm_at 329 741 = some (.aload_n 0, 1, []) := la_of sgp_9 rfl sgd_9 rfl
theorem la_742 : dm_at 329 742 = some (.iload 4, 2, []) := la_of sgp_9 rfl sgd_9 rfl
theorem la_744 : dm_at 329 744 = some (.iconst 1, 1, []) := la_of sgp_9 rfl sgd_9 rfl
theorem la_745 : dm_at 329 745 = some (.iadd, 1, []) := la_of sgp_9 rfl sgd_9 rfl
theorem la_746 : dm_at 329 746 = some (.iaload, 1, []) := la_of sgp_9 rfl sgd_9 rfl
theorem la_747 : dm_at 329 747 = some (.aload_n 0, 1, []) := la_of sgp_9 rfl sgd_9 rfl
theorem la_748 : dm_at 329 748 = some (.iload 4, 2, []) := la_of sgp_9 rfl sgd_9 rfl
theorem la_750 : dm_at 329 750 = some (.iconst 2, 1, []) := la_of sgp_9 rfl sgd_9 rfl
theorem la_751 : dm_at 329 751 = some (.iadd, 1, []) := la_of sgp_9 rfl sgd_9 rfl
set_option maxRecDepth 100000 in
def sg_10 : List (Nat × dm_I) := [(752, (.iaload, 1, [])), (753, (.ifCond .eq 7, 3, [760])), (756, (.iconst 1, 1, [])), (757, (.goto 4, 3, [761])), (760, (.iconst 0, 1, [])), (761, (.aload_n 3, 1, [])), (762, (.invokestatic 208, 3, [292, 0, 3196, 3197, 1000, 3198])), (765, (.istore 5, 2, [])), (767, (.aload_n 2, 1, [])), (768, (.aload_n 0, 1, [])), (769, (.iload 4, 2, [])), (771, (.iconst 1, 1, [])), (772, (.iadd, 1, [])), (773, (.iaload, 1, [])), (774, (.aload_n 0, 1, [])), (775, (.iload 4, 2, [])), (777, (.iconst 2, 1, [])), (778, (.iadd, 1, [])), (779, (.iaload, 1, [])), (780, (.ifCond .eq 7, 3, [787])), (783, (.iconst 1, 1, [])), (784, (.goto 4, 3, [788])), (787, (.iconst 0, 1, [])), (788, (.invokevirtual 211, 3, [151, 1, 6171, 6172, 6173, 1008, 6174])), (791, (.istore 6, 2, [])), (793, (.goto 1587, 3, [2380])), (796, (.aload_n 1, 1, [])), (797, (.aload_n 0, 1, [])), (798, (.iload 4, 2, [])), (800, (.iconst 1, 1, [])), (801, (.iadd, 1, [])), (802, (.iaload, 1, [])), (803, (.aload_n 3, 1, [])), (804, (.invokestatic 212, 3, [293, 0, 3206, 3207, 1000, 3208])), (807, (.istore 5, 2, [])), (809, (.aload_n 2, 1, [])), (810, (.aload_n 0, 1, [])), (811, (.iload 4, 2, [])), (813, (.iconst 1, 1, [])), (814, (.iadd, 1, []))]
set_option maxRecDepth 100000 in
theorem sgd_10 : ((dm_c 329).drop 400).take 40 = sg_10 := by decide +kernel
set_option maxRecDepth 100000 in
theorem sgp_10 : ((dm_c 329).take 400).all (fun x => Nat.blt x.1 752) = true := by decide +kernel
theorem la_752 : dm_at 329 752 = some (.iaload, 1, []) := la_of sgp_10 rfl sgd_10 rfl
theorem la_753 : dm_at 329 753 = some (.ifCond .eq 7, 3, [760]) := la_of sgp_10 rfl sgd_10 rfl
theorem la_756 : dm_at 329 756 = some (.iconst 1, 1, []) := la_of sgp_10 rfl sgd_10 rfl
theorem la_757 : dm_at 329 757 = some (.goto 4, 3, [761]) := la_of sgp_10 rfl sgd_10 rfl
theorem la_760 : dm_at 329 760 = some (.iconst 0, 1, []) := la_of sgp_10 rfl sgd_10 rfl
theorem la_761 : dm_at 329 761 = some (.aload_n 3, 1, []) := la_of sgp_10 rfl sgd_10 rfl
theorem la_762 : dm_at 329 762 = some (.invokestatic 208, 3, [292, 0, 3196, 3197, 1000, 3198]) := la_of sgp_10 rfl sgd_10 rfl
theorem la_765 : dm_at 329 765 = some (.istore 5, 2, []) := la_of sgp_10 rfl sgd_10 rfl
theorem la_767 : dm_at 329 767 = some (.aload_n 2, 1, []) := la_of sgp_10 rfl sgd_10 rfl
theorem la_768 : dm_at 329 768 = some (.aload_n 0, 1, []) := la_of sgp_10 rfl sgd_10 rfl
theorem la_769 : dm_at 329 769 = some (.iload 4, 2, []) := la_of sgp_10 rfl sgd_10 rfl
theorem la_771 : dm_at 329 771 = some (.iconst 1, 1, []) := la_of sgp_10 rfl sgd_10 rfl
theorem la_772 : dm_at 329 772 = some (.iadd, 1, []) := la_of sgp_10 rfl sgd_10 rfl
theorem la_773 : dm_at 329 773 = some (.iaload, 1, []) := la_of sgp_10 rfl sgd_10 rfl
theorem la_774 : dm_at 329 774 = some (.aload_n 0, 1, []) := la_of sgp_10 rfl sgd_10 rfl
theorem la_775 : dm_at 329 775 = some (.iload 4, 2, []) := la_of sgp_10 rfl sgd_10 rfl
theorem la_777 : dm_at 329 777 = some (.iconst 2, 1, []) := la_of sgp_10 rfl sgd_10 rfl
theorem la_778 : dm_at 329 778 = some (.iadd, 1, []) := la_of sgp_10 rfl sgd_10 rfl
theorem la_779 : dm_at 329 779 = some (.iaload, 1, []) := la_of sgp_10 rfl sgd_10 rfl
theorem la_780 : dm_at 329 780 = some (.ifCond .eq 7, 3, [787]) := la_of sgp_10 rfl sgd_10 rfl
theorem la_783 : dm_at 329 783 = some (.iconst 1, 1, []) := la_of sgp_10 rfl sgd_10 rfl
theorem la_784 : dm_at 329 784 = some (.goto 4, 3, [788]) := la_of sgp_10 rfl sgd_10 rfl
theorem la_787 : dm_at 329 787 = some (.iconst 0, 1, []) := la_of sgp_10 rfl sgd_10 rfl
theorem la_788 : dm_at 329 788 = some (.invokevirtual 211, 3, [151, 1, 6171, 6172, 6173, 1008, 6174]) := la_of sgp_10 rfl sgd_10 rfl
theorem la_791 : dm_at 329 791 = some (.istore 6, 2, []) := la_of sgp_10 rfl sgd_10 rfl
theorem la_793 : dm_at 329 793 = some (.goto 1587, 3, [2380]) := la_of sgp_10 rfl sgd_10 rfl
theorem la_796 : dm_at 329 796 = some (.aload_n 1, 1, []) := la_of sgp_10 rfl sgd_10 rfl
theorem la_797 : dm_at 329 797 = some (.aload_n 0, 1, []) := la_of sgp_10 rfl sgd_10 rfl
theorem la_798 : dm_at 329 798 = some (.iload 4, 2, []) := la_of sgp_10 rfl sgd_10 rfl
theorem la_800 : dm_at 329 800 = some (.iconst 1, 1, []) := la_of sgp_10 rfl sgd_10 rfl
theorem la_801 : dm_at 329 801 = some (.iadd, 1, []) := la_of sgp_10 rfl sgd_10 rfl
theorem la_802 : dm_at 329 802 = some (.iaload, 1, []) := la_of sgp_10 rfl sgd_10 rfl
theorem la_803 : dm_at 329 803 = some (.aload_n 3, 1, []) := la_of sgp_10 rfl sgd_10 rfl
theorem la_804 : dm_at 329 804 = some (.invokestatic 212, 3, [293, 0, 3206, 3207, 1000, 3208]) := la_of sgp_10 rfl sgd_10 rfl
theorem la_807 : dm_at 329 807 = some (.istore 5, 2, []) := la_of sgp_10 rfl sgd_10 rfl
theorem la_809 : dm_at 329 809 = some (.aload_n 2, 1, []) := la_of sgp_10 rfl sgd_10 rfl
theorem la_810 : dm_at 329 810 = some (.aload_n 0, 1, []) := la_of sgp_10 rfl sgd_10 rfl
theorem la_811 : dm_at 329 811 = some (.iload 4, 2, []) := la_of sgp_10 rfl sgd_10 rfl
theorem la_813 : dm_at 329 813 = some (.iconst 1, 1, []) := la_of sgp_10 rfl sgd_10 rfl
theorem la_814 : dm_at 329 814 = some (.iadd, 1, []) := la_of sgp_10 rfl sgd_10 rfl
set_option maxRecDepth 100000 in
def sg_11 : List (Nat × dm_I) := [(815, (.iaload, 1, [])), (816, (.invokevirtual 215, 3, [152, 1, 6175, 6176, 6177, 1008, 6178])), (819, (.istore 6, 2, [])), (821, (.goto 1559, 3, [2380])), (824, (.aload_n 1, 1, [])), (825, (.aload_n 0, 1, [])), (826, (.iload 4, 2, [])), (828, (.iconst 1, 1, [])), (829, (.iadd, 1, [])), (830, (.iaload, 1, [])), (831, (.aload_n 0, 1, [])), (832, (.iload 4, 2, [])), (834, (.iconst 2, 1, [])), (835, (.iadd, 1, [])), (836, (.iaload, 1, [])), (837, (.aload_n 3, 1, [])), (838, (.invokestatic 216, 3, [294, 0, 3218, 3219, 1000, 3220])), (841, (.istore 5, 2, [])), (843, (.aload_n 2, 1, [])), (844, (.aload_n 0, 1, [])), (845, (.iload 4, 2, [])), (847, (.iconst 1, 1, [])), (848, (.iadd, 1, [])), (849, (.iaload, 1, [])), (850, (.aload_n 0, 1, [])), (851, (.iload 4, 2, [])), (853, (.iconst 2, 1, [])), (854, (.iadd, 1, [])), (855, (.iaload, 1, [])), (856, (.invokevirtual 218, 3, [153, 1, 6179, 6180, 6181, 1008, 6182])), (859, (.istore 6, 2, [])), (861, (.goto 1519, 3, [2380])), (864, (.aload_n 1, 1, [])), (865, (.aload_n 0, 1, [])), (866, (.iload 4, 2, [])), (868, (.iconst 1, 1, [])), (869, (.iadd, 1, [])), (870, (.iaload, 1, [])), (871, (.aload_n 0, 1, [])), (872, (.iload 4, 2, []))]
set_option maxRecDepth 100000 in
theorem sgd_11 : ((dm_c 329).drop 440).take 40 = sg_11 := by decide +kernel
set_option maxRecDepth 100000 in
theorem sgp_11 : ((dm_c 329).take 440).all (fun x => Nat.blt x.1 815) = true := by decide +kernel
theorem la_815 : dm_at 329 815 = some (.iaload, 1, []) := la_of sgp_11 rfl sgd_11 rfl
theorem la_816 : dm_at 329 816 = some (.invokevirtual 215, 3, [152, 1, 6175, 6176, 6177, 1008, 6178]) := la_of sgp_11 rfl sgd_11 rfl
theorem la_819 : dm_at 329 819 = some (.istore 6, 2, []) := la_of sgp_11 rfl sgd_11 rfl
theorem la_821 : dm_at 329 821 = some (.goto 1559, 3, [2380]) := la_of sgp_11 rfl sgd_11 rfl
theorem la_824 : dm_at 329 824 = some (.aload_n 1, 1, []) := la_of sgp_11 rfl sgd_11 rfl
theorem la_825 : dm_at 329 825 = some (.aload_n 0, 1, []) := la_of sgp_11 rfl sgd_11 rfl
theorem la_826 : dm_at 329 826 = some (.iload 4, 2, []) := la_of sgp_11 rfl sgd_11 rfl
theorem la_828 : dm_at 329 828 = some (.iconst 1, 1, []) := la_of sgp_11 rfl sgd_11 rfl
theorem la_829 : dm_at 329 829 = some (.iadd, 1, []) := la_of sgp_11 rfl sgd_11 rfl
theorem la_830 : dm_at 329 830 = some (.iaload, 1, []) := la_of sgp_11 rfl sgd_11 rfl
theorem la_831 : dm_at 329 831 = some (.aload_n 0, 1, []) := la_of sgp_11 rfl sgd_11 rfl
theorem la_832 : dm_at 329 832 = some (.iload 4, 2, []) := la_of sgp_11 rfl sgd_11 rfl
theorem la_834 : dm_at 329 834 = some (.iconst 2, 1, []) := la_of sgp_11 rfl sgd_11 rfl
theorem la_835 : dm_at 329 835 = some (.iadd, 1, []) := la_of sgp_11 rfl sgd_11 rfl
theorem la_836 : dm_at 329 836 = some (.iaload, 1, []) := la_of sgp_11 rfl sgd_11 rfl
theorem la_837 : dm_at 329 837 = some (.aload_n 3, 1, []) := la_of sgp_11 rfl sgd_11 rfl
theorem la_838 : dm_at 329 838 = some (.invokestatic 216, 3, [294, 0, 3218, 3219, 1000, 3220]) := la_of sgp_11 rfl sgd_11 rfl
theorem la_841 : dm_at 329 841 = some (.istore 5, 2, []) := la_of sgp_11 rfl sgd_11 rfl
theorem la_843 : dm_at 329 843 = some (.aload_n 2, 1, []) := la_of sgp_11 rfl sgd_11 rfl
theorem la_844 : dm_at 329 844 = some (.aload_n 0, 1, []) := la_of sgp_11 rfl sgd_11 rfl
theorem la_845 : dm_at 329 845 = some (.iload 4, 2, []) := la_of sgp_11 rfl sgd_11 rfl
theorem la_847 : dm_at 329 847 = some (.iconst 1, 1, []) := la_of sgp_11 rfl sgd_11 rfl
theorem la_848 : dm_at 329 848 = some (.iadd, 1, []) := la_of sgp_11 rfl sgd_11 rfl
theorem la_849 : dm_at 329 849 = some (.iaload, 1, []) := la_of sgp_11 rfl sgd_11 rfl
theorem la_850 : dm_at 329 850 = some (.aload_n 0, 1, []) := la_of sgp_11 rfl sgd_11 rfl
theorem la_851 : dm_at 329 851 = some (.iload 4, 2, []) := la_of sgp_11 rfl sgd_11 rfl
theorem la_853 : dm_at 329 853 = some (.iconst 2, 1, []) := la_of sgp_11 rfl sgd_11 rfl
theorem la_854 : dm_at 329 854 = some (.iadd, 1, []) := la_of sgp_11 rfl sgd_11 rfl
theorem la_855 : dm_at 329 855 = some (.iaload, 1, []) := la_of sgp_11 rfl sgd_11 rfl
theorem la_856 : dm_at 329 856 = some (.invokevirtual 218, 3, [153, 1, 6179, 6180, 6181, 1008, 6182]) := la_of sgp_11 rfl sgd_11 rfl
theorem la_859 : dm_at 329 859 = some (.istore 6, 2, []) := la_of sgp_11 rfl sgd_11 rfl
theorem la_861 : dm_at 329 861 = some (.goto 1519, 3, [2380]) := la_of sgp_11 rfl sgd_11 rfl
theorem la_864 : dm_at 329 864 = some (.aload_n 1, 1, []) := la_of sgp_11 rfl sgd_11 rfl
theorem la_865 : dm_at 329 865 = some (.aload_n 0, 1, []) := la_of sgp_11 rfl sgd_11 rfl
theorem la_866 : dm_at 329 866 = some (.iload 4, 2, []) := la_of sgp_11 rfl sgd_11 rfl
theorem la_868 : dm_at 329 868 = some (.iconst 1, 1, []) := la_of sgp_11 rfl sgd_11 rfl
theorem la_869 : dm_at 329 869 = some (.iadd, 1, []) := la_of sgp_11 rfl sgd_11 rfl
theorem la_870 : dm_at 329 870 = some (.iaload, 1, []) := la_of sgp_11 rfl sgd_11 rfl
theorem la_871 : dm_at 329 871 = some (.aload_n 0, 1, []) := la_of sgp_11 rfl sgd_11 rfl
theorem la_872 : dm_at 329 872 = some (.iload 4, 2, []) := la_of sgp_11 rfl sgd_11 rfl
set_option maxRecDepth 100000 in
def sg_12 : List (Nat × dm_I) := [(874, (.iconst 2, 1, [])), (875, (.iadd, 1, [])), (876, (.iaload, 1, [])), (877, (.aload_n 3, 1, [])), (878, (.invokestatic 219, 3, [295, 0, 3230, 3231, 1000, 3232])), (881, (.istore 5, 2, [])), (883, (.aload_n 2, 1, [])), (884, (.aload_n 0, 1, [])), (885, (.iload 4, 2, [])), (887, (.iconst 1, 1, [])), (888, (.iadd, 1, [])), (889, (.iaload, 1, [])), (890, (.aload_n 0, 1, [])), (891, (.iload 4, 2, [])), (893, (.iconst 2, 1, [])), (894, (.iadd, 1, [])), (895, (.iaload, 1, [])), (896, (.invokevirtual 221, 3, [154, 1, 6183, 6184, 6185, 1008, 6186])), (899, (.istore 6, 2, [])), (901, (.goto 1479, 3, [2380])), (904, (.aload_n 1, 1, [])), (905, (.aload_n 0, 1, [])), (906, (.iload 4, 2, [])), (908, (.iconst 1, 1, [])), (909, (.iadd, 1, [])), (910, (.iaload, 1, [])), (911, (.aload_n 0, 1, [])), (912, (.iload 4, 2, [])), (914, (.iconst 2, 1, [])), (915, (.iadd, 1, [])), (916, (.iaload, 1, [])), (917, (.aload_n 0, 1, [])), (918, (.iload 4, 2, [])), (920, (.iconst 3, 1, [])), (921, (.iadd, 1, [])), (922, (.iaload, 1, [])), (923, (.ifCond .eq 7, 3, [930])), (926, (.iconst 1, 1, [])), (927, (.goto 4, 3, [931])), (930, (.iconst 0, 1, []))]
set_option maxRecDepth 100000 in
theorem sgd_12 : ((dm_c 329).drop 480).take 40 = sg_12 := by decide +kernel
set_option maxRecDepth 100000 in
theorem sgp_12 : ((dm_c 329).take 480).all (fun x => Nat.blt x.1 874) = true := by decide +kernel
theorem la_874 : dm_at 329 874 = some (.iconst 2, 1, []) := la_of sgp_12 rfl sgd_12 rfl
theorem la_875 : dm_at 329 875 = some (.iadd, 1, []) := la_of sgp_12 rfl sgd_12 rfl
theorem la_876 : dm_at 329 876 = some (.iaload, 1, []) := la_of sgp_12 rfl sgd_12 rfl
theorem la_877 : dm_at 329 877 = some (.aload_n 3, 1, []) := la_of sgp_12 rfl sgd_12 rfl
theorem la_878 : dm_at 329 878 = some (.invokestatic 219, 3, [295, 0, 3230, 3231, 1000, 3232]) := la_of sgp_12 rfl sgd_12 rfl
theorem la_881 : dm_at 329 881 = some (.istore 5, 2, []) := la_of sgp_12 rfl sgd_12 rfl
theorem la_883 : dm_at 329 883 = some (.aload_n 2, 1, []) := la_of sgp_12 rfl sgd_12 rfl
theorem la_884 : dm_at 329 884 = some (.aload_n 0, 1, []) := la_of sgp_12 rfl sgd_12 rfl
theorem la_885 : dm_at 329 885 = some (.iload 4, 2, []) := la_of sgp_12 rfl sgd_12 rfl
theorem la_887 : dm_at 329 887 = some (.iconst 1, 1, []) := la_of sgp_12 rfl sgd_12 rfl
theorem la_888 : dm_at 329 888 = some (.iadd, 1, []) := la_of sgp_12 rfl sgd_12 rfl
theorem la_889 : dm_at 329 889 = some (.iaload, 1, []) := la_of sgp_12 rfl sgd_12 rfl
theorem la_890 : dm_at 329 890 = some (.aload_n 0, 1, []) := la_of sgp_12 rfl sgd_12 rfl
theorem la_891 : dm_at 329 891 = some (.iload 4, 2, []) := la_of sgp_12 rfl sgd_12 rfl
theorem la_893 : dm_at 329 893 = some (.iconst 2, 1, []) := la_of sgp_12 rfl sgd_12 rfl
theorem la_894 : dm_at 329 894 = some (.iadd, 1, []) := la_of sgp_12 rfl sgd_12 rfl
theorem la_895 : dm_at 329 895 = some (.iaload, 1, []) := la_of sgp_12 rfl sgd_12 rfl
theorem la_896 : dm_at 329 896 = some (.invokevirtual 221, 3, [154, 1, 6183, 6184, 6185, 1008, 6186]) := la_of sgp_12 rfl sgd_12 rfl
theorem la_899 : dm_at 329 899 = some (.istore 6, 2, []) := la_of sgp_12 rfl sgd_12 rfl
theorem la_901 : dm_at 329 901 = some (.goto 1479, 3, [2380]) := la_of sgp_12 rfl sgd_12 rfl
theorem la_904 : dm_at 329 904 = some (.aload_n 1, 1, []) := la_of sgp_12 rfl sgd_12 rfl
theorem la_905 : dm_at 329 905 = some (.aload_n 0, 1, []) := la_of sgp_12 rfl sgd_12 rfl
theorem la_906 : dm_at 329 906 = some (.iload 4, 2, []) := la_of sgp_12 rfl sgd_12 rfl
theorem la_908 : dm_at 329 908 = some (.iconst 1, 1, []) := la_of sgp_12 rfl sgd_12 rfl
theorem la_909 : dm_at 329 909 = some (.iadd, 1, []) := la_of sgp_12 rfl sgd_12 rfl
theorem la_910 : dm_at 329 910 = some (.iaload, 1, []) := la_of sgp_12 rfl sgd_12 rfl
theorem la_911 : dm_at 329 911 = some (.aload_n 0, 1, []) := la_of sgp_12 rfl sgd_12 rfl
theorem la_912 : dm_at 329 912 = some (.iload 4, 2, []) := la_of sgp_12 rfl sgd_12 rfl
theorem la_914 : dm_at 329 914 = some (.iconst 2, 1, []) := la_of sgp_12 rfl sgd_12 rfl
theorem la_915 : dm_at 329 915 = some (.iadd, 1, []) := la_of sgp_12 rfl sgd_12 rfl
theorem la_916 : dm_at 329 916 = some (.iaload, 1, []) := la_of sgp_12 rfl sgd_12 rfl
theorem la_917 : dm_at 329 917 = some (.aload_n 0, 1, []) := la_of sgp_12 rfl sgd_12 rfl
theorem la_918 : dm_at 329 918 = some (.iload 4, 2, []) := la_of sgp_12 rfl sgd_12 rfl
theorem la_920 : dm_at 329 920 = some (.iconst 3, 1, []) := la_of sgp_12 rfl sgd_12 rfl
theorem la_921 : dm_at 329 921 = some (.iadd, 1, []) := la_of sgp_12 rfl sgd_12 rfl
theorem la_922 : dm_at 329 922 = some (.iaload, 1, []) := la_of sgp_12 rfl sgd_12 rfl
theorem la_923 : dm_at 329 923 = some (.ifCond .eq 7, 3, [930]) := la_of sgp_12 rfl sgd_12 rfl
theorem la_926 : dm_at 329 926 = some (.iconst 1, 1, []) := la_of sgp_12 rfl sgd_12 rfl
theorem la_927 : dm_at 329 927 = some (.goto 4, 3, [931]) := la_of sgp_12 rfl sgd_12 rfl
theorem la_930 : dm_at 329 930 = some (.iconst 0, 1, []) := la_of sgp_12 rfl sgd_12 rfl
set_option maxRecDepth 100000 in
def sg_13 : List (Nat × dm_I) := [(931, (.aload_n 3, 1, [])), (932, (.invokestatic 222, 3, [296, 0, 4001, 4002, 1000, 4003])), (935, (.istore 5, 2, [])), (937, (.aload_n 2, 1, [])), (938, (.aload_n 0, 1, [])), (939, (.iload 4, 2, [])), (941, (.iconst 1, 1, [])), (942, (.iadd, 1, [])), (943, (.iaload, 1, [])), (944, (.aload_n 0, 1, [])), (945, (.iload 4, 2, [])), (947, (.iconst 2, 1, [])), (948, (.iadd, 1, [])), (949, (.iaload, 1, [])), (950, (.aload_n 0, 1, [])), (951, (.iload 4, 2, [])), (953, (.iconst 3, 1, [])), (954, (.iadd, 1, [])), (955, (.iaload, 1, [])), (956, (.ifCond .eq 7, 3, [963])), (959, (.iconst 1, 1, [])), (960, (.goto 4, 3, [964])), (963, (.iconst 0, 1, [])), (964, (.invokevirtual 225, 3, [155, 1, 6187, 6188, 6189, 1008, 6190])), (967, (.istore 6, 2, [])), (969, (.goto 1411, 3, [2380])), (972, (.aload_n 1, 1, [])), (973, (.aload_n 0, 1, [])), (974, (.iload 4, 2, [])), (976, (.iconst 1, 1, [])), (977, (.iadd, 1, [])), (978, (.iaload, 1, [])), (979, (.aload_n 0, 1, [])), (980, (.iload 4, 2, [])), (982, (.iconst 2, 1, [])), (983, (.iadd, 1, [])), (984, (.iaload, 1, [])), (985, (.aload_n 0, 1, [])), (986, (.iload 4, 2, [])), (988, (.iconst 3, 1, []))]
set_option maxRecDepth 100000 in
theorem sgd_13 : ((dm_c 329).drop 520).take 40 = sg_13 := by decide +kernel
set_option maxRecDepth 100000 in
theorem sgp_13 : ((dm_c 329).take 520).all (fun x => Nat.blt x.1 931) = true := by decide +kernel
theorem la_931 : dm_at 329 931 = some (.aload_n 3, 1, []) := la_of sgp_13 rfl sgd_13 rfl
theorem la_932 : dm_at 329 932 = some (.invokestatic 222, 3, [296, 0, 4001, 4002, 1000, 4003]) := la_of sgp_13 rfl sgd_13 rfl
theorem la_935 : dm_at 329 935 = some (.istore 5, 2, []) := la_of sgp_13 rfl sgd_13 rfl
theorem la_937 : dm_at 329 937 = some (.aload_n 2, 1, []) := la_of sgp_13 rfl sgd_13 rfl
theorem la_938 : dm_at 329 938 = some (.aload_n 0, 1, []) := la_of sgp_13 rfl sgd_13 rfl
theorem la_939 : dm_at 329 939 = some (.iload 4, 2, []) := la_of sgp_13 rfl sgd_13 rfl
theorem la_941 : dm_at 329 941 = some (.iconst 1, 1, []) := la_of sgp_13 rfl sgd_13 rfl
theorem la_942 : dm_at 329 942 = some (.iadd, 1, []) := la_of sgp_13 rfl sgd_13 rfl
theorem la_943 : dm_at 329 943 = some (.iaload, 1, []) := la_of sgp_13 rfl sgd_13 rfl
theorem la_944 : dm_at 329 944 = some (.aload_n 0, 1, []) := la_of sgp_13 rfl sgd_13 rfl
theorem la_945 : dm_at 329 945 = some (.iload 4, 2, []) := la_of sgp_13 rfl sgd_13 rfl
theorem la_947 : dm_at 329 947 = some (.iconst 2, 1, []) := la_of sgp_13 rfl sgd_13 rfl
theorem la_948 : dm_at 329 948 = some (.iadd, 1, []) := la_of sgp_13 rfl sgd_13 rfl
theorem la_949 : dm_at 329 949 = some (.iaload, 1, []) := la_of sgp_13 rfl sgd_13 rfl
theorem la_950 : dm_at 329 950 = some (.aload_n 0, 1, []) := la_of sgp_13 rfl sgd_13 rfl
theorem la_951 : dm_at 329 951 = some (.iload 4, 2, []) := la_of sgp_13 rfl sgd_13 rfl
theorem la_953 : dm_at 329 953 = some (.iconst 3, 1, []) := la_of sgp_13 rfl sgd_13 rfl
theorem la_954 : dm_at 329 954 = some (.iadd, 1, []) := la_of sgp_13 rfl sgd_13 rfl
theorem la_955 : dm_at 329 955 = some (.iaload, 1, []) := la_of sgp_13 rfl sgd_13 rfl
theorem la_956 : dm_at 329 956 = some (.ifCond .eq 7, 3, [963]) := la_of sgp_13 rfl sgd_13 rfl
theorem la_959 : dm_at 329 959 = some (.iconst 1, 1, []) := la_of sgp_13 rfl sgd_13 rfl
theorem la_960 : dm_at 329 960 = some (.goto 4, 3, [964]) := la_of sgp_13 rfl sgd_13 rfl
theorem la_963 : dm_at 329 963 = some (.iconst 0, 1, []) := la_of sgp_13 rfl sgd_13 rfl
theorem la_964 : dm_at 329 964 = some (.invokevirtual 225, 3, [155, 1, 6187, 6188, 6189, 1008, 6190]) := la_of sgp_13 rfl sgd_13 rfl
theorem la_967 : dm_at 329 967 = some (.istore 6, 2, []) := la_of sgp_13 rfl sgd_13 rfl
theorem la_969 : dm_at 329 969 = some (.goto 1411, 3, [2380]) := la_of sgp_13 rfl sgd_13 rfl
theorem la_972 : dm_at 329 972 = some (.aload_n 1, 1, []) := la_of sgp_13 rfl sgd_13 rfl
theorem la_973 : dm_at 329 973 = some (.aload_n 0, 1, []) := la_of sgp_13 rfl sgd_13 rfl
theorem la_974 : dm_at 329 974 = some (.iload 4, 2, []) := la_of sgp_13 rfl sgd_13 rfl
theorem la_976 : dm_at 329 976 = some (.iconst 1, 1, []) := la_of sgp_13 rfl sgd_13 rfl
theorem la_977 : dm_at 329 977 = some (.iadd, 1, []) := la_of sgp_13 rfl sgd_13 rfl
theorem la_978 : dm_at 329 978 = some (.iaload, 1, []) := la_of sgp_13 rfl sgd_13 rfl
theorem la_979 : dm_at 329 979 = some (.aload_n 0, 1, []) := la_of sgp_13 rfl sgd_13 rfl
theorem la_980 : dm_at 329 980 = some (.iload 4, 2, []) := la_of sgp_13 rfl sgd_13 rfl
theorem la_982 : dm_at 329 982 = some (.iconst 2, 1, []) := la_of sgp_13 rfl sgd_13 rfl
theorem la_983 : dm_at 329 983 = some (.iadd, 1, []) := la_of sgp_13 rfl sgd_13 rfl
theorem la_984 : dm_at 329 984 = some (.iaload, 1, []) := la_of sgp_13 rfl sgd_13 rfl
theorem la_985 : dm_at 329 985 = some (.aload_n 0, 1, []) := la_of sgp_13 rfl sgd_13 rfl
theorem la_986 : dm_at 329 986 = some (.iload 4, 2, []) := la_of sgp_13 rfl sgd_13 rfl
theorem la_988 : dm_at 329 988 = some (.iconst 3, 1, []) := la_of sgp_13 rfl sgd_13 rfl
set_option maxRecDepth 100000 in
def sg_14 : List (Nat × dm_I) := [(989, (.iadd, 1, [])), (990, (.iaload, 1, [])), (991, (.aload_n 3, 1, [])), (992, (.invokestatic 226, 3, [297, 0, 4009, 4010, 1000, 4011])), (995, (.istore 5, 2, [])), (997, (.aload_n 2, 1, [])), (998, (.aload_n 0, 1, [])), (999, (.iload 4, 2, [])), (1001, (.iconst 1, 1, [])), (1002, (.iadd, 1, [])), (1003, (.iaload, 1, [])), (1004, (.aload_n 0, 1, [])), (1005, (.iload 4, 2, [])), (1007, (.iconst 2, 1, [])), (1008, (.iadd, 1, [])), (1009, (.iaload, 1, [])), (1010, (.aload_n 0, 1, [])), (1011, (.iload 4, 2, [])), (1013, (.iconst 3, 1, [])), (1014, (.iadd, 1, [])), (1015, (.iaload, 1, [])), (1016, (.invokevirtual 228, 3, [159, 1, 6191, 6192, 6193, 1008, 6194])), (1019, (.istore 6, 2, [])), (1021, (.goto 1359, 3, [2380])), (1024, (.aload_n 1, 1, [])), (1025, (.aload_n 0, 1, [])), (1026, (.iload 4, 2, [])), (1028, (.iconst 1, 1, [])), (1029, (.iadd, 1, [])), (1030, (.iaload, 1, [])), (1031, (.aload_n 0, 1, [])), (1032, (.iload 4, 2, [])), (1034, (.iconst 2, 1, [])), (1035, (.iadd, 1, [])), (1036, (.iaload, 1, [])), (1037, (.aload_n 3, 1, [])), (1038, (.invokestatic 229, 3, [298, 0, 4018, 4019, 1000, 4020])), (1041, (.istore 5, 2, [])), (1043, (.aload_n 2, 1, [])), (1044, (.aload_n 0, 1, []))]
set_option maxRecDepth 100000 in
theorem sgd_14 : ((dm_c 329).drop 560).take 40 = sg_14 := by decide +kernel
set_option maxRecDepth 100000 in
theorem sgp_14 : ((dm_c 329).take 560).all (fun x => Nat.blt x.1 989) = true := by decide +kernel
theorem la_989 : dm_at 329 989 = some (.iadd, 1, []) := la_of sgp_14 rfl sgd_14 rfl
theorem la_990 : dm_at 329 990 = some (.iaload, 1, []) := la_of sgp_14 rfl sgd_14 rfl
theorem la_991 : dm_at 329 991 = some (.aload_n 3, 1, []) := la_of sgp_14 rfl sgd_14 rfl
theorem la_992 : dm_at 329 992 = some (.invokestatic 226, 3, [297, 0, 4009, 4010, 1000, 4011]) := la_of sgp_14 rfl sgd_14 rfl
theorem la_995 : dm_at 329 995 = some (.istore 5, 2, []) := la_of sgp_14 rfl sgd_14 rfl
theorem la_997 : dm_at 329 997 = some (.aload_n 2, 1, []) := la_of sgp_14 rfl sgd_14 rfl
theorem la_998 : dm_at 329 998 = some (.aload_n 0, 1, []) := la_of sgp_14 rfl sgd_14 rfl
theorem la_999 : dm_at 329 999 = some (.iload 4, 2, []) := la_of sgp_14 rfl sgd_14 rfl
theorem la_1001 : dm_at 329 1001 = some (.iconst 1, 1, []) := la_of sgp_14 rfl sgd_14 rfl
theorem la_1002 : dm_at 329 1002 = some (.iadd, 1, []) := la_of sgp_14 rfl sgd_14 rfl
theorem la_1003 : dm_at 329 1003 = some (.iaload, 1, []) := la_of sgp_14 rfl sgd_14 rfl
theorem la_1004 : dm_at 329 1004 = some (.aload_n 0, 1, []) := la_of sgp_14 rfl sgd_14 rfl
theorem la_1005 : dm_at 329 1005 = some (.iload 4, 2, []) := la_of sgp_14 rfl sgd_14 rfl
theorem la_1007 : dm_at 329 1007 = some (.iconst 2, 1, []) := la_of sgp_14 rfl sgd_14 rfl
theorem la_1008 : dm_at 329 1008 = some (.iadd, 1, []) := la_of sgp_14 rfl sgd_14 rfl
theorem la_1009 : dm_at 329 1009 = some (.iaload, 1, []) := la_of sgp_14 rfl sgd_14 rfl
theorem la_1010 : dm_at 329 1010 = some (.aload_n 0, 1, []) := la_of sgp_14 rfl sgd_14 rfl
theorem la_1011 : dm_at 329 1011 = some (.iload 4, 2, []) := la_of sgp_14 rfl sgd_14 rfl
theorem la_1013 : dm_at 329 1013 = some (.iconst 3, 1, []) := la_of sgp_14 rfl sgd_14 rfl
theorem la_1014 : dm_at 329 1014 = some (.iadd, 1, []) := la_of sgp_14 rfl sgd_14 rfl
theorem la_1015 : dm_at 329 1015 = some (.iaload, 1, []) := la_of sgp_14 rfl sgd_14 rfl
theorem la_1016 : dm_at 329 1016 = some (.invokevirtual 228, 3, [159, 1, 6191, 6192, 6193, 1008, 6194]) := la_of sgp_14 rfl sgd_14 rfl
theorem la_1019 : dm_at 329 1019 = some (.istore 6, 2, []) := la_of sgp_14 rfl sgd_14 rfl
theorem la_1021 : dm_at 329 1021 = some (.goto 1359, 3, [2380]) := la_of sgp_14 rfl sgd_14 rfl
theorem la_1024 : dm_at 329 1024 = some (.aload_n 1, 1, []) := la_of sgp_14 rfl sgd_14 rfl
theorem la_1025 : dm_at 329 1025 = some (.aload_n 0, 1, []) := la_of sgp_14 rfl sgd_14 rfl
theorem la_1026 : dm_at 329 1026 = some (.iload 4, 2, []) := la_of sgp_14 rfl sgd_14 rfl
theorem la_1028 : dm_at 329 1028 = some (.iconst 1, 1, []) := la_of sgp_14 rfl sgd_14 rfl
theorem la_1029 : dm_at 329 1029 = some (.iadd, 1, []) := la_of sgp_14 rfl sgd_14 rfl
theorem la_1030 : dm_at 329 1030 = some (.iaload, 1, []) := la_of sgp_14 rfl sgd_14 rfl
theorem la_1031 : dm_at 329 1031 = some (.aload_n 0, 1, []) := la_of sgp_14 rfl sgd_14 rfl
theorem la_1032 : dm_at 329 1032 = some (.iload 4, 2, []) := la_of sgp_14 rfl sgd_14 rfl
theorem la_1034 : dm_at 329 1034 = some (.iconst 2, 1, []) := la_of sgp_14 rfl sgd_14 rfl
theorem la_1035 : dm_at 329 1035 = some (.iadd, 1, []) := la_of sgp_14 rfl sgd_14 rfl
theorem la_1036 : dm_at 329 1036 = some (.iaload, 1, []) := la_of sgp_14 rfl sgd_14 rfl
theorem la_1037 : dm_at 329 1037 = some (.aload_n 3, 1, []) := la_of sgp_14 rfl sgd_14 rfl
theorem la_1038 : dm_at 329 1038 = some (.invokestatic 229, 3, [298, 0, 4018, 4019, 1000, 4020]) := la_of sgp_14 rfl sgd_14 rfl
theorem la_1041 : dm_at 329 1041 = some (.istore 5, 2, []) := la_of sgp_14 rfl sgd_14 rfl
theorem la_1043 : dm_at 329 1043 = some (.aload_n 2, 1, []) := la_of sgp_14 rfl sgd_14 rfl
theorem la_1044 : dm_at 329 1044 = some (.aload_n 0, 1, []) := la_of sgp_14 rfl sgd_14 rfl
set_option maxRecDepth 100000 in
def sg_15 : List (Nat × dm_I) := [(1045, (.iload 4, 2, [])), (1047, (.iconst 1, 1, [])), (1048, (.iadd, 1, [])), (1049, (.iaload, 1, [])), (1050, (.aload_n 0, 1, [])), (1051, (.iload 4, 2, [])), (1053, (.iconst 2, 1, [])), (1054, (.iadd, 1, [])), (1055, (.iaload, 1, [])), (1056, (.invokevirtual 231, 3, [160, 1, 6203, 6204, 6205, 1008, 6206])), (1059, (.istore 6, 2, [])), (1061, (.goto 1319, 3, [2380])), (1064, (.aload_n 1, 1, [])), (1065, (.aload_n 0, 1, [])), (1066, (.iload 4, 2, [])), (1068, (.iconst 1, 1, [])), (1069, (.iadd, 1, [])), (1070, (.iaload, 1, [])), (1071, (.aload_n 0, 1, [])), (1072, (.iload 4, 2, [])), (1074, (.iconst 2, 1, [])), (1075, (.iadd, 1, [])), (1076, (.iaload, 1, [])), (1077, (.aload_n 0, 1, [])), (1078, (.iload 4, 2, [])), (1080, (.iconst 3, 1, [])), (1081, (.iadd, 1, [])), (1082, (.iaload, 1, [])), (1083, (.aload_n 3, 1, [])), (1084, (.invokestatic 232, 3, [299, 0, 4031, 4032, 1000, 4033])), (1087, (.istore 5, 2, [])), (1089, (.aload_n 2, 1, [])), (1090, (.aload_n 0, 1, [])), (1091, (.iload 4, 2, [])), (1093, (.iconst 1, 1, [])), (1094, (.iadd, 1, [])), (1095, (.iaload, 1, [])), (1096, (.aload_n 0, 1, [])), (1097, (.iload 4, 2, [])), (1099, (.iconst 2, 1, []))]
set_option maxRecDepth 100000 in
theorem sgd_15 : ((dm_c 329).drop 600).take 40 = sg_15 := by decide +kernel
set_option maxRecDepth 100000 in
theorem sgp_15 : ((dm_c 329).take 600).all (fun x => Nat.blt x.1 1045) = true := by decide +kernel
theorem la_1045 : dm_at 329 1045 = some (.iload 4, 2, []) := la_of sgp_15 rfl sgd_15 rfl
theorem la_1047 : dm_at 329 1047 = some (.iconst 1, 1, []) := la_of sgp_15 rfl sgd_15 rfl
theorem la_1048 : dm_at 329 1048 = some (.iadd, 1, []) := la_of sgp_15 rfl sgd_15 rfl
theorem la_1049 : dm_at 329 1049 = some (.iaload, 1, []) := la_of sgp_15 rfl sgd_15 rfl
theorem la_1050 : dm_at 329 1050 = some (.aload_n 0, 1, []) := la_of sgp_15 rfl sgd_15 rfl
theorem la_1051 : dm_at 329 1051 = some (.iload 4, 2, []) := la_of sgp_15 rfl sgd_15 rfl
theorem la_1053 : dm_at 329 1053 = some (.iconst 2, 1, []) := la_of sgp_15 rfl sgd_15 rfl
theorem la_1054 : dm_at 329 1054 = some (.iadd, 1, []) := la_of sgp_15 rfl sgd_15 rfl
theorem la_1055 : dm_at 329 1055 = some (.iaload, 1, []) := la_of sgp_15 rfl sgd_15 rfl
theorem la_1056 : dm_at 329 1056 = some (.invokevirtual 231, 3, [160, 1, 6203, 6204, 6205, 1008, 6206]) := la_of sgp_15 rfl sgd_15 rfl
theorem la_1059 : dm_at 329 1059 = some (.istore 6, 2, []) := la_of sgp_15 rfl sgd_15 rfl
theorem la_1061 : dm_at 329 1061 = some (.goto 1319, 3, [2380]) := la_of sgp_15 rfl sgd_15 rfl
theorem la_1064 : dm_at 329 1064 = some (.aload_n 1, 1, []) := la_of sgp_15 rfl sgd_15 rfl
theorem la_1065 : dm_at 329 1065 = some (.aload_n 0, 1, []) := la_of sgp_15 rfl sgd_15 rfl
theorem la_1066 : dm_at 329 1066 = some (.iload 4, 2, []) := la_of sgp_15 rfl sgd_15 rfl
theorem la_1068 : dm_at 329 1068 = some (.iconst 1, 1, []) := la_of sgp_15 rfl sgd_15 rfl
theorem la_1069 : dm_at 329 1069 = some (.iadd, 1, []) := la_of sgp_15 rfl sgd_15 rfl
theorem la_1070 : dm_at 329 1070 = some (.iaload, 1, []) := la_of sgp_15 rfl sgd_15 rfl
theorem la_1071 : dm_at 329 1071 = some (.aload_n 0, 1, []) := la_of sgp_15 rfl sgd_15 rfl
theorem la_1072 : dm_at 329 1072 = some (.iload 4, 2, []) := la_of sgp_15 rfl sgd_15 rfl
theorem la_1074 : dm_at 329 1074 = some (.iconst 2, 1, []) := la_of sgp_15 rfl sgd_15 rfl
theorem la_1075 : dm_at 329 1075 = some (.iadd, 1, []) := la_of sgp_15 rfl sgd_15 rfl
theorem la_1076 : dm_at 329 1076 = some (.iaload, 1, []) := la_of sgp_15 rfl sgd_15 rfl
theorem la_1077 : dm_at 329 1077 = some (.aload_n 0, 1, []) := la_of sgp_15 rfl sgd_15 rfl
theorem la_1078 : dm_at 329 1078 = some (.iload 4, 2, []) := la_of sgp_15 rfl sgd_15 rfl
theorem la_1080 : dm_at 329 1080 = some (.iconst 3, 1, []) := la_of sgp_15 rfl sgd_15 rfl
theorem la_1081 : dm_at 329 1081 = some (.iadd, 1, []) := la_of sgp_15 rfl sgd_15 rfl
theorem la_1082 : dm_at 329 1082 = some (.iaload, 1, []) := la_of sgp_15 rfl sgd_15 rfl
theorem la_1083 : dm_at 329 1083 = some (.aload_n 3, 1, []) := la_of sgp_15 rfl sgd_15 rfl
theorem la_1084 : dm_at 329 1084 = some (.invokestatic 232, 3, [299, 0, 4031, 4032, 1000, 4033]) := la_of sgp_15 rfl sgd_15 rfl
theorem la_1087 : dm_at 329 1087 = some (.istore 5, 2, []) := la_of sgp_15 rfl sgd_15 rfl
theorem la_1089 : dm_at 329 1089 = some (.aload_n 2, 1, []) := la_of sgp_15 rfl sgd_15 rfl
theorem la_1090 : dm_at 329 1090 = some (.aload_n 0, 1, []) := la_of sgp_15 rfl sgd_15 rfl
theorem la_1091 : dm_at 329 1091 = some (.iload 4, 2, []) := la_of sgp_15 rfl sgd_15 rfl
theorem la_1093 : dm_at 329 1093 = some (.iconst 1, 1, []) := la_of sgp_15 rfl sgd_15 rfl
theorem la_1094 : dm_at 329 1094 = some (.iadd, 1, []) := la_of sgp_15 rfl sgd_15 rfl
theorem la_1095 : dm_at 329 1095 = some (.iaload, 1, []) := la_of sgp_15 rfl sgd_15 rfl
theorem la_1096 : dm_at 329 1096 = some (.aload_n 0, 1, []) := la_of sgp_15 rfl sgd_15 rfl
theorem la_1097 : dm_at 329 1097 = some (.iload 4, 2, []) := la_of sgp_15 rfl sgd_15 rfl
theorem la_1099 : dm_at 329 1099 = some (.iconst 2, 1, []) := la_of sgp_15 rfl sgd_15 rfl
set_option maxRecDepth 100000 in
def sg_16 : List (Nat × dm_I) := [(1100, (.iadd, 1, [])), (1101, (.iaload, 1, [])), (1102, (.aload_n 0, 1, [])), (1103, (.iload 4, 2, [])), (1105, (.iconst 3, 1, [])), (1106, (.iadd, 1, [])), (1107, (.iaload, 1, [])), (1108, (.invokevirtual 234, 3, [161, 1, 6207, 6208, 6209, 1008, 6210])), (1111, (.istore 6, 2, [])), (1113, (.goto 1267, 3, [2380])), (1116, (.aload_n 1, 1, [])), (1117, (.aload_n 0, 1, [])), (1118, (.iload 4, 2, [])), (1120, (.iconst 1, 1, [])), (1121, (.iadd, 1, [])), (1122, (.iaload, 1, [])), (1123, (.aload_n 0, 1, [])), (1124, (.iload 4, 2, [])), (1126, (.iconst 2, 1, [])), (1127, (.iadd, 1, [])), (1128, (.iaload, 1, [])), (1129, (.aload_n 3, 1, [])), (1130, (.invokestatic 235, 3, [300, 0, 4038, 4039, 1000, 4040])), (1133, (.istore 5, 2, [])), (1135, (.aload_n 2, 1, [])), (1136, (.aload_n 0, 1, [])), (1137, (.iload 4, 2, [])), (1139, (.iconst 1, 1, [])), (1140, (.iadd, 1, [])), (1141, (.iaload, 1, [])), (1142, (.aload_n 0, 1, [])), (1143, (.iload 4, 2, [])), (1145, (.iconst 2, 1, [])), (1146, (.iadd, 1, [])), (1147, (.iaload, 1, [])), (1148, (.invokevirtual 237, 3, [162, 1, 6211, 6212, 6213, 1008, 6214])), (1151, (.istore 6, 2, [])), (1153, (.goto 1227, 3, [2380])), (1156, (.aload_n 1, 1, [])), (1157, (.aload_n 0, 1, []))]
set_option maxRecDepth 100000 in
theorem sgd_16 : ((dm_c 329).drop 640).take 40 = sg_16 := by decide +kernel
set_option maxRecDepth 100000 in
theorem sgp_16 : ((dm_c 329).take 640).all (fun x => Nat.blt x.1 1100) = true := by decide +kernel
theorem la_1100 : dm_at 329 1100 = some (.iadd, 1, []) := la_of sgp_16 rfl sgd_16 rfl
theorem la_1101 : dm_at 329 1101 = some (.iaload, 1, []) := la_of sgp_16 rfl sgd_16 rfl
theorem la_1102 : dm_at 329 1102 = some (.aload_n 0, 1, []) := la_of sgp_16 rfl sgd_16 rfl
theorem la_1103 : dm_at 329 1103 = some (.iload 4, 2, []) := la_of sgp_16 rfl sgd_16 rfl
theorem la_1105 : dm_at 329 1105 = some (.iconst 3, 1, []) := la_of sgp_16 rfl sgd_16 rfl
theorem la_1106 : dm_at 329 1106 = some (.iadd, 1, []) := la_of sgp_16 rfl sgd_16 rfl
theorem la_1107 : dm_at 329 1107 = some (.iaload, 1, []) := la_of sgp_16 rfl sgd_16 rfl
theorem la_1108 : dm_at 329 1108 = some (.invokevirtual 234, 3, [161, 1, 6207, 6208, 6209, 1008, 6210]) := la_of sgp_16 rfl sgd_16 rfl
theorem la_1111 : dm_at 329 1111 = some (.istore 6, 2, []) := la_of sgp_16 rfl sgd_16 rfl
theorem la_1113 : dm_at 329 1113 = some (.goto 1267, 3, [2380]) := la_of sgp_16 rfl sgd_16 rfl
theorem la_1116 : dm_at 329 1116 = some (.aload_n 1, 1, []) := la_of sgp_16 rfl sgd_16 rfl
theorem la_1117 : dm_at 329 1117 = some (.aload_n 0, 1, []) := la_of sgp_16 rfl sgd_16 rfl
theorem la_1118 : dm_at 329 1118 = some (.iload 4, 2, []) := la_of sgp_16 rfl sgd_16 rfl
theorem la_1120 : dm_at 329 1120 = some (.iconst 1, 1, []) := la_of sgp_16 rfl sgd_16 rfl
theorem la_1121 : dm_at 329 1121 = some (.iadd, 1, []) := la_of sgp_16 rfl sgd_16 rfl
theorem la_1122 : dm_at 329 1122 = some (.iaload, 1, []) := la_of sgp_16 rfl sgd_16 rfl
theorem la_1123 : dm_at 329 1123 = some (.aload_n 0, 1, []) := la_of sgp_16 rfl sgd_16 rfl
theorem la_1124 : dm_at 329 1124 = some (.iload 4, 2, []) := la_of sgp_16 rfl sgd_16 rfl
theorem la_1126 : dm_at 329 1126 = some (.iconst 2, 1, []) := la_of sgp_16 rfl sgd_16 rfl
theorem la_1127 : dm_at 329 1127 = some (.iadd, 1, []) := la_of sgp_16 rfl sgd_16 rfl
theorem la_1128 : dm_at 329 1128 = some (.iaload, 1, []) := la_of sgp_16 rfl sgd_16 rfl
theorem la_1129 : dm_at 329 1129 = some (.aload_n 3, 1, []) := la_of sgp_16 rfl sgd_16 rfl
theorem la_1130 : dm_at 329 1130 = some (.invokestatic 235, 3, [300, 0, 4038, 4039, 1000, 4040]) := la_of sgp_16 rfl sgd_16 rfl
theorem la_1133 : dm_at 329 1133 = some (.istore 5, 2, []) := la_of sgp_16 rfl sgd_16 rfl
theorem la_1135 : dm_at 329 1135 = some (.aload_n 2, 1, []) := la_of sgp_16 rfl sgd_16 rfl
theorem la_1136 : dm_at 329 1136 = some (.aload_n 0, 1, []) := la_of sgp_16 rfl sgd_16 rfl
theorem la_1137 : dm_at 329 1137 = some (.iload 4, 2, []) := la_of sgp_16 rfl sgd_16 rfl
theorem la_1139 : dm_at 329 1139 = some (.iconst 1, 1, []) := la_of sgp_16 rfl sgd_16 rfl
theorem la_1140 : dm_at 329 1140 = some (.iadd, 1, []) := la_of sgp_16 rfl sgd_16 rfl
theorem la_1141 : dm_at 329 1141 = some (.iaload, 1, []) := la_of sgp_16 rfl sgd_16 rfl
theorem la_1142 : dm_at 329 1142 = some (.aload_n 0, 1, []) := la_of sgp_16 rfl sgd_16 rfl
theorem la_1143 : dm_at 329 1143 = some (.iload 4, 2, []) := la_of sgp_16 rfl sgd_16 rfl
theorem la_1145 : dm_at 329 1145 = some (.iconst 2, 1, []) := la_of sgp_16 rfl sgd_16 rfl
theorem la_1146 : dm_at 329 1146 = some (.iadd, 1, []) := la_of sgp_16 rfl sgd_16 rfl
theorem la_1147 : dm_at 329 1147 = some (.iaload, 1, []) := la_of sgp_16 rfl sgd_16 rfl
theorem la_1148 : dm_at 329 1148 = some (.invokevirtual 237, 3, [162, 1, 6211, 6212, 6213, 1008, 6214]) := la_of sgp_16 rfl sgd_16 rfl
theorem la_1151 : dm_at 329 1151 = some (.istore 6, 2, []) := la_of sgp_16 rfl sgd_16 rfl
theorem la_1153 : dm_at 329 1153 = some (.goto 1227, 3, [2380]) := la_of sgp_16 rfl sgd_16 rfl
theorem la_1156 : dm_at 329 1156 = some (.aload_n 1, 1, []) := la_of sgp_16 rfl sgd_16 rfl
theorem la_1157 : dm_at 329 1157 = some (.aload_n 0, 1, []) := la_of sgp_16 rfl sgd_16 rfl
set_option maxRecDepth 100000 in
def sg_17 : List (Nat × dm_I) := [(1158, (.iload 4, 2, [])), (1160, (.iconst 1, 1, [])), (1161, (.iadd, 1, [])), (1162, (.iaload, 1, [])), (1163, (.ifCond .eq 7, 3, [1170])), (1166, (.iconst 1, 1, [])), (1167, (.goto 4, 3, [1171])), (1170, (.iconst 0, 1, [])), (1171, (.aload_n 3, 1, [])), (1172, (.invokestatic 238, 3, [301, 0, 4045, 4046, 1000, 4047])), (1175, (.istore 5, 2, [])), (1177, (.aload_n 2, 1, [])), (1178, (.aload_n 0, 1, [])), (1179, (.iload 4, 2, [])), (1181, (.iconst 1, 1, [])), (1182, (.iadd, 1, [])), (1183, (.iaload, 1, [])), (1184, (.ifCond .eq 7, 3, [1191])), (1187, (.iconst 1, 1, [])), (1188, (.goto 4, 3, [1192])), (1191, (.iconst 0, 1, [])), (1192, (.invokevirtual 241, 3, [163, 1, 6215, 6216, 6217, 1008, 6218])), (1195, (.istore 6, 2, [])), (1197, (.goto 1183, 3, [2380])), (1200, (.aload_n 1, 1, [])), (1201, (.aload_n 3, 1, [])), (1202, (.invokestatic 242, 3, [302, 0, 4052, 4053, 1000, 4054])), (1205, (.istore 5, 2, [])), (1207, (.aload_n 2, 1, [])), (1208, (.invokevirtual 245, 3, [164, 1, 6223, 6224, 6225, 1008, 6226])), (1211, (.istore 6, 2, [])), (1213, (.goto 1167, 3, [2380])), (1216, (.aload_n 1, 1, [])), (1217, (.aload_n 0, 1, [])), (1218, (.iload 4, 2, [])), (1220, (.iconst 1, 1, [])), (1221, (.iadd, 1, [])), (1222, (.iaload, 1, [])), (1223, (.aload_n 3, 1, [])), (1224, (.invokestatic 246, 3, [303, 0, 4059, 4060, 1000, 4061]))]
set_option maxRecDepth 100000 in
theorem sgd_17 : ((dm_c 329).drop 680).take 40 = sg_17 := by decide +kernel
set_option maxRecDepth 100000 in
theorem sgp_17 : ((dm_c 329).take 680).all (fun x => Nat.blt x.1 1158) = true := by decide +kernel
theorem la_1158 : dm_at 329 1158 = some (.iload 4, 2, []) := la_of sgp_17 rfl sgd_17 rfl
theorem la_1160 : dm_at 329 1160 = some (.iconst 1, 1, []) := la_of sgp_17 rfl sgd_17 rfl
theorem la_1161 : dm_at 329 1161 = some (.iadd, 1, []) := la_of sgp_17 rfl sgd_17 rfl
theorem la_1162 : dm_at 329 1162 = some (.iaload, 1, []) := la_of sgp_17 rfl sgd_17 rfl
theorem la_1163 : dm_at 329 1163 = some (.ifCond .eq 7, 3, [1170]) := la_of sgp_17 rfl sgd_17 rfl
theorem la_1166 : dm_at 329 1166 = some (.iconst 1, 1, []) := la_of sgp_17 rfl sgd_17 rfl
theorem la_1167 : dm_at 329 1167 = some (.goto 4, 3, [1171]) := la_of sgp_17 rfl sgd_17 rfl
theorem la_1170 : dm_at 329 1170 = some (.iconst 0, 1, []) := la_of sgp_17 rfl sgd_17 rfl
theorem la_1171 : dm_at 329 1171 = some (.aload_n 3, 1, []) := la_of sgp_17 rfl sgd_17 rfl
theorem la_1172 : dm_at 329 1172 = some (.invokestatic 238, 3, [301, 0, 4045, 4046, 1000, 4047]) := la_of sgp_17 rfl sgd_17 rfl
theorem la_1175 : dm_at 329 1175 = some (.istore 5, 2, []) := la_of sgp_17 rfl sgd_17 rfl
theorem la_1177 : dm_at 329 1177 = some (.aload_n 2, 1, []) := la_of sgp_17 rfl sgd_17 rfl
theorem la_1178 : dm_at 329 1178 = some (.aload_n 0, 1, []) := la_of sgp_17 rfl sgd_17 rfl
theorem la_1179 : dm_at 329 1179 = some (.iload 4, 2, []) := la_of sgp_17 rfl sgd_17 rfl
theorem la_1181 : dm_at 329 1181 = some (.iconst 1, 1, []) := la_of sgp_17 rfl sgd_17 rfl
theorem la_1182 : dm_at 329 1182 = some (.iadd, 1, []) := la_of sgp_17 rfl sgd_17 rfl
theorem la_1183 : dm_at 329 1183 = some (.iaload, 1, []) := la_of sgp_17 rfl sgd_17 rfl
theorem la_1184 : dm_at 329 1184 = some (.ifCond .eq 7, 3, [1191]) := la_of sgp_17 rfl sgd_17 rfl
theorem la_1187 : dm_at 329 1187 = some (.iconst 1, 1, []) := la_of sgp_17 rfl sgd_17 rfl
theorem la_1188 : dm_at 329 1188 = some (.goto 4, 3, [1192]) := la_of sgp_17 rfl sgd_17 rfl
theorem la_1191 : dm_at 329 1191 = some (.iconst 0, 1, []) := la_of sgp_17 rfl sgd_17 rfl
theorem la_1192 : dm_at 329 1192 = some (.invokevirtual 241, 3, [163, 1, 6215, 6216, 6217, 1008, 6218]) := la_of sgp_17 rfl sgd_17 rfl
theorem la_1195 : dm_at 329 1195 = some (.istore 6, 2, []) := la_of sgp_17 rfl sgd_17 rfl
theorem la_1197 : dm_at 329 1197 = some (.goto 1183, 3, [2380]) := la_of sgp_17 rfl sgd_17 rfl
theorem la_1200 : dm_at 329 1200 = some (.aload_n 1, 1, []) := la_of sgp_17 rfl sgd_17 rfl
theorem la_1201 : dm_at 329 1201 = some (.aload_n 3, 1, []) := la_of sgp_17 rfl sgd_17 rfl
theorem la_1202 : dm_at 329 1202 = some (.invokestatic 242, 3, [302, 0, 4052, 4053, 1000, 4054]) := la_of sgp_17 rfl sgd_17 rfl
theorem la_1205 : dm_at 329 1205 = some (.istore 5, 2, []) := la_of sgp_17 rfl sgd_17 rfl
theorem la_1207 : dm_at 329 1207 = some (.aload_n 2, 1, []) := la_of sgp_17 rfl sgd_17 rfl
theorem la_1208 : dm_at 329 1208 = some (.invokevirtual 245, 3, [164, 1, 6223, 6224, 6225, 1008, 6226]) := la_of sgp_17 rfl sgd_17 rfl
theorem la_1211 : dm_at 329 1211 = some (.istore 6, 2, []) := la_of sgp_17 rfl sgd_17 rfl
theorem la_1213 : dm_at 329 1213 = some (.goto 1167, 3, [2380]) := la_of sgp_17 rfl sgd_17 rfl
theorem la_1216 : dm_at 329 1216 = some (.aload_n 1, 1, []) := la_of sgp_17 rfl sgd_17 rfl
theorem la_1217 : dm_at 329 1217 = some (.aload_n 0, 1, []) := la_of sgp_17 rfl sgd_17 rfl
theorem la_1218 : dm_at 329 1218 = some (.iload 4, 2, []) := la_of sgp_17 rfl sgd_17 rfl
theorem la_1220 : dm_at 329 1220 = some (.iconst 1, 1, []) := la_of sgp_17 rfl sgd_17 rfl
theorem la_1221 : dm_at 329 1221 = some (.iadd, 1, []) := la_of sgp_17 rfl sgd_17 rfl
theorem la_1222 : dm_at 329 1222 = some (.iaload, 1, []) := la_of sgp_17 rfl sgd_17 rfl
theorem la_1223 : dm_at 329 1223 = some (.aload_n 3, 1, []) := la_of sgp_17 rfl sgd_17 rfl
theorem la_1224 : dm_at 329 1224 = some (.invokestatic 246, 3, [303, 0, 4059, 4060, 1000, 4061]) := la_of sgp_17 rfl sgd_17 rfl
set_option maxRecDepth 100000 in
def sg_18 : List (Nat × dm_I) := [(1227, (.istore 5, 2, [])), (1229, (.aload_n 2, 1, [])), (1230, (.aload_n 0, 1, [])), (1231, (.iload 4, 2, [])), (1233, (.iconst 1, 1, [])), (1234, (.iadd, 1, [])), (1235, (.iaload, 1, [])), (1236, (.invokevirtual 248, 3, [166, 1, 6227, 6228, 6229, 1008, 6230])), (1239, (.istore 6, 2, [])), (1241, (.goto 1139, 3, [2380])), (1244, (.aload_n 1, 1, [])), (1245, (.aload_n 3, 1, [])), (1246, (.invokestatic 249, 3, [304, 0, 4063, 4064, 1000, 4065])), (1249, (.istore 5, 2, [])), (1251, (.aload_n 2, 1, [])), (1252, (.invokevirtual 251, 3, [167, 1, 6235, 6236, 6237, 1008, 6238])), (1255, (.astore 6, 2, [])), (1257, (.goto 1123, 3, [2380])), (1260, (.aload_n 1, 1, [])), (1261, (.aload_n 0, 1, [])), (1262, (.iload 4, 2, [])), (1264, (.iconst 1, 1, [])), (1265, (.iadd, 1, [])), (1266, (.iaload, 1, [])), (1267, (.aload_n 3, 1, [])), (1268, (.invokestatic 252, 3, [305, 0, 5098, 5099, 1000, 5100])), (1271, (.istore 5, 2, [])), (1273, (.aload_n 2, 1, [])), (1274, (.aload_n 0, 1, [])), (1275, (.iload 4, 2, [])), (1277, (.iconst 1, 1, [])), (1278, (.iadd, 1, [])), (1279, (.iaload, 1, [])), (1280, (.invokevirtual 254, 3, [168, 1, 7010, 7011, 7012, 1008, 7013])), (1283, (.istore 6, 2, [])), (1285, (.goto 1095, 3, [2380])), (1288, (.aload_n 1, 1, [])), (1289, (.aload_n 3, 1, [])), (1290, (.invokestatic 255, 3, [306, 0, 5106, 5107, 1000, 5108])), (1293, (.istore 5, 2, []))]
set_option maxRecDepth 100000 in
theorem sgd_18 : ((dm_c 329).drop 720).take 40 = sg_18 := by decide +kernel
set_option maxRecDepth 100000 in
theorem sgp_18 : ((dm_c 329).take 720).all (fun x => Nat.blt x.1 1227) = true := by decide +kernel
theorem la_1227 : dm_at 329 1227 = some (.istore 5, 2, []) := la_of sgp_18 rfl sgd_18 rfl
theorem la_1229 : dm_at 329 1229 = some (.aload_n 2, 1, []) := la_of sgp_18 rfl sgd_18 rfl
theorem la_1230 : dm_at 329 1230 = some (.aload_n 0, 1, []) := la_of sgp_18 rfl sgd_18 rfl
theorem la_1231 : dm_at 329 1231 = some (.iload 4, 2, []) := la_of sgp_18 rfl sgd_18 rfl
theorem la_1233 : dm_at 329 1233 = some (.iconst 1, 1, []) := la_of sgp_18 rfl sgd_18 rfl
theorem la_1234 : dm_at 329 1234 = some (.iadd, 1, []) := la_of sgp_18 rfl sgd_18 rfl
theorem la_1235 : dm_at 329 1235 = some (.iaload, 1, []) := la_of sgp_18 rfl sgd_18 rfl
theorem la_1236 : dm_at 329 1236 = some (.invokevirtual 248, 3, [166, 1, 6227, 6228, 6229, 1008, 6230]) := la_of sgp_18 rfl sgd_18 rfl
theorem la_1239 : dm_at 329 1239 = some (.istore 6, 2, []) := la_of sgp_18 rfl sgd_18 rfl
theorem la_1241 : dm_at 329 1241 = some (.goto 1139, 3, [2380]) := la_of sgp_18 rfl sgd_18 rfl
theorem la_1244 : dm_at 329 1244 = some (.aload_n 1, 1, []) := la_of sgp_18 rfl sgd_18 rfl
theorem la_1245 : dm_at 329 1245 = some (.aload_n 3, 1, []) := la_of sgp_18 rfl sgd_18 rfl
theorem la_1246 : dm_at 329 1246 = some (.invokestatic 249, 3, [304, 0, 4063, 4064, 1000, 4065]) := la_of sgp_18 rfl sgd_18 rfl
theorem la_1249 : dm_at 329 1249 = some (.istore 5, 2, []) := la_of sgp_18 rfl sgd_18 rfl
theorem la_1251 : dm_at 329 1251 = some (.aload_n 2, 1, []) := la_of sgp_18 rfl sgd_18 rfl
theorem la_1252 : dm_at 329 1252 = some (.invokevirtual 251, 3, [167, 1, 6235, 6236, 6237, 1008, 6238]) := la_of sgp_18 rfl sgd_18 rfl
theorem la_1255 : dm_at 329 1255 = some (.astore 6, 2, []) := la_of sgp_18 rfl sgd_18 rfl
theorem la_1257 : dm_at 329 1257 = some (.goto 1123, 3, [2380]) := la_of sgp_18 rfl sgd_18 rfl
theorem la_1260 : dm_at 329 1260 = some (.aload_n 1, 1, []) := la_of sgp_18 rfl sgd_18 rfl
theorem la_1261 : dm_at 329 1261 = some (.aload_n 0, 1, []) := la_of sgp_18 rfl sgd_18 rfl
theorem la_1262 : dm_at 329 1262 = some (.iload 4, 2, []) := la_of sgp_18 rfl sgd_18 rfl
theorem la_1264 : dm_at 329 1264 = some (.iconst 1, 1, []) := la_of sgp_18 rfl sgd_18 rfl
theorem la_1265 : dm_at 329 1265 = some (.iadd, 1, []) := la_of sgp_18 rfl sgd_18 rfl
theorem la_1266 : dm_at 329 1266 = some (.iaload, 1, []) := la_of sgp_18 rfl sgd_18 rfl
theorem la_1267 : dm_at 329 1267 = some (.aload_n 3, 1, []) := la_of sgp_18 rfl sgd_18 rfl
theorem la_1268 : dm_at 329 1268 = some (.invokestatic 252, 3, [305, 0, 5098, 5099, 1000, 5100]) := la_of sgp_18 rfl sgd_18 rfl
theorem la_1271 : dm_at 329 1271 = some (.istore 5, 2, []) := la_of sgp_18 rfl sgd_18 rfl
theorem la_1273 : dm_at 329 1273 = some (.aload_n 2, 1, []) := la_of sgp_18 rfl sgd_18 rfl
theorem la_1274 : dm_at 329 1274 = some (.aload_n 0, 1, []) := la_of sgp_18 rfl sgd_18 rfl
theorem la_1275 : dm_at 329 1275 = some (.iload 4, 2, []) := la_of sgp_18 rfl sgd_18 rfl
theorem la_1277 : dm_at 329 1277 = some (.iconst 1, 1, []) := la_of sgp_18 rfl sgd_18 rfl
theorem la_1278 : dm_at 329 1278 = some (.iadd, 1, []) := la_of sgp_18 rfl sgd_18 rfl
theorem la_1279 : dm_at 329 1279 = some (.iaload, 1, []) := la_of sgp_18 rfl sgd_18 rfl
theorem la_1280 : dm_at 329 1280 = some (.invokevirtual 254, 3, [168, 1, 7010, 7011, 7012, 1008, 7013]) := la_of sgp_18 rfl sgd_18 rfl
theorem la_1283 : dm_at 329 1283 = some (.istore 6, 2, []) := la_of sgp_18 rfl sgd_18 rfl
theorem la_1285 : dm_at 329 1285 = some (.goto 1095, 3, [2380]) := la_of sgp_18 rfl sgd_18 rfl
theorem la_1288 : dm_at 329 1288 = some (.aload_n 1, 1, []) := la_of sgp_18 rfl sgd_18 rfl
theorem la_1289 : dm_at 329 1289 = some (.aload_n 3, 1, []) := la_of sgp_18 rfl sgd_18 rfl
theorem la_1290 : dm_at 329 1290 = some (.invokestatic 255, 3, [306, 0, 5106, 5107, 1000, 5108]) := la_of sgp_18 rfl sgd_18 rfl
theorem la_1293 : dm_at 329 1293 = some (.istore 5, 2, []) := la_of sgp_18 rfl sgd_18 rfl
set_option maxRecDepth 100000 in
def sg_19 : List (Nat × dm_I) := [(1295, (.aload_n 2, 1, [])), (1296, (.invokevirtual 257, 3, [169, 1, 7014, 7015, 7016, 1008, 7017])), (1299, (.istore 6, 2, [])), (1301, (.goto 1079, 3, [2380])), (1304, (.aload_n 1, 1, [])), (1305, (.aload_n 0, 1, [])), (1306, (.iload 4, 2, [])), (1308, (.iconst 1, 1, [])), (1309, (.iadd, 1, [])), (1310, (.iaload, 1, [])), (1311, (.aload_n 3, 1, [])), (1312, (.invokestatic 258, 3, [307, 0, 5118, 5119, 1000, 5120])), (1315, (.istore 5, 2, [])), (1317, (.aload_n 2, 1, [])), (1318, (.aload_n 0, 1, [])), (1319, (.iload 4, 2, [])), (1321, (.iconst 1, 1, [])), (1322, (.iadd, 1, [])), (1323, (.iaload, 1, [])), (1324, (.invokevirtual 260, 3, [170, 1, 7025, 7026, 7027, 1008, 7028])), (1327, (.istore 6, 2, [])), (1329, (.goto 1051, 3, [2380])), (1332, (.aload_n 1, 1, [])), (1333, (.aload_n 3, 1, [])), (1334, (.invokestatic 261, 3, [308, 0, 5125, 5126, 1000, 5127])), (1337, (.istore 5, 2, [])), (1339, (.aload_n 2, 1, [])), (1340, (.invokevirtual 263, 3, [171, 1, 7029, 7030, 7031, 1008, 7032])), (1343, (.istore 6, 2, [])), (1345, (.goto 1035, 3, [2380])), (1348, (.aload_n 1, 1, [])), (1349, (.aload_n 0, 1, [])), (1350, (.iload 4, 2, [])), (1352, (.iconst 1, 1, [])), (1353, (.iadd, 1, [])), (1354, (.iaload, 1, [])), (1355, (.aload_n 0, 1, [])), (1356, (.iload 4, 2, [])), (1358, (.iconst 2, 1, [])), (1359, (.iadd, 1, []))]
set_option maxRecDepth 100000 in
theorem sgd_19 : ((dm_c 329).drop 760).take 40 = sg_19 := by decide +kernel
set_option maxRecDepth 100000 in
theorem sgp_19 : ((dm_c 329).take 760).all (fun x => Nat.blt x.1 1295) = true := by decide +kernel
theorem la_1295 : dm_at 329 1295 = some (.aload_n 2, 1, []) := la_of sgp_19 rfl sgd_19 rfl
theorem la_1296 : dm_at 329 1296 = some (.invokevirtual 257, 3, [169, 1, 7014, 7015, 7016, 1008, 7017]) := la_of sgp_19 rfl sgd_19 rfl
theorem la_1299 : dm_at 329 1299 = some (.istore 6, 2, []) := la_of sgp_19 rfl sgd_19 rfl
theorem la_1301 : dm_at 329 1301 = some (.goto 1079, 3, [2380]) := la_of sgp_19 rfl sgd_19 rfl
theorem la_1304 : dm_at 329 1304 = some (.aload_n 1, 1, []) := la_of sgp_19 rfl sgd_19 rfl
theorem la_1305 : dm_at 329 1305 = some (.aload_n 0, 1, []) := la_of sgp_19 rfl sgd_19 rfl
theorem la_1306 : dm_at 329 1306 = some (.iload 4, 2, []) := la_of sgp_19 rfl sgd_19 rfl
theorem la_1308 : dm_at 329 1308 = some (.iconst 1, 1, []) := la_of sgp_19 rfl sgd_19 rfl
theorem la_1309 : dm_at 329 1309 = some (.iadd, 1, []) := la_of sgp_19 rfl sgd_19 rfl
theorem la_1310 : dm_at 329 1310 = some (.iaload, 1, []) := la_of sgp_19 rfl sgd_19 rfl
theorem la_1311 : dm_at 329 1311 = some (.aload_n 3, 1, []) := la_of sgp_19 rfl sgd_19 rfl
theorem la_1312 : dm_at 329 1312 = some (.invokestatic 258, 3, [307, 0, 5118, 5119, 1000, 5120]) := la_of sgp_19 rfl sgd_19 rfl
theorem la_1315 : dm_at 329 1315 = some (.istore 5, 2, []) := la_of sgp_19 rfl sgd_19 rfl
theorem la_1317 : dm_at 329 1317 = some (.aload_n 2, 1, []) := la_of sgp_19 rfl sgd_19 rfl
theorem la_1318 : dm_at 329 1318 = some (.aload_n 0, 1, []) := la_of sgp_19 rfl sgd_19 rfl
theorem la_1319 : dm_at 329 1319 = some (.iload 4, 2, []) := la_of sgp_19 rfl sgd_19 rfl
theorem la_1321 : dm_at 329 1321 = some (.iconst 1, 1, []) := la_of sgp_19 rfl sgd_19 rfl
theorem la_1322 : dm_at 329 1322 = some (.iadd, 1, []) := la_of sgp_19 rfl sgd_19 rfl
theorem la_1323 : dm_at 329 1323 = some (.iaload, 1, []) := la_of sgp_19 rfl sgd_19 rfl
theorem la_1324 : dm_at 329 1324 = some (.invokevirtual 260, 3, [170, 1, 7025, 7026, 7027, 1008, 7028]) := la_of sgp_19 rfl sgd_19 rfl
theorem la_1327 : dm_at 329 1327 = some (.istore 6, 2, []) := la_of sgp_19 rfl sgd_19 rfl
theorem la_1329 : dm_at 329 1329 = some (.goto 1051, 3, [2380]) := la_of sgp_19 rfl sgd_19 rfl
theorem la_1332 : dm_at 329 1332 = some (.aload_n 1, 1, []) := la_of sgp_19 rfl sgd_19 rfl
theorem la_1333 : dm_at 329 1333 = some (.aload_n 3, 1, []) := la_of sgp_19 rfl sgd_19 rfl
theorem la_1334 : dm_at 329 1334 = some (.invokestatic 261, 3, [308, 0, 5125, 5126, 1000, 5127]) := la_of sgp_19 rfl sgd_19 rfl
theorem la_1337 : dm_at 329 1337 = some (.istore 5, 2, []) := la_of sgp_19 rfl sgd_19 rfl
theorem la_1339 : dm_at 329 1339 = some (.aload_n 2, 1, []) := la_of sgp_19 rfl sgd_19 rfl
theorem la_1340 : dm_at 329 1340 = some (.invokevirtual 263, 3, [171, 1, 7029, 7030, 7031, 1008, 7032]) := la_of sgp_19 rfl sgd_19 rfl
theorem la_1343 : dm_at 329 1343 = some (.istore 6, 2, []) := la_of sgp_19 rfl sgd_19 rfl
theorem la_1345 : dm_at 329 1345 = some (.goto 1035, 3, [2380]) := la_of sgp_19 rfl sgd_19 rfl
theorem la_1348 : dm_at 329 1348 = some (.aload_n 1, 1, []) := la_of sgp_19 rfl sgd_19 rfl
theorem la_1349 : dm_at 329 1349 = some (.aload_n 0, 1, []) := la_of sgp_19 rfl sgd_19 rfl
theorem la_1350 : dm_at 329 1350 = some (.iload 4, 2, []) := la_of sgp_19 rfl sgd_19 rfl
theorem la_1352 : dm_at 329 1352 = some (.iconst 1, 1, []) := la_of sgp_19 rfl sgd_19 rfl
theorem la_1353 : dm_at 329 1353 = some (.iadd, 1, []) := la_of sgp_19 rfl sgd_19 rfl
theorem la_1354 : dm_at 329 1354 = some (.iaload, 1, []) := la_of sgp_19 rfl sgd_19 rfl
theorem la_1355 : dm_at 329 1355 = some (.aload_n 0, 1, []) := la_of sgp_19 rfl sgd_19 rfl
theorem la_1356 : dm_at 329 1356 = some (.iload 4, 2, []) := la_of sgp_19 rfl sgd_19 rfl
theorem la_1358 : dm_at 329 1358 = some (.iconst 2, 1, []) := la_of sgp_19 rfl sgd_19 rfl
theorem la_1359 : dm_at 329 1359 = some (.iadd, 1, []) := la_of sgp_19 rfl sgd_19 rfl
set_option maxRecDepth 100000 in
def sg_20 : List (Nat × dm_I) := [(1360, (.iaload, 1, [])), (1361, (.aload_n 3, 1, [])), (1362, (.invokestatic 264, 3, [309, 0, 5132, 5133, 1000, 5134])), (1365, (.istore 5, 2, [])), (1367, (.aload_n 2, 1, [])), (1368, (.aload_n 0, 1, [])), (1369, (.iload 4, 2, [])), (1371, (.iconst 1, 1, [])), (1372, (.iadd, 1, [])), (1373, (.iaload, 1, [])), (1374, (.aload_n 0, 1, [])), (1375, (.iload 4, 2, [])), (1377, (.iconst 2, 1, [])), (1378, (.iadd, 1, [])), (1379, (.iaload, 1, [])), (1380, (.invokevirtual 266, 3, [173, 1, 7033, 7034, 7035, 1008, 7036])), (1383, (.istore 6, 2, [])), (1385, (.goto 995, 3, [2380])), (1388, (.aload_n 1, 1, [])), (1389, (.aload_n 0, 1, [])), (1390, (.iload 4, 2, [])), (1392, (.iconst 1, 1, [])), (1393, (.iadd, 1, [])), (1394, (.iaload, 1, [])), (1395, (.aload_n 0, 1, [])), (1396, (.iload 4, 2, [])), (1398, (.iconst 2, 1, [])), (1399, (.iadd, 1, [])), (1400, (.iaload, 1, [])), (1401, (.aload_n 0, 1, [])), (1402, (.iload 4, 2, [])), (1404, (.iconst 3, 1, [])), (1405, (.iadd, 1, [])), (1406, (.iaload, 1, [])), (1407, (.aload_n 0, 1, [])), (1408, (.iload 4, 2, [])), (1410, (.iconst 4, 1, [])), (1411, (.iadd, 1, [])), (1412, (.iaload, 1, [])), (1413, (.aload_n 3, 1, []))]
set_option maxRecDepth 100000 in
theorem sgd_20 : ((dm_c 329).drop 800).take 40 = sg_20 := by decide +kernel
set_option maxRecDepth 100000 in
theorem sgp_20 : ((dm_c 329).take 800).all (fun x => Nat.blt x.1 1360) = true := by decide +kernel
theorem la_1360 : dm_at 329 1360 = some (.iaload, 1, []) := la_of sgp_20 rfl sgd_20 rfl
theorem la_1361 : dm_at 329 1361 = some (.aload_n 3, 1, []) := la_of sgp_20 rfl sgd_20 rfl
theorem la_1362 : dm_at 329 1362 = some (.invokestatic 264, 3, [309, 0, 5132, 5133, 1000, 5134]) := la_of sgp_20 rfl sgd_20 rfl
theorem la_1365 : dm_at 329 1365 = some (.istore 5, 2, []) := la_of sgp_20 rfl sgd_20 rfl
theorem la_1367 : dm_at 329 1367 = some (.aload_n 2, 1, []) := la_of sgp_20 rfl sgd_20 rfl
theorem la_1368 : dm_at 329 1368 = some (.aload_n 0, 1, []) := la_of sgp_20 rfl sgd_20 rfl
theorem la_1369 : dm_at 329 1369 = some (.iload 4, 2, []) := la_of sgp_20 rfl sgd_20 rfl
theorem la_1371 : dm_at 329 1371 = some (.iconst 1, 1, []) := la_of sgp_20 rfl sgd_20 rfl
theorem la_1372 : dm_at 329 1372 = some (.iadd, 1, []) := la_of sgp_20 rfl sgd_20 rfl
theorem la_1373 : dm_at 329 1373 = some (.iaload, 1, []) := la_of sgp_20 rfl sgd_20 rfl
theorem la_1374 : dm_at 329 1374 = some (.aload_n 0, 1, []) := la_of sgp_20 rfl sgd_20 rfl
theorem la_1375 : dm_at 329 1375 = some (.iload 4, 2, []) := la_of sgp_20 rfl sgd_20 rfl
theorem la_1377 : dm_at 329 1377 = some (.iconst 2, 1, []) := la_of sgp_20 rfl sgd_20 rfl
theorem la_1378 : dm_at 329 1378 = some (.iadd, 1, []) := la_of sgp_20 rfl sgd_20 rfl
theorem la_1379 : dm_at 329 1379 = some (.iaload, 1, []) := la_of sgp_20 rfl sgd_20 rfl
theorem la_1380 : dm_at 329 1380 = some (.invokevirtual 266, 3, [173, 1, 7033, 7034, 7035, 1008, 7036]) := la_of sgp_20 rfl sgd_20 rfl
theorem la_1383 : dm_at 329 1383 = some (.istore 6, 2, []) := la_of sgp_20 rfl sgd_20 rfl
theorem la_1385 : dm_at 329 1385 = some (.goto 995, 3, [2380]) := la_of sgp_20 rfl sgd_20 rfl
theorem la_1388 : dm_at 329 1388 = some (.aload_n 1, 1, []) := la_of sgp_20 rfl sgd_20 rfl
theorem la_1389 : dm_at 329 1389 = some (.aload_n 0, 1, []) := la_of sgp_20 rfl sgd_20 rfl
theorem la_1390 : dm_at 329 1390 = some (.iload 4, 2, []) := la_of sgp_20 rfl sgd_20 rfl
theorem la_1392 : dm_at 329 1392 = some (.iconst 1, 1, []) := la_of sgp_20 rfl sgd_20 rfl
theorem la_1393 : dm_at 329 1393 = some (.iadd, 1, []) := la_of sgp_20 rfl sgd_20 rfl
theorem la_1394 : dm_at 329 1394 = some (.iaload, 1, []) := la_of sgp_20 rfl sgd_20 rfl
theorem la_1395 : dm_at 329 1395 = some (.aload_n 0, 1, []) := la_of sgp_20 rfl sgd_20 rfl
theorem la_1396 : dm_at 329 1396 = some (.iload 4, 2, []) := la_of sgp_20 rfl sgd_20 rfl
theorem la_1398 : dm_at 329 1398 = some (.iconst 2, 1, []) := la_of sgp_20 rfl sgd_20 rfl
theorem la_1399 : dm_at 329 1399 = some (.iadd, 1, []) := la_of sgp_20 rfl sgd_20 rfl
theorem la_1400 : dm_at 329 1400 = some (.iaload, 1, []) := la_of sgp_20 rfl sgd_20 rfl
theorem la_1401 : dm_at 329 1401 = some (.aload_n 0, 1, []) := la_of sgp_20 rfl sgd_20 rfl
theorem la_1402 : dm_at 329 1402 = some (.iload 4, 2, []) := la_of sgp_20 rfl sgd_20 rfl
theorem la_1404 : dm_at 329 1404 = some (.iconst 3, 1, []) := la_of sgp_20 rfl sgd_20 rfl
theorem la_1405 : dm_at 329 1405 = some (.iadd, 1, []) := la_of sgp_20 rfl sgd_20 rfl
theorem la_1406 : dm_at 329 1406 = some (.iaload, 1, []) := la_of sgp_20 rfl sgd_20 rfl
theorem la_1407 : dm_at 329 1407 = some (.aload_n 0, 1, []) := la_of sgp_20 rfl sgd_20 rfl
theorem la_1408 : dm_at 329 1408 = some (.iload 4, 2, []) := la_of sgp_20 rfl sgd_20 rfl
theorem la_1410 : dm_at 329 1410 = some (.iconst 4, 1, []) := la_of sgp_20 rfl sgd_20 rfl
theorem la_1411 : dm_at 329 1411 = some (.iadd, 1, []) := la_of sgp_20 rfl sgd_20 rfl
theorem la_1412 : dm_at 329 1412 = some (.iaload, 1, []) := la_of sgp_20 rfl sgd_20 rfl
theorem la_1413 : dm_at 329 1413 = some (.aload_n 3, 1, []) := la_of sgp_20 rfl sgd_20 rfl
set_option maxRecDepth 100000 in
def sg_21 : List (Nat × dm_I) := [(1414, (.invokestatic 267, 3, [310, 0, 5136, 5137, 1000, 5138])), (1417, (.istore 5, 2, [])), (1419, (.aload_n 2, 1, [])), (1420, (.aload_n 0, 1, [])), (1421, (.iload 4, 2, [])), (1423, (.iconst 1, 1, [])), (1424, (.iadd, 1, [])), (1425, (.iaload, 1, [])), (1426, (.aload_n 0, 1, [])), (1427, (.iload 4, 2, [])), (1429, (.iconst 2, 1, [])), (1430, (.iadd, 1, [])), (1431, (.iaload, 1, [])), (1432, (.aload_n 0, 1, [])), (1433, (.iload 4, 2, [])), (1435, (.iconst 3, 1, [])), (1436, (.iadd, 1, [])), (1437, (.iaload, 1, [])), (1438, (.aload_n 0, 1, [])), (1439, (.iload 4, 2, [])), (1441, (.iconst 4, 1, [])), (1442, (.iadd, 1, [])), (1443, (.iaload, 1, [])), (1444, (.invokevirtual 269, 3, [174, 1, 7041, 7042, 7043, 1008, 7044])), (1447, (.istore 6, 2, [])), (1449, (.goto 931, 3, [2380])), (1452, (.aload_n 1, 1, [])), (1453, (.aload_n 0, 1, [])), (1454, (.iload 4, 2, [])), (1456, (.iconst 1, 1, [])), (1457, (.iadd, 1, [])), (1458, (.iaload, 1, [])), (1459, (.aload_n 0, 1, [])), (1460, (.iload 4, 2, [])), (1462, (.iconst 2, 1, [])), (1463, (.iadd, 1, [])), (1464, (.iaload, 1, [])), (1465, (.aload_n 0, 1, [])), (1466, (.iload 4, 2, [])), (1468, (.iconst 3, 1, []))]
set_option maxRecDepth 100000 in
theorem sgd_21 : ((dm_c 329).drop 840).take 40 = sg_21 := by decide +kernel
set_option maxRecDepth 100000 in
theorem sgp_21 : ((dm_c 329).take 840).all (fun x => Nat.blt x.1 1414) = true := by decide +kernel
theorem la_1414 : dm_at 329 1414 = some (.invokestatic 267, 3, [310, 0, 5136, 5137, 1000, 5138]) := la_of sgp_21 rfl sgd_21 rfl
theorem la_1417 : dm_at 329 1417 = some (.istore 5, 2, []) := la_of sgp_21 rfl sgd_21 rfl
theorem la_1419 : dm_at 329 1419 = some (.aload_n 2, 1, []) := la_of sgp_21 rfl sgd_21 rfl
theorem la_1420 : dm_at 329 1420 = some (.aload_n 0, 1, []) := la_of sgp_21 rfl sgd_21 rfl
theorem la_1421 : dm_at 329 1421 = some (.iload 4, 2, []) := la_of sgp_21 rfl sgd_21 rfl
theorem la_1423 : dm_at 329 1423 = some (.iconst 1, 1, []) := la_of sgp_21 rfl sgd_21 rfl
theorem la_1424 : dm_at 329 1424 = some (.iadd, 1, []) := la_of sgp_21 rfl sgd_21 rfl
theorem la_1425 : dm_at 329 1425 = some (.iaload, 1, []) := la_of sgp_21 rfl sgd_21 rfl
theorem la_1426 : dm_at 329 1426 = some (.aload_n 0, 1, []) := la_of sgp_21 rfl sgd_21 rfl
theorem la_1427 : dm_at 329 1427 = some (.iload 4, 2, []) := la_of sgp_21 rfl sgd_21 rfl
theorem la_1429 : dm_at 329 1429 = some (.iconst 2, 1, []) := la_of sgp_21 rfl sgd_21 rfl
theorem la_1430 : dm_at 329 1430 = some (.iadd, 1, []) := la_of sgp_21 rfl sgd_21 rfl
theorem la_1431 : dm_at 329 1431 = some (.iaload, 1, []) := la_of sgp_21 rfl sgd_21 rfl
theorem la_1432 : dm_at 329 1432 = some (.aload_n 0, 1, []) := la_of sgp_21 rfl sgd_21 rfl
theorem la_1433 : dm_at 329 1433 = some (.iload 4, 2, []) := la_of sgp_21 rfl sgd_21 rfl
theorem la_1435 : dm_at 329 1435 = some (.iconst 3, 1, []) := la_of sgp_21 rfl sgd_21 rfl
theorem la_1436 : dm_at 329 1436 = some (.iadd, 1, []) := la_of sgp_21 rfl sgd_21 rfl
theorem la_1437 : dm_at 329 1437 = some (.iaload, 1, []) := la_of sgp_21 rfl sgd_21 rfl
theorem la_1438 : dm_at 329 1438 = some (.aload_n 0, 1, []) := la_of sgp_21 rfl sgd_21 rfl
theorem la_1439 : dm_at 329 1439 = some (.iload 4, 2, []) := la_of sgp_21 rfl sgd_21 rfl
theorem la_1441 : dm_at 329 1441 = some (.iconst 4, 1, []) := la_of sgp_21 rfl sgd_21 rfl
theorem la_1442 : dm_at 329 1442 = some (.iadd, 1, []) := la_of sgp_21 rfl sgd_21 rfl
theorem la_1443 : dm_at 329 1443 = some (.iaload, 1, []) := la_of sgp_21 rfl sgd_21 rfl
theorem la_1444 : dm_at 329 1444 = some (.invokevirtual 269, 3, [174, 1, 7041, 7042, 7043, 1008, 7044]) := la_of sgp_21 rfl sgd_21 rfl
theorem la_1447 : dm_at 329 1447 = some (.istore 6, 2, []) := la_of sgp_21 rfl sgd_21 rfl
theorem la_1449 : dm_at 329 1449 = some (.goto 931, 3, [2380]) := la_of sgp_21 rfl sgd_21 rfl
theorem la_1452 : dm_at 329 1452 = some (.aload_n 1, 1, []) := la_of sgp_21 rfl sgd_21 rfl
theorem la_1453 : dm_at 329 1453 = some (.aload_n 0, 1, []) := la_of sgp_21 rfl sgd_21 rfl
theorem la_1454 : dm_at 329 1454 = some (.iload 4, 2, []) := la_of sgp_21 rfl sgd_21 rfl
theorem la_1456 : dm_at 329 1456 = some (.iconst 1, 1, []) := la_of sgp_21 rfl sgd_21 rfl
theorem la_1457 : dm_at 329 1457 = some (.iadd, 1, []) := la_of sgp_21 rfl sgd_21 rfl
theorem la_1458 : dm_at 329 1458 = some (.iaload, 1, []) := la_of sgp_21 rfl sgd_21 rfl
theorem la_1459 : dm_at 329 1459 = some (.aload_n 0, 1, []) := la_of sgp_21 rfl sgd_21 rfl
theorem la_1460 : dm_at 329 1460 = some (.iload 4, 2, []) := la_of sgp_21 rfl sgd_21 rfl
theorem la_1462 : dm_at 329 1462 = some (.iconst 2, 1, []) := la_of sgp_21 rfl sgd_21 rfl
theorem la_1463 : dm_at 329 1463 = some (.iadd, 1, []) := la_of sgp_21 rfl sgd_21 rfl
theorem la_1464 : dm_at 329 1464 = some (.iaload, 1, []) := la_of sgp_21 rfl sgd_21 rfl
theorem la_1465 : dm_at 329 1465 = some (.aload_n 0, 1, []) := la_of sgp_21 rfl sgd_21 rfl
theorem la_1466 : dm_at 329 1466 = some (.iload 4, 2, []) := la_of sgp_21 rfl sgd_21 rfl
theorem la_1468 : dm_at 329 1468 = some (.iconst 3, 1, []) := la_of sgp_21 rfl sgd_21 rfl
set_option maxRecDepth 100000 in
def sg_22 : List (Nat × dm_I) := [(1469, (.iadd, 1, [])), (1470, (.iaload, 1, [])), (1471, (.aload_n 3, 1, [])), (1472, (.invokestatic 270, 3, [311, 0, 5143, 5144, 1000, 5145])), (1475, (.istore 5, 2, [])), (1477, (.aload_n 2, 1, [])), (1478, (.aload_n 0, 1, [])), (1479, (.iload 4, 2, [])), (1481, (.iconst 1, 1, [])), (1482, (.iadd, 1, [])), (1483, (.iaload, 1, [])), (1484, (.aload_n 0, 1, [])), (1485, (.iload 4, 2, [])), (1487, (.iconst 2, 1, [])), (1488, (.iadd, 1, [])), (1489, (.iaload, 1, [])), (1490, (.aload_n 0, 1, [])), (1491, (.iload 4, 2, [])), (1493, (.iconst 3, 1, [])), (1494, (.iadd, 1, [])), (1495, (.iaload, 1, [])), (1496, (.invokevirtual 272, 3, [175, 1, 7045, 7046, 7047, 1008, 7048])), (1499, (.istore 6, 2, [])), (1501, (.goto 879, 3, [2380])), (1504, (.aload_n 1, 1, [])), (1505, (.aload_n 0, 1, [])), (1506, (.iload 4, 2, [])), (1508, (.iconst 1, 1, [])), (1509, (.iadd, 1, [])), (1510, (.iaload, 1, [])), (1511, (.aload_n 0, 1, [])), (1512, (.iload 4, 2, [])), (1514, (.iconst 2, 1, [])), (1515, (.iadd, 1, [])), (1516, (.iaload, 1, [])), (1517, (.aload_n 3, 1, [])), (1518, (.invokestatic 273, 3, [312, 0, 5150, 5151, 1000, 5152])), (1521, (.istore 5, 2, [])), (1523, (.aload_n 2, 1, [])), (1524, (.aload_n 0, 1, []))]
set_option maxRecDepth 100000 in
theorem sgd_22 : ((dm_c 329).drop 880).take 40 = sg_22 := by decide +kernel
set_option maxRecDepth 100000 in
theorem sgp_22 : ((dm_c 329).take 880).all (fun x => Nat.blt x.1 1469) = true := by decide +kernel
theorem la_1469 : dm_at 329 1469 = some (.iadd, 1, []) := la_of sgp_22 rfl sgd_22 rfl
theorem la_1470 : dm_at 329 1470 = some (.iaload, 1, []) := la_of sgp_22 rfl sgd_22 rfl
theorem la_1471 : dm_at 329 1471 = some (.aload_n 3, 1, []) := la_of sgp_22 rfl sgd_22 rfl
theorem la_1472 : dm_at 329 1472 = some (.invokestatic 270, 3, [311, 0, 5143, 5144, 1000, 5145]) := la_of sgp_22 rfl sgd_22 rfl
theorem la_1475 : dm_at 329 1475 = some (.istore 5, 2, []) := la_of sgp_22 rfl sgd_22 rfl
theorem la_1477 : dm_at 329 1477 = some (.aload_n 2, 1, []) := la_of sgp_22 rfl sgd_22 rfl
theorem la_1478 : dm_at 329 1478 = some (.aload_n 0, 1, []) := la_of sgp_22 rfl sgd_22 rfl
theorem la_1479 : dm_at 329 1479 = some (.iload 4, 2, []) := la_of sgp_22 rfl sgd_22 rfl
theorem la_1481 : dm_at 329 1481 = some (.iconst 1, 1, []) := la_of sgp_22 rfl sgd_22 rfl
theorem la_1482 : dm_at 329 1482 = some (.iadd, 1, []) := la_of sgp_22 rfl sgd_22 rfl
theorem la_1483 : dm_at 329 1483 = some (.iaload, 1, []) := la_of sgp_22 rfl sgd_22 rfl
theorem la_1484 : dm_at 329 1484 = some (.aload_n 0, 1, []) := la_of sgp_22 rfl sgd_22 rfl
theorem la_1485 : dm_at 329 1485 = some (.iload 4, 2, []) := la_of sgp_22 rfl sgd_22 rfl
theorem la_1487 : dm_at 329 1487 = some (.iconst 2, 1, []) := la_of sgp_22 rfl sgd_22 rfl
theorem la_1488 : dm_at 329 1488 = some (.iadd, 1, []) := la_of sgp_22 rfl sgd_22 rfl
theorem la_1489 : dm_at 329 1489 = some (.iaload, 1, []) := la_of sgp_22 rfl sgd_22 rfl
theorem la_1490 : dm_at 329 1490 = some (.aload_n 0, 1, []) := la_of sgp_22 rfl sgd_22 rfl
theorem la_1491 : dm_at 329 1491 = some (.iload 4, 2, []) := la_of sgp_22 rfl sgd_22 rfl
theorem la_1493 : dm_at 329 1493 = some (.iconst 3, 1, []) := la_of sgp_22 rfl sgd_22 rfl
theorem la_1494 : dm_at 329 1494 = some (.iadd, 1, []) := la_of sgp_22 rfl sgd_22 rfl
theorem la_1495 : dm_at 329 1495 = some (.iaload, 1, []) := la_of sgp_22 rfl sgd_22 rfl
theorem la_1496 : dm_at 329 1496 = some (.invokevirtual 272, 3, [175, 1, 7045, 7046, 7047, 1008, 7048]) := la_of sgp_22 rfl sgd_22 rfl
theorem la_1499 : dm_at 329 1499 = some (.istore 6, 2, []) := la_of sgp_22 rfl sgd_22 rfl
theorem la_1501 : dm_at 329 1501 = some (.goto 879, 3, [2380]) := la_of sgp_22 rfl sgd_22 rfl
theorem la_1504 : dm_at 329 1504 = some (.aload_n 1, 1, []) := la_of sgp_22 rfl sgd_22 rfl
theorem la_1505 : dm_at 329 1505 = some (.aload_n 0, 1, []) := la_of sgp_22 rfl sgd_22 rfl
theorem la_1506 : dm_at 329 1506 = some (.iload 4, 2, []) := la_of sgp_22 rfl sgd_22 rfl
theorem la_1508 : dm_at 329 1508 = some (.iconst 1, 1, []) := la_of sgp_22 rfl sgd_22 rfl
theorem la_1509 : dm_at 329 1509 = some (.iadd, 1, []) := la_of sgp_22 rfl sgd_22 rfl
theorem la_1510 : dm_at 329 1510 = some (.iaload, 1, []) := la_of sgp_22 rfl sgd_22 rfl
theorem la_1511 : dm_at 329 1511 = some (.aload_n 0, 1, []) := la_of sgp_22 rfl sgd_22 rfl
theorem la_1512 : dm_at 329 1512 = some (.iload 4, 2, []) := la_of sgp_22 rfl sgd_22 rfl
theorem la_1514 : dm_at 329 1514 = some (.iconst 2, 1, []) := la_of sgp_22 rfl sgd_22 rfl
theorem la_1515 : dm_at 329 1515 = some (.iadd, 1, []) := la_of sgp_22 rfl sgd_22 rfl
theorem la_1516 : dm_at 329 1516 = some (.iaload, 1, []) := la_of sgp_22 rfl sgd_22 rfl
theorem la_1517 : dm_at 329 1517 = some (.aload_n 3, 1, []) := la_of sgp_22 rfl sgd_22 rfl
theorem la_1518 : dm_at 329 1518 = some (.invokestatic 273, 3, [312, 0, 5150, 5151, 1000, 5152]) := la_of sgp_22 rfl sgd_22 rfl
theorem la_1521 : dm_at 329 1521 = some (.istore 5, 2, []) := la_of sgp_22 rfl sgd_22 rfl
theorem la_1523 : dm_at 329 1523 = some (.aload_n 2, 1, []) := la_of sgp_22 rfl sgd_22 rfl
theorem la_1524 : dm_at 329 1524 = some (.aload_n 0, 1, []) := la_of sgp_22 rfl sgd_22 rfl
set_option maxRecDepth 100000 in
def sg_23 : List (Nat × dm_I) := [(1525, (.iload 4, 2, [])), (1527, (.iconst 1, 1, [])), (1528, (.iadd, 1, [])), (1529, (.iaload, 1, [])), (1530, (.aload_n 0, 1, [])), (1531, (.iload 4, 2, [])), (1533, (.iconst 2, 1, [])), (1534, (.iadd, 1, [])), (1535, (.iaload, 1, [])), (1536, (.invokevirtual 275, 3, [176, 1, 7049, 7050, 7051, 1008, 7052])), (1539, (.istore 6, 2, [])), (1541, (.goto 839, 3, [2380])), (1544, (.aload_n 1, 1, [])), (1545, (.aload_n 0, 1, [])), (1546, (.iload 4, 2, [])), (1548, (.iconst 1, 1, [])), (1549, (.iadd, 1, [])), (1550, (.iaload, 1, [])), (1551, (.aload_n 0, 1, [])), (1552, (.iload 4, 2, [])), (1554, (.iconst 2, 1, [])), (1555, (.iadd, 1, [])), (1556, (.iaload, 1, [])), (1557, (.aload_n 0, 1, [])), (1558, (.iload 4, 2, [])), (1560, (.iconst 3, 1, [])), (1561, (.iadd, 1, [])), (1562, (.iaload, 1, [])), (1563, (.aload_n 0, 1, [])), (1564, (.iload 4, 2, [])), (1566, (.iconst 4, 1, [])), (1567, (.iadd, 1, [])), (1568, (.iaload, 1, [])), (1569, (.aload_n 3, 1, [])), (1570, (.invokestatic 276, 3, [313, 0, 5157, 5158, 1000, 5159])), (1573, (.istore 5, 2, [])), (1575, (.aload_n 2, 1, [])), (1576, (.aload_n 0, 1, [])), (1577, (.iload 4, 2, [])), (1579, (.iconst 1, 1, []))]
set_option maxRecDepth 100000 in
theorem sgd_23 : ((dm_c 329).drop 920).take 40 = sg_23 := by decide +kernel
set_option maxRecDepth 100000 in
theorem sgp_23 : ((dm_c 329).take 920).all (fun x => Nat.blt x.1 1525) = true := by decide +kernel
theorem la_1525 : dm_at 329 1525 = some (.iload 4, 2, []) := la_of sgp_23 rfl sgd_23 rfl
theorem la_1527 : dm_at 329 1527 = some (.iconst 1, 1, []) := la_of sgp_23 rfl sgd_23 rfl
theorem la_1528 : dm_at 329 1528 = some (.iadd, 1, []) := la_of sgp_23 rfl sgd_23 rfl
theorem la_1529 : dm_at 329 1529 = some (.iaload, 1, []) := la_of sgp_23 rfl sgd_23 rfl
theorem la_1530 : dm_at 329 1530 = some (.aload_n 0, 1, []) := la_of sgp_23 rfl sgd_23 rfl
theorem la_1531 : dm_at 329 1531 = some (.iload 4, 2, []) := la_of sgp_23 rfl sgd_23 rfl
theorem la_1533 : dm_at 329 1533 = some (.iconst 2, 1, []) := la_of sgp_23 rfl sgd_23 rfl
theorem la_1534 : dm_at 329 1534 = some (.iadd, 1, []) := la_of sgp_23 rfl sgd_23 rfl
theorem la_1535 : dm_at 329 1535 = some (.iaload, 1, []) := la_of sgp_23 rfl sgd_23 rfl
theorem la_1536 : dm_at 329 1536 = some (.invokevirtual 275, 3, [176, 1, 7049, 7050, 7051, 1008, 7052]) := la_of sgp_23 rfl sgd_23 rfl
theorem la_1539 : dm_at 329 1539 = some (.istore 6, 2, []) := la_of sgp_23 rfl sgd_23 rfl
theorem la_1541 : dm_at 329 1541 = some (.goto 839, 3, [2380]) := la_of sgp_23 rfl sgd_23 rfl
theorem la_1544 : dm_at 329 1544 = some (.aload_n 1, 1, []) := la_of sgp_23 rfl sgd_23 rfl
theorem la_1545 : dm_at 329 1545 = some (.aload_n 0, 1, []) := la_of sgp_23 rfl sgd_23 rfl
theorem la_1546 : dm_at 329 1546 = some (.iload 4, 2, []) := la_of sgp_23 rfl sgd_23 rfl
theorem la_1548 : dm_at 329 1548 = some (.iconst 1, 1, []) := la_of sgp_23 rfl sgd_23 rfl
theorem la_1549 : dm_at 329 1549 = some (.iadd, 1, []) := la_of sgp_23 rfl sgd_23 rfl
theorem la_1550 : dm_at 329 1550 = some (.iaload, 1, []) := la_of sgp_23 rfl sgd_23 rfl
theorem la_1551 : dm_at 329 1551 = some (.aload_n 0, 1, []) := la_of sgp_23 rfl sgd_23 rfl
theorem la_1552 : dm_at 329 1552 = some (.iload 4, 2, []) := la_of sgp_23 rfl sgd_23 rfl
theorem la_1554 : dm_at 329 1554 = some (.iconst 2, 1, []) := la_of sgp_23 rfl sgd_23 rfl
theorem la_1555 : dm_at 329 1555 = some (.iadd, 1, []) := la_of sgp_23 rfl sgd_23 rfl
theorem la_1556 : dm_at 329 1556 = some (.iaload, 1, []) := la_of sgp_23 rfl sgd_23 rfl
theorem la_1557 : dm_at 329 1557 = some (.aload_n 0, 1, []) := la_of sgp_23 rfl sgd_23 rfl
theorem la_1558 : dm_at 329 1558 = some (.iload 4, 2, []) := la_of sgp_23 rfl sgd_23 rfl
theorem la_1560 : dm_at 329 1560 = some (.iconst 3, 1, []) := la_of sgp_23 rfl sgd_23 rfl
theorem la_1561 : dm_at 329 1561 = some (.iadd, 1, []) := la_of sgp_23 rfl sgd_23 rfl
theorem la_1562 : dm_at 329 1562 = some (.iaload, 1, []) := la_of sgp_23 rfl sgd_23 rfl
theorem la_1563 : dm_at 329 1563 = some (.aload_n 0, 1, []) := la_of sgp_23 rfl sgd_23 rfl
theorem la_1564 : dm_at 329 1564 = some (.iload 4, 2, []) := la_of sgp_23 rfl sgd_23 rfl
theorem la_1566 : dm_at 329 1566 = some (.iconst 4, 1, []) := la_of sgp_23 rfl sgd_23 rfl
theorem la_1567 : dm_at 329 1567 = some (.iadd, 1, []) := la_of sgp_23 rfl sgd_23 rfl
theorem la_1568 : dm_at 329 1568 = some (.iaload, 1, []) := la_of sgp_23 rfl sgd_23 rfl
theorem la_1569 : dm_at 329 1569 = some (.aload_n 3, 1, []) := la_of sgp_23 rfl sgd_23 rfl
theorem la_1570 : dm_at 329 1570 = some (.invokestatic 276, 3, [313, 0, 5157, 5158, 1000, 5159]) := la_of sgp_23 rfl sgd_23 rfl
theorem la_1573 : dm_at 329 1573 = some (.istore 5, 2, []) := la_of sgp_23 rfl sgd_23 rfl
theorem la_1575 : dm_at 329 1575 = some (.aload_n 2, 1, []) := la_of sgp_23 rfl sgd_23 rfl
theorem la_1576 : dm_at 329 1576 = some (.aload_n 0, 1, []) := la_of sgp_23 rfl sgd_23 rfl
theorem la_1577 : dm_at 329 1577 = some (.iload 4, 2, []) := la_of sgp_23 rfl sgd_23 rfl
theorem la_1579 : dm_at 329 1579 = some (.iconst 1, 1, []) := la_of sgp_23 rfl sgd_23 rfl
set_option maxRecDepth 100000 in
def sg_24 : List (Nat × dm_I) := [(1580, (.iadd, 1, [])), (1581, (.iaload, 1, [])), (1582, (.aload_n 0, 1, [])), (1583, (.iload 4, 2, [])), (1585, (.iconst 2, 1, [])), (1586, (.iadd, 1, [])), (1587, (.iaload, 1, [])), (1588, (.aload_n 0, 1, [])), (1589, (.iload 4, 2, [])), (1591, (.iconst 3, 1, [])), (1592, (.iadd, 1, [])), (1593, (.iaload, 1, [])), (1594, (.aload_n 0, 1, [])), (1595, (.iload 4, 2, [])), (1597, (.iconst 4, 1, [])), (1598, (.iadd, 1, [])), (1599, (.iaload, 1, [])), (1600, (.invokevirtual 278, 3, [179, 1, 7053, 7054, 7055, 1008, 7056])), (1603, (.istore 6, 2, [])), (1605, (.goto 775, 3, [2380])), (1608, (.aload_n 1, 1, [])), (1609, (.aload_n 0, 1, [])), (1610, (.iload 4, 2, [])), (1612, (.iconst 1, 1, [])), (1613, (.iadd, 1, [])), (1614, (.iaload, 1, [])), (1615, (.aload_n 0, 1, [])), (1616, (.iload 4, 2, [])), (1618, (.iconst 2, 1, [])), (1619, (.iadd, 1, [])), (1620, (.iaload, 1, [])), (1621, (.aload_n 0, 1, [])), (1622, (.iload 4, 2, [])), (1624, (.iconst 3, 1, [])), (1625, (.iadd, 1, [])), (1626, (.iaload, 1, [])), (1627, (.aload_n 0, 1, [])), (1628, (.iload 4, 2, [])), (1630, (.iconst 4, 1, [])), (1631, (.iadd, 1, []))]
set_option maxRecDepth 100000 in
theorem sgd_24 : ((dm_c 329).drop 960).take 40 = sg_24 := by decide +kernel
set_option maxRecDepth 100000 in
theorem sgp_24 : ((dm_c 329).take 960).all (fun x => Nat.blt x.1 1580) = true := by decide +kernel
theorem la_1580 : dm_at 329 1580 = some (.iadd, 1, []) := la_of sgp_24 rfl sgd_24 rfl
theorem la_1581 : dm_at 329 1581 = some (.iaload, 1, []) := la_of sgp_24 rfl sgd_24 rfl
theorem la_1582 : dm_at 329 1582 = some (.aload_n 0, 1, []) := la_of sgp_24 rfl sgd_24 rfl
theorem la_1583 : dm_at 329 1583 = some (.iload 4, 2, []) := la_of sgp_24 rfl sgd_24 rfl
theorem la_1585 : dm_at 329 1585 = some (.iconst 2, 1, []) := la_of sgp_24 rfl sgd_24 rfl
theorem la_1586 : dm_at 329 1586 = some (.iadd, 1, []) := la_of sgp_24 rfl sgd_24 rfl
theorem la_1587 : dm_at 329 1587 = some (.iaload, 1, []) := la_of sgp_24 rfl sgd_24 rfl
theorem la_1588 : dm_at 329 1588 = some (.aload_n 0, 1, []) := la_of sgp_24 rfl sgd_24 rfl
theorem la_1589 : dm_at 329 1589 = some (.iload 4, 2, []) := la_of sgp_24 rfl sgd_24 rfl
theorem la_1591 : dm_at 329 1591 = some (.iconst 3, 1, []) := la_of sgp_24 rfl sgd_24 rfl
theorem la_1592 : dm_at 329 1592 = some (.iadd, 1, []) := la_of sgp_24 rfl sgd_24 rfl
theorem la_1593 : dm_at 329 1593 = some (.iaload, 1, []) := la_of sgp_24 rfl sgd_24 rfl
theorem la_1594 : dm_at 329 1594 = some (.aload_n 0, 1, []) := la_of sgp_24 rfl sgd_24 rfl
theorem la_1595 : dm_at 329 1595 = some (.iload 4, 2, []) := la_of sgp_24 rfl sgd_24 rfl
theorem la_1597 : dm_at 329 1597 = some (.iconst 4, 1, []) := la_of sgp_24 rfl sgd_24 rfl
theorem la_1598 : dm_at 329 1598 = some (.iadd, 1, []) := la_of sgp_24 rfl sgd_24 rfl
theorem la_1599 : dm_at 329 1599 = some (.iaload, 1, []) := la_of sgp_24 rfl sgd_24 rfl
theorem la_1600 : dm_at 329 1600 = some (.invokevirtual 278, 3, [179, 1, 7053, 7054, 7055, 1008, 7056]) := la_of sgp_24 rfl sgd_24 rfl
theorem la_1603 : dm_at 329 1603 = some (.istore 6, 2, []) := la_of sgp_24 rfl sgd_24 rfl
theorem la_1605 : dm_at 329 1605 = some (.goto 775, 3, [2380]) := la_of sgp_24 rfl sgd_24 rfl
theorem la_1608 : dm_at 329 1608 = some (.aload_n 1, 1, []) := la_of sgp_24 rfl sgd_24 rfl
theorem la_1609 : dm_at 329 1609 = some (.aload_n 0, 1, []) := la_of sgp_24 rfl sgd_24 rfl
theorem la_1610 : dm_at 329 1610 = some (.iload 4, 2, []) := la_of sgp_24 rfl sgd_24 rfl
theorem la_1612 : dm_at 329 1612 = some (.iconst 1, 1, []) := la_of sgp_24 rfl sgd_24 rfl
theorem la_1613 : dm_at 329 1613 = some (.iadd, 1, []) := la_of sgp_24 rfl sgd_24 rfl
theorem la_1614 : dm_at 329 1614 = some (.iaload, 1, []) := la_of sgp_24 rfl sgd_24 rfl
theorem la_1615 : dm_at 329 1615 = some (.aload_n 0, 1, []) := la_of sgp_24 rfl sgd_24 rfl
theorem la_1616 : dm_at 329 1616 = some (.iload 4, 2, []) := la_of sgp_24 rfl sgd_24 rfl
theorem la_1618 : dm_at 329 1618 = some (.iconst 2, 1, []) := la_of sgp_24 rfl sgd_24 rfl
theorem la_1619 : dm_at 329 1619 = some (.iadd, 1, []) := la_of sgp_24 rfl sgd_24 rfl
theorem la_1620 : dm_at 329 1620 = some (.iaload, 1, []) := la_of sgp_24 rfl sgd_24 rfl
theorem la_1621 : dm_at 329 1621 = some (.aload_n 0, 1, []) := la_of sgp_24 rfl sgd_24 rfl
theorem la_1622 : dm_at 329 1622 = some (.iload 4, 2, []) := la_of sgp_24 rfl sgd_24 rfl
theorem la_1624 : dm_at 329 1624 = some (.iconst 3, 1, []) := la_of sgp_24 rfl sgd_24 rfl
theorem la_1625 : dm_at 329 1625 = some (.iadd, 1, []) := la_of sgp_24 rfl sgd_24 rfl
theorem la_1626 : dm_at 329 1626 = some (.iaload, 1, []) := la_of sgp_24 rfl sgd_24 rfl
theorem la_1627 : dm_at 329 1627 = some (.aload_n 0, 1, []) := la_of sgp_24 rfl sgd_24 rfl
theorem la_1628 : dm_at 329 1628 = some (.iload 4, 2, []) := la_of sgp_24 rfl sgd_24 rfl
theorem la_1630 : dm_at 329 1630 = some (.iconst 4, 1, []) := la_of sgp_24 rfl sgd_24 rfl
theorem la_1631 : dm_at 329 1631 = some (.iadd, 1, []) := la_of sgp_24 rfl sgd_24 rfl
set_option maxRecDepth 100000 in
def sg_25 : List (Nat × dm_I) := [(1632, (.iaload, 1, [])), (1633, (.aload_n 3, 1, [])), (1634, (.invokestatic 279, 3, [314, 0, 5161, 5162, 1000, 5163])), (1637, (.istore 5, 2, [])), (1639, (.aload_n 2, 1, [])), (1640, (.aload_n 0, 1, [])), (1641, (.iload 4, 2, [])), (1643, (.iconst 1, 1, [])), (1644, (.iadd, 1, [])), (1645, (.iaload, 1, [])), (1646, (.aload_n 0, 1, [])), (1647, (.iload 4, 2, [])), (1649, (.iconst 2, 1, [])), (1650, (.iadd, 1, [])), (1651, (.iaload, 1, [])), (1652, (.aload_n 0, 1, [])), (1653, (.iload 4, 2, [])), (1655, (.iconst 3, 1, [])), (1656, (.iadd, 1, [])), (1657, (.iaload, 1, [])), (1658, (.aload_n 0, 1, [])), (1659, (.iload 4, 2, [])), (1661, (.iconst 4, 1, [])), (1662, (.iadd, 1, [])), (1663, (.iaload, 1, [])), (1664, (.invokevirtual 281, 3, [180, 1, 7057, 7058, 7059, 1008, 7060])), (1667, (.istore 6, 2, [])), (1669, (.goto 711, 3, [2380])), (1672, (.aload_n 1, 1, [])), (1673, (.aload_n 0, 1, [])), (1674, (.iload 4, 2, [])), (1676, (.iconst 1, 1, [])), (1677, (.iadd, 1, [])), (1678, (.iaload, 1, [])), (1679, (.aload_n 0, 1, [])), (1680, (.iload 4, 2, [])), (1682, (.iconst 2, 1, [])), (1683, (.iadd, 1, [])), (1684, (.iaload, 1, [])), (1685, (.aload_n 0, 1, []))]
set_option maxRecDepth 100000 in
theorem sgd_25 : ((dm_c 329).drop 1000).take 40 = sg_25 := by decide +kernel
set_option maxRecDepth 100000 in
theorem sgp_25 : ((dm_c 329).take 1000).all (fun x => Nat.blt x.1 1632) = true := by decide +kernel
theorem la_1632 : dm_at 329 1632 = some (.iaload, 1, []) := la_of sgp_25 rfl sgd_25 rfl
theorem la_1633 : dm_at 329 1633 = some (.aload_n 3, 1, []) := la_of sgp_25 rfl sgd_25 rfl
theorem la_1634 : dm_at 329 1634 = some (.invokestatic 279, 3, [314, 0, 5161, 5162, 1000, 5163]) := la_of sgp_25 rfl sgd_25 rfl
theorem la_1637 : dm_at 329 1637 = some (.istore 5, 2, []) := la_of sgp_25 rfl sgd_25 rfl
theorem la_1639 : dm_at 329 1639 = some (.aload_n 2, 1, []) := la_of sgp_25 rfl sgd_25 rfl
theorem la_1640 : dm_at 329 1640 = some (.aload_n 0, 1, []) := la_of sgp_25 rfl sgd_25 rfl
theorem la_1641 : dm_at 329 1641 = some (.iload 4, 2, []) := la_of sgp_25 rfl sgd_25 rfl
theorem la_1643 : dm_at 329 1643 = some (.iconst 1, 1, []) := la_of sgp_25 rfl sgd_25 rfl
theorem la_1644 : dm_at 329 1644 = some (.iadd, 1, []) := la_of sgp_25 rfl sgd_25 rfl
theorem la_1645 : dm_at 329 1645 = some (.iaload, 1, []) := la_of sgp_25 rfl sgd_25 rfl
theorem la_1646 : dm_at 329 1646 = some (.aload_n 0, 1, []) := la_of sgp_25 rfl sgd_25 rfl
theorem la_1647 : dm_at 329 1647 = some (.iload 4, 2, []) := la_of sgp_25 rfl sgd_25 rfl
theorem la_1649 : dm_at 329 1649 = some (.iconst 2, 1, []) := la_of sgp_25 rfl sgd_25 rfl
theorem la_1650 : dm_at 329 1650 = some (.iadd, 1, []) := la_of sgp_25 rfl sgd_25 rfl
theorem la_1651 : dm_at 329 1651 = some (.iaload, 1, []) := la_of sgp_25 rfl sgd_25 rfl
theorem la_1652 : dm_at 329 1652 = some (.aload_n 0, 1, []) := la_of sgp_25 rfl sgd_25 rfl
theorem la_1653 : dm_at 329 1653 = some (.iload 4, 2, []) := la_of sgp_25 rfl sgd_25 rfl
theorem la_1655 : dm_at 329 1655 = some (.iconst 3, 1, []) := la_of sgp_25 rfl sgd_25 rfl
theorem la_1656 : dm_at 329 1656 = some (.iadd, 1, []) := la_of sgp_25 rfl sgd_25 rfl
theorem la_1657 : dm_at 329 1657 = some (.iaload, 1, []) := la_of sgp_25 rfl sgd_25 rfl
theorem la_1658 : dm_at 329 1658 = some (.aload_n 0, 1, []) := la_of sgp_25 rfl sgd_25 rfl
theorem la_1659 : dm_at 329 1659 = some (.iload 4, 2, []) := la_of sgp_25 rfl sgd_25 rfl
theorem la_1661 : dm_at 329 1661 = some (.iconst 4, 1, []) := la_of sgp_25 rfl sgd_25 rfl
theorem la_1662 : dm_at 329 1662 = some (.iadd, 1, []) := la_of sgp_25 rfl sgd_25 rfl
theorem la_1663 : dm_at 329 1663 = some (.iaload, 1, []) := la_of sgp_25 rfl sgd_25 rfl
theorem la_1664 : dm_at 329 1664 = some (.invokevirtual 281, 3, [180, 1, 7057, 7058, 7059, 1008, 7060]) := la_of sgp_25 rfl sgd_25 rfl
theorem la_1667 : dm_at 329 1667 = some (.istore 6, 2, []) := la_of sgp_25 rfl sgd_25 rfl
theorem la_1669 : dm_at 329 1669 = some (.goto 711, 3, [2380]) := la_of sgp_25 rfl sgd_25 rfl
theorem la_1672 : dm_at 329 1672 = some (.aload_n 1, 1, []) := la_of sgp_25 rfl sgd_25 rfl
theorem la_1673 : dm_at 329 1673 = some (.aload_n 0, 1, []) := la_of sgp_25 rfl sgd_25 rfl
theorem la_1674 : dm_at 329 1674 = some (.iload 4, 2, []) := la_of sgp_25 rfl sgd_25 rfl
theorem la_1676 : dm_at 329 1676 = some (.iconst 1, 1, []) := la_of sgp_25 rfl sgd_25 rfl
theorem la_1677 : dm_at 329 1677 = some (.iadd, 1, []) := la_of sgp_25 rfl sgd_25 rfl
theorem la_1678 : dm_at 329 1678 = some (.iaload, 1, []) := la_of sgp_25 rfl sgd_25 rfl
theorem la_1679 : dm_at 329 1679 = some (.aload_n 0, 1, []) := la_of sgp_25 rfl sgd_25 rfl
theorem la_1680 : dm_at 329 1680 = some (.iload 4, 2, []) := la_of sgp_25 rfl sgd_25 rfl
theorem la_1682 : dm_at 329 1682 = some (.iconst 2, 1, []) := la_of sgp_25 rfl sgd_25 rfl
theorem la_1683 : dm_at 329 1683 = some (.iadd, 1, []) := la_of sgp_25 rfl sgd_25 rfl
theorem la_1684 : dm_at 329 1684 = some (.iaload, 1, []) := la_of sgp_25 rfl sgd_25 rfl
theorem la_1685 : dm_at 329 1685 = some (.aload_n 0, 1, []) := la_of sgp_25 rfl sgd_25 rfl
set_option maxRecDepth 100000 in
def sg_26 : List (Nat × dm_I) := [(1686, (.iload 4, 2, [])), (1688, (.iconst 3, 1, [])), (1689, (.iadd, 1, [])), (1690, (.iaload, 1, [])), (1691, (.aload_n 0, 1, [])), (1692, (.iload 4, 2, [])), (1694, (.iconst 4, 1, [])), (1695, (.iadd, 1, [])), (1696, (.iaload, 1, [])), (1697, (.aload_n 0, 1, [])), (1698, (.iload 4, 2, [])), (1700, (.iconst 5, 1, [])), (1701, (.iadd, 1, [])), (1702, (.iaload, 1, [])), (1703, (.aload_n 3, 1, [])), (1704, (.invokestatic 282, 3, [315, 0, 5168, 5169, 1000, 5170])), (1707, (.istore 5, 2, [])), (1709, (.aload_n 2, 1, [])), (1710, (.aload_n 0, 1, [])), (1711, (.iload 4, 2, [])), (1713, (.iconst 1, 1, [])), (1714, (.iadd, 1, [])), (1715, (.iaload, 1, [])), (1716, (.aload_n 0, 1, [])), (1717, (.iload 4, 2, [])), (1719, (.iconst 2, 1, [])), (1720, (.iadd, 1, [])), (1721, (.iaload, 1, [])), (1722, (.aload_n 0, 1, [])), (1723, (.iload 4, 2, [])), (1725, (.iconst 3, 1, [])), (1726, (.iadd, 1, [])), (1727, (.iaload, 1, [])), (1728, (.aload_n 0, 1, [])), (1729, (.iload 4, 2, [])), (1731, (.iconst 4, 1, [])), (1732, (.iadd, 1, [])), (1733, (.iaload, 1, [])), (1734, (.aload_n 0, 1, [])), (1735, (.iload 4, 2, []))]
set_option maxRecDepth 100000 in
theorem sgd_26 : ((dm_c 329).drop 1040).take 40 = sg_26 := by decide +kernel
set_option maxRecDepth 100000 in
theorem sgp_26 : ((dm_c 329).take 1040).all (fun x => Nat.blt x.1 1686) = true := by decide +kernel
theorem la_1686 : dm_at 329 1686 = some (.iload 4, 2, []) := la_of sgp_26 rfl sgd_26 rfl
theorem la_1688 : dm_at 329 1688 = some (.iconst 3, 1, []) := la_of sgp_26 rfl sgd_26 rfl
theorem la_1689 : dm_at 329 1689 = some (.iadd, 1, []) := la_of sgp_26 rfl sgd_26 rfl
theorem la_1690 : dm_at 329 1690 = some (.iaload, 1, []) := la_of sgp_26 rfl sgd_26 rfl
theorem la_1691 : dm_at 329 1691 = some (.aload_n 0, 1, []) := la_of sgp_26 rfl sgd_26 rfl
theorem la_1692 : dm_at 329 1692 = some (.iload 4, 2, []) := la_of sgp_26 rfl sgd_26 rfl
theorem la_1694 : dm_at 329 1694 = some (.iconst 4, 1, []) := la_of sgp_26 rfl sgd_26 rfl
theorem la_1695 : dm_at 329 1695 = some (.iadd, 1, []) := la_of sgp_26 rfl sgd_26 rfl
theorem la_1696 : dm_at 329 1696 = some (.iaload, 1, []) := la_of sgp_26 rfl sgd_26 rfl
theorem la_1697 : dm_at 329 1697 = some (.aload_n 0, 1, []) := la_of sgp_26 rfl sgd_26 rfl
theorem la_1698 : dm_at 329 1698 = some (.iload 4, 2, []) := la_of sgp_26 rfl sgd_26 rfl
theorem la_1700 : dm_at 329 1700 = some (.iconst 5, 1, []) := la_of sgp_26 rfl sgd_26 rfl
theorem la_1701 : dm_at 329 1701 = some (.iadd, 1, []) := la_of sgp_26 rfl sgd_26 rfl
theorem la_1702 : dm_at 329 1702 = some (.iaload, 1, []) := la_of sgp_26 rfl sgd_26 rfl
theorem la_1703 : dm_at 329 1703 = some (.aload_n 3, 1, []) := la_of sgp_26 rfl sgd_26 rfl
theorem la_1704 : dm_at 329 1704 = some (.invokestatic 282, 3, [315, 0, 5168, 5169, 1000, 5170]) := la_of sgp_26 rfl sgd_26 rfl
theorem la_1707 : dm_at 329 1707 = some (.istore 5, 2, []) := la_of sgp_26 rfl sgd_26 rfl
theorem la_1709 : dm_at 329 1709 = some (.aload_n 2, 1, []) := la_of sgp_26 rfl sgd_26 rfl
theorem la_1710 : dm_at 329 1710 = some (.aload_n 0, 1, []) := la_of sgp_26 rfl sgd_26 rfl
theorem la_1711 : dm_at 329 1711 = some (.iload 4, 2, []) := la_of sgp_26 rfl sgd_26 rfl
theorem la_1713 : dm_at 329 1713 = some (.iconst 1, 1, []) := la_of sgp_26 rfl sgd_26 rfl
theorem la_1714 : dm_at 329 1714 = some (.iadd, 1, []) := la_of sgp_26 rfl sgd_26 rfl
theorem la_1715 : dm_at 329 1715 = some (.iaload, 1, []) := la_of sgp_26 rfl sgd_26 rfl
theorem la_1716 : dm_at 329 1716 = some (.aload_n 0, 1, []) := la_of sgp_26 rfl sgd_26 rfl
theorem la_1717 : dm_at 329 1717 = some (.iload 4, 2, []) := la_of sgp_26 rfl sgd_26 rfl
theorem la_1719 : dm_at 329 1719 = some (.iconst 2, 1, []) := la_of sgp_26 rfl sgd_26 rfl
theorem la_1720 : dm_at 329 1720 = some (.iadd, 1, []) := la_of sgp_26 rfl sgd_26 rfl
theorem la_1721 : dm_at 329 1721 = some (.iaload, 1, []) := la_of sgp_26 rfl sgd_26 rfl
theorem la_1722 : dm_at 329 1722 = some (.aload_n 0, 1, []) := la_of sgp_26 rfl sgd_26 rfl
theorem la_1723 : dm_at 329 1723 = some (.iload 4, 2, []) := la_of sgp_26 rfl sgd_26 rfl
theorem la_1725 : dm_at 329 1725 = some (.iconst 3, 1, []) := la_of sgp_26 rfl sgd_26 rfl
theorem la_1726 : dm_at 329 1726 = some (.iadd, 1, []) := la_of sgp_26 rfl sgd_26 rfl
theorem la_1727 : dm_at 329 1727 = some (.iaload, 1, []) := la_of sgp_26 rfl sgd_26 rfl
theorem la_1728 : dm_at 329 1728 = some (.aload_n 0, 1, []) := la_of sgp_26 rfl sgd_26 rfl
theorem la_1729 : dm_at 329 1729 = some (.iload 4, 2, []) := la_of sgp_26 rfl sgd_26 rfl
theorem la_1731 : dm_at 329 1731 = some (.iconst 4, 1, []) := la_of sgp_26 rfl sgd_26 rfl
theorem la_1732 : dm_at 329 1732 = some (.iadd, 1, []) := la_of sgp_26 rfl sgd_26 rfl
theorem la_1733 : dm_at 329 1733 = some (.iaload, 1, []) := la_of sgp_26 rfl sgd_26 rfl
theorem la_1734 : dm_at 329 1734 = some (.aload_n 0, 1, []) := la_of sgp_26 rfl sgd_26 rfl
theorem la_1735 : dm_at 329 1735 = some (.iload 4, 2, []) := la_of sgp_26 rfl sgd_26 rfl
set_option maxRecDepth 100000 in
def sg_27 : List (Nat × dm_I) := [(1737, (.iconst 5, 1, [])), (1738, (.iadd, 1, [])), (1739, (.iaload, 1, [])), (1740, (.invokevirtual 284, 3, [181, 1, 7061, 7062, 7063, 1008, 7064])), (1743, (.istore 6, 2, [])), (1745, (.goto 635, 3, [2380])), (1748, (.aload_n 1, 1, [])), (1749, (.aload_n 0, 1, [])), (1750, (.iload 4, 2, [])), (1752, (.iconst 1, 1, [])), (1753, (.iadd, 1, [])), (1754, (.iaload, 1, [])), (1755, (.aload_n 0, 1, [])), (1756, (.iload 4, 2, [])), (1758, (.iconst 2, 1, [])), (1759, (.iadd, 1, [])), (1760, (.iaload, 1, [])), (1761, (.ifCond .eq 7, 3, [1768])), (1764, (.iconst 1, 1, [])), (1765, (.goto 4, 3, [1769])), (1768, (.iconst 0, 1, [])), (1769, (.aload_n 3, 1, [])), (1770, (.invokestatic 285, 3, [316, 0, 5175, 5176, 1000, 5177])), (1773, (.istore 5, 2, [])), (1775, (.aload_n 2, 1, [])), (1776, (.aload_n 0, 1, [])), (1777, (.iload 4, 2, [])), (1779, (.iconst 1, 1, [])), (1780, (.iadd, 1, [])), (1781, (.iaload, 1, [])), (1782, (.aload_n 0, 1, [])), (1783, (.iload 4, 2, [])), (1785, (.iconst 2, 1, [])), (1786, (.iadd, 1, [])), (1787, (.iaload, 1, [])), (1788, (.ifCond .eq 7, 3, [1795])), (1791, (.iconst 1, 1, [])), (1792, (.goto 4, 3, [1796])), (1795, (.iconst 0, 1, [])), (1796, (.invokevirtual 287, 3, [183, 1, 7065, 7066, 7067, 1008, 7068]))]
set_option maxRecDepth 100000 in
theorem sgd_27 : ((dm_c 329).drop 1080).take 40 = sg_27 := by decide +kernel
set_option maxRecDepth 100000 in
theorem sgp_27 : ((dm_c 329).take 1080).all (fun x => Nat.blt x.1 1737) = true := by decide +kernel
theorem la_1737 : dm_at 329 1737 = some (.iconst 5, 1, []) := la_of sgp_27 rfl sgd_27 rfl
theorem la_1738 : dm_at 329 1738 = some (.iadd, 1, []) := la_of sgp_27 rfl sgd_27 rfl
theorem la_1739 : dm_at 329 1739 = some (.iaload, 1, []) := la_of sgp_27 rfl sgd_27 rfl
theorem la_1740 : dm_at 329 1740 = some (.invokevirtual 284, 3, [181, 1, 7061, 7062, 7063, 1008, 7064]) := la_of sgp_27 rfl sgd_27 rfl
theorem la_1743 : dm_at 329 1743 = some (.istore 6, 2, []) := la_of sgp_27 rfl sgd_27 rfl
theorem la_1745 : dm_at 329 1745 = some (.goto 635, 3, [2380]) := la_of sgp_27 rfl sgd_27 rfl
theorem la_1748 : dm_at 329 1748 = some (.aload_n 1, 1, []) := la_of sgp_27 rfl sgd_27 rfl
theorem la_1749 : dm_at 329 1749 = some (.aload_n 0, 1, []) := la_of sgp_27 rfl sgd_27 rfl
theorem la_1750 : dm_at 329 1750 = some (.iload 4, 2, []) := la_of sgp_27 rfl sgd_27 rfl
theorem la_1752 : dm_at 329 1752 = some (.iconst 1, 1, []) := la_of sgp_27 rfl sgd_27 rfl
theorem la_1753 : dm_at 329 1753 = some (.iadd, 1, []) := la_of sgp_27 rfl sgd_27 rfl
theorem la_1754 : dm_at 329 1754 = some (.iaload, 1, []) := la_of sgp_27 rfl sgd_27 rfl
theorem la_1755 : dm_at 329 1755 = some (.aload_n 0, 1, []) := la_of sgp_27 rfl sgd_27 rfl
theorem la_1756 : dm_at 329 1756 = some (.iload 4, 2, []) := la_of sgp_27 rfl sgd_27 rfl
theorem la_1758 : dm_at 329 1758 = some (.iconst 2, 1, []) := la_of sgp_27 rfl sgd_27 rfl
theorem la_1759 : dm_at 329 1759 = some (.iadd, 1, []) := la_of sgp_27 rfl sgd_27 rfl
theorem la_1760 : dm_at 329 1760 = some (.iaload, 1, []) := la_of sgp_27 rfl sgd_27 rfl
theorem la_1761 : dm_at 329 1761 = some (.ifCond .eq 7, 3, [1768]) := la_of sgp_27 rfl sgd_27 rfl
theorem la_1764 : dm_at 329 1764 = some (.iconst 1, 1, []) := la_of sgp_27 rfl sgd_27 rfl
theorem la_1765 : dm_at 329 1765 = some (.goto 4, 3, [1769]) := la_of sgp_27 rfl sgd_27 rfl
theorem la_1768 : dm_at 329 1768 = some (.iconst 0, 1, []) := la_of sgp_27 rfl sgd_27 rfl
theorem la_1769 : dm_at 329 1769 = some (.aload_n 3, 1, []) := la_of sgp_27 rfl sgd_27 rfl
theorem la_1770 : dm_at 329 1770 = some (.invokestatic 285, 3, [316, 0, 5175, 5176, 1000, 5177]) := la_of sgp_27 rfl sgd_27 rfl
theorem la_1773 : dm_at 329 1773 = some (.istore 5, 2, []) := la_of sgp_27 rfl sgd_27 rfl
theorem la_1775 : dm_at 329 1775 = some (.aload_n 2, 1, []) := la_of sgp_27 rfl sgd_27 rfl
theorem la_1776 : dm_at 329 1776 = some (.aload_n 0, 1, []) := la_of sgp_27 rfl sgd_27 rfl
theorem la_1777 : dm_at 329 1777 = some (.iload 4, 2, []) := la_of sgp_27 rfl sgd_27 rfl
theorem la_1779 : dm_at 329 1779 = some (.iconst 1, 1, []) := la_of sgp_27 rfl sgd_27 rfl
theorem la_1780 : dm_at 329 1780 = some (.iadd, 1, []) := la_of sgp_27 rfl sgd_27 rfl
theorem la_1781 : dm_at 329 1781 = some (.iaload, 1, []) := la_of sgp_27 rfl sgd_27 rfl
theorem la_1782 : dm_at 329 1782 = some (.aload_n 0, 1, []) := la_of sgp_27 rfl sgd_27 rfl
theorem la_1783 : dm_at 329 1783 = some (.iload 4, 2, []) := la_of sgp_27 rfl sgd_27 rfl
theorem la_1785 : dm_at 329 1785 = some (.iconst 2, 1, []) := la_of sgp_27 rfl sgd_27 rfl
theorem la_1786 : dm_at 329 1786 = some (.iadd, 1, []) := la_of sgp_27 rfl sgd_27 rfl
theorem la_1787 : dm_at 329 1787 = some (.iaload, 1, []) := la_of sgp_27 rfl sgd_27 rfl
theorem la_1788 : dm_at 329 1788 = some (.ifCond .eq 7, 3, [1795]) := la_of sgp_27 rfl sgd_27 rfl
theorem la_1791 : dm_at 329 1791 = some (.iconst 1, 1, []) := la_of sgp_27 rfl sgd_27 rfl
theorem la_1792 : dm_at 329 1792 = some (.goto 4, 3, [1796]) := la_of sgp_27 rfl sgd_27 rfl
theorem la_1795 : dm_at 329 1795 = some (.iconst 0, 1, []) := la_of sgp_27 rfl sgd_27 rfl
theorem la_1796 : dm_at 329 1796 = some (.invokevirtual 287, 3, [183, 1, 7065, 7066, 7067, 1008, 7068]) := la_of sgp_27 rfl sgd_27 rfl
set_option maxRecDepth 100000 in
def sg_28 : List (Nat × dm_I) := [(1799, (.astore 6, 2, [])), (1801, (.goto 579, 3, [2380])), (1804, (.aload_n 1, 1, [])), (1805, (.aload_n 0, 1, [])), (1806, (.iload 4, 2, [])), (1808, (.iconst 1, 1, [])), (1809, (.iadd, 1, [])), (1810, (.iaload, 1, [])), (1811, (.aload_n 0, 1, [])), (1812, (.iload 4, 2, [])), (1814, (.iconst 2, 1, [])), (1815, (.iadd, 1, [])), (1816, (.iaload, 1, [])), (1817, (.aload_n 3, 1, [])), (1818, (.invokestatic 288, 3, [317, 0, 5182, 5183, 1000, 5184])), (1821, (.istore 5, 2, [])), (1823, (.aload_n 2, 1, [])), (1824, (.aload_n 0, 1, [])), (1825, (.iload 4, 2, [])), (1827, (.iconst 1, 1, [])), (1828, (.iadd, 1, [])), (1829, (.iaload, 1, [])), (1830, (.aload_n 0, 1, [])), (1831, (.iload 4, 2, [])), (1833, (.iconst 2, 1, [])), (1834, (.iadd, 1, [])), (1835, (.iaload, 1, [])), (1836, (.invokevirtual 290, 3, [184, 1, 7069, 7070, 7071, 1008, 7072])), (1839, (.istore 6, 2, [])), (1841, (.goto 539, 3, [2380])), (1844, (.aload_n 1, 1, [])), (1845, (.aload_n 0, 1, [])), (1846, (.iload 4, 2, [])), (1848, (.iconst 1, 1, [])), (1849, (.iadd, 1, [])), (1850, (.iaload, 1, [])), (1851, (.aload_n 3, 1, [])), (1852, (.invokestatic 291, 3, [318, 0, 5193, 5194, 1000, 5195])), (1855, (.istore 5, 2, [])), (1857, (.aload_n 2, 1, []))]
set_option maxRecDepth 100000 in
theorem sgd_28 : ((dm_c 329).drop 1120).take 40 = sg_28 := by decide +kernel
set_option maxRecDepth 100000 in
theorem sgp_28 : ((dm_c 329).take 1120).all (fun x => Nat.blt x.1 1799) = true := by decide +kernel
theorem la_1799 : dm_at 329 1799 = some (.astore 6, 2, []) := la_of sgp_28 rfl sgd_28 rfl
theorem la_1801 : dm_at 329 1801 = some (.goto 579, 3, [2380]) := la_of sgp_28 rfl sgd_28 rfl
theorem la_1804 : dm_at 329 1804 = some (.aload_n 1, 1, []) := la_of sgp_28 rfl sgd_28 rfl
theorem la_1805 : dm_at 329 1805 = some (.aload_n 0, 1, []) := la_of sgp_28 rfl sgd_28 rfl
theorem la_1806 : dm_at 329 1806 = some (.iload 4, 2, []) := la_of sgp_28 rfl sgd_28 rfl
theorem la_1808 : dm_at 329 1808 = some (.iconst 1, 1, []) := la_of sgp_28 rfl sgd_28 rfl
theorem la_1809 : dm_at 329 1809 = some (.iadd, 1, []) := la_of sgp_28 rfl sgd_28 rfl
theorem la_1810 : dm_at 329 1810 = some (.iaload, 1, []) := la_of sgp_28 rfl sgd_28 rfl
theorem la_1811 : dm_at 329 1811 = some (.aload_n 0, 1, []) := la_of sgp_28 rfl sgd_28 rfl
theorem la_1812 : dm_at 329 1812 = some (.iload 4, 2, []) := la_of sgp_28 rfl sgd_28 rfl
theorem la_1814 : dm_at 329 1814 = some (.iconst 2, 1, []) := la_of sgp_28 rfl sgd_28 rfl
theorem la_1815 : dm_at 329 1815 = some (.iadd, 1, []) := la_of sgp_28 rfl sgd_28 rfl
theorem la_1816 : dm_at 329 1816 = some (.iaload, 1, []) := la_of sgp_28 rfl sgd_28 rfl
theorem la_1817 : dm_at 329 1817 = some (.aload_n 3, 1, []) := la_of sgp_28 rfl sgd_28 rfl
theorem la_1818 : dm_at 329 1818 = some (.invokestatic 288, 3, [317, 0, 5182, 5183, 1000, 5184]) := la_of sgp_28 rfl sgd_28 rfl
theorem la_1821 : dm_at 329 1821 = some (.istore 5, 2, []) := la_of sgp_28 rfl sgd_28 rfl
theorem la_1823 : dm_at 329 1823 = some (.aload_n 2, 1, []) := la_of sgp_28 rfl sgd_28 rfl
theorem la_1824 : dm_at 329 1824 = some (.aload_n 0, 1, []) := la_of sgp_28 rfl sgd_28 rfl
theorem la_1825 : dm_at 329 1825 = some (.iload 4, 2, []) := la_of sgp_28 rfl sgd_28 rfl
theorem la_1827 : dm_at 329 1827 = some (.iconst 1, 1, []) := la_of sgp_28 rfl sgd_28 rfl
theorem la_1828 : dm_at 329 1828 = some (.iadd, 1, []) := la_of sgp_28 rfl sgd_28 rfl
theorem la_1829 : dm_at 329 1829 = some (.iaload, 1, []) := la_of sgp_28 rfl sgd_28 rfl
theorem la_1830 : dm_at 329 1830 = some (.aload_n 0, 1, []) := la_of sgp_28 rfl sgd_28 rfl
theorem la_1831 : dm_at 329 1831 = some (.iload 4, 2, []) := la_of sgp_28 rfl sgd_28 rfl
theorem la_1833 : dm_at 329 1833 = some (.iconst 2, 1, []) := la_of sgp_28 rfl sgd_28 rfl
theorem la_1834 : dm_at 329 1834 = some (.iadd, 1, []) := la_of sgp_28 rfl sgd_28 rfl
theorem la_1835 : dm_at 329 1835 = some (.iaload, 1, []) := la_of sgp_28 rfl sgd_28 rfl
theorem la_1836 : dm_at 329 1836 = some (.invokevirtual 290, 3, [184, 1, 7069, 7070, 7071, 1008, 7072]) := la_of sgp_28 rfl sgd_28 rfl
theorem la_1839 : dm_at 329 1839 = some (.istore 6, 2, []) := la_of sgp_28 rfl sgd_28 rfl
theorem la_1841 : dm_at 329 1841 = some (.goto 539, 3, [2380]) := la_of sgp_28 rfl sgd_28 rfl
theorem la_1844 : dm_at 329 1844 = some (.aload_n 1, 1, []) := la_of sgp_28 rfl sgd_28 rfl
theorem la_1845 : dm_at 329 1845 = some (.aload_n 0, 1, []) := la_of sgp_28 rfl sgd_28 rfl
theorem la_1846 : dm_at 329 1846 = some (.iload 4, 2, []) := la_of sgp_28 rfl sgd_28 rfl
theorem la_1848 : dm_at 329 1848 = some (.iconst 1, 1, []) := la_of sgp_28 rfl sgd_28 rfl
theorem la_1849 : dm_at 329 1849 = some (.iadd, 1, []) := la_of sgp_28 rfl sgd_28 rfl
theorem la_1850 : dm_at 329 1850 = some (.iaload, 1, []) := la_of sgp_28 rfl sgd_28 rfl
theorem la_1851 : dm_at 329 1851 = some (.aload_n 3, 1, []) := la_of sgp_28 rfl sgd_28 rfl
theorem la_1852 : dm_at 329 1852 = some (.invokestatic 291, 3, [318, 0, 5193, 5194, 1000, 5195]) := la_of sgp_28 rfl sgd_28 rfl
theorem la_1855 : dm_at 329 1855 = some (.istore 5, 2, []) := la_of sgp_28 rfl sgd_28 rfl
theorem la_1857 : dm_at 329 1857 = some (.aload_n 2, 1, []) := la_of sgp_28 rfl sgd_28 rfl
set_option maxRecDepth 100000 in
def sg_29 : List (Nat × dm_I) := [(1858, (.aload_n 0, 1, [])), (1859, (.iload 4, 2, [])), (1861, (.iconst 1, 1, [])), (1862, (.iadd, 1, [])), (1863, (.iaload, 1, [])), (1864, (.invokevirtual 293, 3, [191, 1, 7073, 7074, 7075, 1008, 7076])), (1867, (.istore 6, 2, [])), (1869, (.aload_n 2, 1, [])), (1870, (.invokevirtual 294, 3, [330, 1, 6074, 6075, 6076, 1008, 6077])), (1873, (.iload 5, 2, [])), (1875, (.if_icmp .eq 5, 3, [1880])), (1878, (.iconst 0, 1, [])), (1879, (.ireturn, 1, [])), (1880, (.iload 5, 2, [])), (1882, (.ifCond .ne 16, 3, [1898])), (1885, (.aload_n 3, 1, [])), (1886, (.getfield 13, 3, [9, 0, 1, 3096])), (1889, (.iload 6, 2, [])), (1891, (.i2l, 1, [])), (1892, (.lcmp, 1, [])), (1893, (.ifCond .eq 5, 3, [1898])), (1896, (.iconst 0, 1, [])), (1897, (.ireturn, 1, [])), (1898, (.goto 482, 3, [2380])), (1901, (.aload_n 1, 1, [])), (1902, (.aload_n 0, 1, [])), (1903, (.iload 4, 2, [])), (1905, (.iconst 1, 1, [])), (1906, (.iadd, 1, [])), (1907, (.iaload, 1, [])), (1908, (.aload_n 0, 1, [])), (1909, (.iload 4, 2, [])), (1911, (.iconst 2, 1, [])), (1912, (.iadd, 1, [])), (1913, (.iaload, 1, [])), (1914, (.aload_n 3, 1, [])), (1915, (.invokestatic 297, 3, [319, 0, 5197, 5198, 1000, 5199])), (1918, (.istore 5, 2, [])), (1920, (.aload_n 2, 1, [])), (1921, (.aload_n 0, 1, []))]
set_option maxRecDepth 100000 in
theorem sgd_29 : ((dm_c 329).drop 1160).take 40 = sg_29 := by decide +kernel
set_option maxRecDepth 100000 in
theorem sgp_29 : ((dm_c 329).take 1160).all (fun x => Nat.blt x.1 1858) = true := by decide +kernel
theorem la_1858 : dm_at 329 1858 = some (.aload_n 0, 1, []) := la_of sgp_29 rfl sgd_29 rfl
theorem la_1859 : dm_at 329 1859 = some (.iload 4, 2, []) := la_of sgp_29 rfl sgd_29 rfl
theorem la_1861 : dm_at 329 1861 = some (.iconst 1, 1, []) := la_of sgp_29 rfl sgd_29 rfl
theorem la_1862 : dm_at 329 1862 = some (.iadd, 1, []) := la_of sgp_29 rfl sgd_29 rfl
theorem la_1863 : dm_at 329 1863 = some (.iaload, 1, []) := la_of sgp_29 rfl sgd_29 rfl
theorem la_1864 : dm_at 329 1864 = some (.invokevirtual 293, 3, [191, 1, 7073, 7074, 7075, 1008, 7076]) := la_of sgp_29 rfl sgd_29 rfl
theorem la_1867 : dm_at 329 1867 = some (.istore 6, 2, []) := la_of sgp_29 rfl sgd_29 rfl
theorem la_1869 : dm_at 329 1869 = some (.aload_n 2, 1, []) := la_of sgp_29 rfl sgd_29 rfl
theorem la_1870 : dm_at 329 1870 = some (.invokevirtual 294, 3, [330, 1, 6074, 6075, 6076, 1008, 6077]) := la_of sgp_29 rfl sgd_29 rfl
theorem la_1873 : dm_at 329 1873 = some (.iload 5, 2, []) := la_of sgp_29 rfl sgd_29 rfl
theorem la_1875 : dm_at 329 1875 = some (.if_icmp .eq 5, 3, [1880]) := la_of sgp_29 rfl sgd_29 rfl
theorem la_1880 : dm_at 329 1880 = some (.iload 5, 2, []) := la_of sgp_29 rfl sgd_29 rfl
theorem la_1882 : dm_at 329 1882 = some (.ifCond .ne 16, 3, [1898]) := la_of sgp_29 rfl sgd_29 rfl
theorem la_1885 : dm_at 329 1885 = some (.aload_n 3, 1, []) := la_of sgp_29 rfl sgd_29 rfl
theorem la_1886 : dm_at 329 1886 = some (.getfield 13, 3, [9, 0, 1, 3096]) := la_of sgp_29 rfl sgd_29 rfl
theorem la_1889 : dm_at 329 1889 = some (.iload 6, 2, []) := la_of sgp_29 rfl sgd_29 rfl
theorem la_1891 : dm_at 329 1891 = some (.i2l, 1, []) := la_of sgp_29 rfl sgd_29 rfl
theorem la_1892 : dm_at 329 1892 = some (.lcmp, 1, []) := la_of sgp_29 rfl sgd_29 rfl
theorem la_1893 : dm_at 329 1893 = some (.ifCond .eq 5, 3, [1898]) := la_of sgp_29 rfl sgd_29 rfl
theorem la_1898 : dm_at 329 1898 = some (.goto 482, 3, [2380]) := la_of sgp_29 rfl sgd_29 rfl
theorem la_1901 : dm_at 329 1901 = some (.aload_n 1, 1, []) := la_of sgp_29 rfl sgd_29 rfl
theorem la_1902 : dm_at 329 1902 = some (.aload_n 0, 1, []) := la_of sgp_29 rfl sgd_29 rfl
theorem la_1903 : dm_at 329 1903 = some (.iload 4, 2, []) := la_of sgp_29 rfl sgd_29 rfl
theorem la_1905 : dm_at 329 1905 = some (.iconst 1, 1, []) := la_of sgp_29 rfl sgd_29 rfl
theorem la_1906 : dm_at 329 1906 = some (.iadd, 1, []) := la_of sgp_29 rfl sgd_29 rfl
theorem la_1907 : dm_at 329 1907 = some (.iaload, 1, []) := la_of sgp_29 rfl sgd_29 rfl
theorem la_1908 : dm_at 329 1908 = some (.aload_n 0, 1, []) := la_of sgp_29 rfl sgd_29 rfl
theorem la_1909 : dm_at 329 1909 = some (.iload 4, 2, []) := la_of sgp_29 rfl sgd_29 rfl
theorem la_1911 : dm_at 329 1911 = some (.iconst 2, 1, []) := la_of sgp_29 rfl sgd_29 rfl
theorem la_1912 : dm_at 329 1912 = some (.iadd, 1, []) := la_of sgp_29 rfl sgd_29 rfl
theorem la_1913 : dm_at 329 1913 = some (.iaload, 1, []) := la_of sgp_29 rfl sgd_29 rfl
theorem la_1914 : dm_at 329 1914 = some (.aload_n 3, 1, []) := la_of sgp_29 rfl sgd_29 rfl
theorem la_1915 : dm_at 329 1915 = some (.invokestatic 297, 3, [319, 0, 5197, 5198, 1000, 5199]) := la_of sgp_29 rfl sgd_29 rfl
theorem la_1918 : dm_at 329 1918 = some (.istore 5, 2, []) := la_of sgp_29 rfl sgd_29 rfl
theorem la_1920 : dm_at 329 1920 = some (.aload_n 2, 1, []) := la_of sgp_29 rfl sgd_29 rfl
theorem la_1921 : dm_at 329 1921 = some (.aload_n 0, 1, []) := la_of sgp_29 rfl sgd_29 rfl
set_option maxRecDepth 100000 in
def sg_30 : List (Nat × dm_I) := [(1922, (.iload 4, 2, [])), (1924, (.iconst 1, 1, [])), (1925, (.iadd, 1, [])), (1926, (.iaload, 1, [])), (1927, (.aload_n 0, 1, [])), (1928, (.iload 4, 2, [])), (1930, (.iconst 2, 1, [])), (1931, (.iadd, 1, [])), (1932, (.iaload, 1, [])), (1933, (.invokevirtual 299, 3, [192, 1, 7085, 7086, 7087, 1008, 7088])), (1936, (.istore 6, 2, [])), (1938, (.goto 442, 3, [2380])), (1941, (.aload_n 1, 1, [])), (1942, (.aload_n 0, 1, [])), (1943, (.iload 4, 2, [])), (1945, (.iconst 1, 1, [])), (1946, (.iadd, 1, [])), (1947, (.iaload, 1, [])), (1948, (.aload_n 0, 1, [])), (1949, (.iload 4, 2, [])), (1951, (.iconst 2, 1, [])), (1952, (.iadd, 1, [])), (1953, (.iaload, 1, [])), (1954, (.aload_n 3, 1, [])), (1955, (.invokestatic 300, 3, [320, 0, 5201, 5202, 1000, 5203])), (1958, (.istore 5, 2, [])), (1960, (.aload_n 2, 1, [])), (1961, (.aload_n 0, 1, [])), (1962, (.iload 4, 2, [])), (1964, (.iconst 1, 1, [])), (1965, (.iadd, 1, [])), (1966, (.iaload, 1, [])), (1967, (.aload_n 0, 1, [])), (1968, (.iload 4, 2, [])), (1970, (.iconst 2, 1, [])), (1971, (.iadd, 1, [])), (1972, (.iaload, 1, [])), (1973, (.invokevirtual 302, 3, [195, 1, 7089, 7090, 7091, 1008, 7092])), (1976, (.istore 6, 2, [])), (1978, (.goto 402, 3, [2380]))]
set_option maxRecDepth 100000 in
theorem sgd_30 : ((dm_c 329).drop 1200).take 40 = sg_30 := by decide +kernel
set_option maxRecDepth 100000 in
theorem sgp_30 : ((dm_c 329).take 1200).all (fun x => Nat.blt x.1 1922) = true := by decide +kernel
theorem la_1922 : dm_at 329 1922 = some (.iload 4, 2, []) := la_of sgp_30 rfl sgd_30 rfl
theorem la_1924 : dm_at 329 1924 = some (.iconst 1, 1, []) := la_of sgp_30 rfl sgd_30 rfl
theorem la_1925 : dm_at 329 1925 = some (.iadd, 1, []) := la_of sgp_30 rfl sgd_30 rfl
theorem la_1926 : dm_at 329 1926 = some (.iaload, 1, []) := la_of sgp_30 rfl sgd_30 rfl
theorem la_1927 : dm_at 329 1927 = some (.aload_n 0, 1, []) := la_of sgp_30 rfl sgd_30 rfl
theorem la_1928 : dm_at 329 1928 = some (.iload 4, 2, []) := la_of sgp_30 rfl sgd_30 rfl
theorem la_1930 : dm_at 329 1930 = some (.iconst 2, 1, []) := la_of sgp_30 rfl sgd_30 rfl
theorem la_1931 : dm_at 329 1931 = some (.iadd, 1, []) := la_of sgp_30 rfl sgd_30 rfl
theorem la_1932 : dm_at 329 1932 = some (.iaload, 1, []) := la_of sgp_30 rfl sgd_30 rfl
theorem la_1933 : dm_at 329 1933 = some (.invokevirtual 299, 3, [192, 1, 7085, 7086, 7087, 1008, 7088]) := la_of sgp_30 rfl sgd_30 rfl
theorem la_1936 : dm_at 329 1936 = some (.istore 6, 2, []) := la_of sgp_30 rfl sgd_30 rfl
theorem la_1938 : dm_at 329 1938 = some (.goto 442, 3, [2380]) := la_of sgp_30 rfl sgd_30 rfl
theorem la_1941 : dm_at 329 1941 = some (.aload_n 1, 1, []) := la_of sgp_30 rfl sgd_30 rfl
theorem la_1942 : dm_at 329 1942 = some (.aload_n 0, 1, []) := la_of sgp_30 rfl sgd_30 rfl
theorem la_1943 : dm_at 329 1943 = some (.iload 4, 2, []) := la_of sgp_30 rfl sgd_30 rfl
theorem la_1945 : dm_at 329 1945 = some (.iconst 1, 1, []) := la_of sgp_30 rfl sgd_30 rfl
theorem la_1946 : dm_at 329 1946 = some (.iadd, 1, []) := la_of sgp_30 rfl sgd_30 rfl
theorem la_1947 : dm_at 329 1947 = some (.iaload, 1, []) := la_of sgp_30 rfl sgd_30 rfl
theorem la_1948 : dm_at 329 1948 = some (.aload_n 0, 1, []) := la_of sgp_30 rfl sgd_30 rfl
theorem la_1949 : dm_at 329 1949 = some (.iload 4, 2, []) := la_of sgp_30 rfl sgd_30 rfl
theorem la_1951 : dm_at 329 1951 = some (.iconst 2, 1, []) := la_of sgp_30 rfl sgd_30 rfl
theorem la_1952 : dm_at 329 1952 = some (.iadd, 1, []) := la_of sgp_30 rfl sgd_30 rfl
theorem la_1953 : dm_at 329 1953 = some (.iaload, 1, []) := la_of sgp_30 rfl sgd_30 rfl
theorem la_1954 : dm_at 329 1954 = some (.aload_n 3, 1, []) := la_of sgp_30 rfl sgd_30 rfl
theorem la_1955 : dm_at 329 1955 = some (.invokestatic 300, 3, [320, 0, 5201, 5202, 1000, 5203]) := la_of sgp_30 rfl sgd_30 rfl
theorem la_1958 : dm_at 329 1958 = some (.istore 5, 2, []) := la_of sgp_30 rfl sgd_30 rfl
theorem la_1960 : dm_at 329 1960 = some (.aload_n 2, 1, []) := la_of sgp_30 rfl sgd_30 rfl
theorem la_1961 : dm_at 329 1961 = some (.aload_n 0, 1, []) := la_of sgp_30 rfl sgd_30 rfl
theorem la_1962 : dm_at 329 1962 = some (.iload 4, 2, []) := la_of sgp_30 rfl sgd_30 rfl
theorem la_1964 : dm_at 329 1964 = some (.iconst 1, 1, []) := la_of sgp_30 rfl sgd_30 rfl
theorem la_1965 : dm_at 329 1965 = some (.iadd, 1, []) := la_of sgp_30 rfl sgd_30 rfl
theorem la_1966 : dm_at 329 1966 = some (.iaload, 1, []) := la_of sgp_30 rfl sgd_30 rfl
theorem la_1967 : dm_at 329 1967 = some (.aload_n 0, 1, []) := la_of sgp_30 rfl sgd_30 rfl
theorem la_1968 : dm_at 329 1968 = some (.iload 4, 2, []) := la_of sgp_30 rfl sgd_30 rfl
theorem la_1970 : dm_at 329 1970 = some (.iconst 2, 1, []) := la_of sgp_30 rfl sgd_30 rfl
theorem la_1971 : dm_at 329 1971 = some (.iadd, 1, []) := la_of sgp_30 rfl sgd_30 rfl
theorem la_1972 : dm_at 329 1972 = some (.iaload, 1, []) := la_of sgp_30 rfl sgd_30 rfl
theorem la_1973 : dm_at 329 1973 = some (.invokevirtual 302, 3, [195, 1, 7089, 7090, 7091, 1008, 7092]) := la_of sgp_30 rfl sgd_30 rfl
theorem la_1976 : dm_at 329 1976 = some (.istore 6, 2, []) := la_of sgp_30 rfl sgd_30 rfl
theorem la_1978 : dm_at 329 1978 = some (.goto 402, 3, [2380]) := la_of sgp_30 rfl sgd_30 rfl
set_option maxRecDepth 100000 in
def sg_31 : List (Nat × dm_I) := [(1981, (.aload_n 1, 1, [])), (1982, (.aload_n 0, 1, [])), (1983, (.iload 4, 2, [])), (1985, (.iconst 1, 1, [])), (1986, (.iadd, 1, [])), (1987, (.iaload, 1, [])), (1988, (.aload_n 0, 1, [])), (1989, (.iload 4, 2, [])), (1991, (.iconst 2, 1, [])), (1992, (.iadd, 1, [])), (1993, (.iaload, 1, [])), (1994, (.aload_n 3, 1, [])), (1995, (.invokestatic 303, 3, [321, 0, 5215, 5216, 1000, 5217])), (1998, (.istore 5, 2, [])), (2000, (.aload_n 2, 1, [])), (2001, (.aload_n 0, 1, [])), (2002, (.iload 4, 2, [])), (2004, (.iconst 1, 1, [])), (2005, (.iadd, 1, [])), (2006, (.iaload, 1, [])), (2007, (.aload_n 0, 1, [])), (2008, (.iload 4, 2, [])), (2010, (.iconst 2, 1, [])), (2011, (.iadd, 1, [])), (2012, (.iaload, 1, [])), (2013, (.invokevirtual 305, 3, [197, 1, 7116, 7117, 7118, 1008, 7119])), (2016, (.istore 6, 2, [])), (2018, (.goto 362, 3, [2380])), (2021, (.aload_n 1, 1, [])), (2022, (.aload_n 0, 1, [])), (2023, (.iload 4, 2, [])), (2025, (.iconst 1, 1, [])), (2026, (.iadd, 1, [])), (2027, (.iaload, 1, [])), (2028, (.aload_n 0, 1, [])), (2029, (.iload 4, 2, [])), (2031, (.iconst 2, 1, [])), (2032, (.iadd, 1, [])), (2033, (.iaload, 1, [])), (2034, (.aload_n 3, 1, []))]
set_option maxRecDepth 100000 in
theorem sgd_31 : ((dm_c 329).drop 1240).take 40 = sg_31 := by decide +kernel
set_option maxRecDepth 100000 in
theorem sgp_31 : ((dm_c 329).take 1240).all (fun x => Nat.blt x.1 1981) = true := by decide +kernel
theorem la_1981 : dm_at 329 1981 = some (.aload_n 1, 1, []) := la_of sgp_31 rfl sgd_31 rfl
theorem la_1982 : dm_at 329 1982 = some (.aload_n 0, 1, []) := la_of sgp_31 rfl sgd_31 rfl
theorem la_1983 : dm_at 329 1983 = some (.iload 4, 2, []) := la_of sgp_31 rfl sgd_31 rfl
theorem la_1985 : dm_at 329 1985 = some (.iconst 1, 1, []) := la_of sgp_31 rfl sgd_31 rfl
theorem la_1986 : dm_at 329 1986 = some (.iadd, 1, []) := la_of sgp_31 rfl sgd_31 rfl
theorem la_1987 : dm_at 329 1987 = some (.iaload, 1, []) := la_of sgp_31 rfl sgd_31 rfl
theorem la_1988 : dm_at 329 1988 = some (.aload_n 0, 1, []) := la_of sgp_31 rfl sgd_31 rfl
theorem la_1989 : dm_at 329 1989 = some (.iload 4, 2, []) := la_of sgp_31 rfl sgd_31 rfl
theorem la_1991 : dm_at 329 1991 = some (.iconst 2, 1, []) := la_of sgp_31 rfl sgd_31 rfl
theorem la_1992 : dm_at 329 1992 = some (.iadd, 1, []) := la_of sgp_31 rfl sgd_31 rfl
theorem la_1993 : dm_at 329 1993 = some (.iaload, 1, []) := la_of sgp_31 rfl sgd_31 rfl
theorem la_1994 : dm_at 329 1994 = some (.aload_n 3, 1, []) := la_of sgp_31 rfl sgd_31 rfl
theorem la_1995 : dm_at 329 1995 = some (.invokestatic 303, 3, [321, 0, 5215, 5216, 1000, 5217]) := la_of sgp_31 rfl sgd_31 rfl
theorem la_1998 : dm_at 329 1998 = some (.istore 5, 2, []) := la_of sgp_31 rfl sgd_31 rfl
theorem la_2000 : dm_at 329 2000 = some (.aload_n 2, 1, []) := la_of sgp_31 rfl sgd_31 rfl
theorem la_2001 : dm_at 329 2001 = some (.aload_n 0, 1, []) := la_of sgp_31 rfl sgd_31 rfl
theorem la_2002 : dm_at 329 2002 = some (.iload 4, 2, []) := la_of sgp_31 rfl sgd_31 rfl
theorem la_2004 : dm_at 329 2004 = some (.iconst 1, 1, []) := la_of sgp_31 rfl sgd_31 rfl
theorem la_2005 : dm_at 329 2005 = some (.iadd, 1, []) := la_of sgp_31 rfl sgd_31 rfl
theorem la_2006 : dm_at 329 2006 = some (.iaload, 1, []) := la_of sgp_31 rfl sgd_31 rfl
theorem la_2007 : dm_at 329 2007 = some (.aload_n 0, 1, []) := la_of sgp_31 rfl sgd_31 rfl
theorem la_2008 : dm_at 329 2008 = some (.iload 4, 2, []) := la_of sgp_31 rfl sgd_31 rfl
theorem la_2010 : dm_at 329 2010 = some (.iconst 2, 1, []) := la_of sgp_31 rfl sgd_31 rfl
theorem la_2011 : dm_at 329 2011 = some (.iadd, 1, []) := la_of sgp_31 rfl sgd_31 rfl
theorem la_2012 : dm_at 329 2012 = some (.iaload, 1, []) := la_of sgp_31 rfl sgd_31 rfl
theorem la_2013 : dm_at 329 2013 = some (.invokevirtual 305, 3, [197, 1, 7116, 7117, 7118, 1008, 7119]) := la_of sgp_31 rfl sgd_31 rfl
theorem la_2016 : dm_at 329 2016 = some (.istore 6, 2, []) := la_of sgp_31 rfl sgd_31 rfl
theorem la_2018 : dm_at 329 2018 = some (.goto 362, 3, [2380]) := la_of sgp_31 rfl sgd_31 rfl
theorem la_2021 : dm_at 329 2021 = some (.aload_n 1, 1, []) := la_of sgp_31 rfl sgd_31 rfl
theorem la_2022 : dm_at 329 2022 = some (.aload_n 0, 1, []) := la_of sgp_31 rfl sgd_31 rfl
theorem la_2023 : dm_at 329 2023 = some (.iload 4, 2, []) := la_of sgp_31 rfl sgd_31 rfl
theorem la_2025 : dm_at 329 2025 = some (.iconst 1, 1, []) := la_of sgp_31 rfl sgd_31 rfl
theorem la_2026 : dm_at 329 2026 = some (.iadd, 1, []) := la_of sgp_31 rfl sgd_31 rfl
theorem la_2027 : dm_at 329 2027 = some (.iaload, 1, []) := la_of sgp_31 rfl sgd_31 rfl
theorem la_2028 : dm_at 329 2028 = some (.aload_n 0, 1, []) := la_of sgp_31 rfl sgd_31 rfl
theorem la_2029 : dm_at 329 2029 = some (.iload 4, 2, []) := la_of sgp_31 rfl sgd_31 rfl
theorem la_2031 : dm_at 329 2031 = some (.iconst 2, 1, []) := la_of sgp_31 rfl sgd_31 rfl
theorem la_2032 : dm_at 329 2032 = some (.iadd, 1, []) := la_of sgp_31 rfl sgd_31 rfl
theorem la_2033 : dm_at 329 2033 = some (.iaload, 1, []) := la_of sgp_31 rfl sgd_31 rfl
theorem la_2034 : dm_at 329 2034 = some (.aload_n 3, 1, []) := la_of sgp_31 rfl sgd_31 rfl
set_option maxRecDepth 100000 in
def sg_32 : List (Nat × dm_I) := [(2035, (.invokestatic 306, 3, [322, 0, 5223, 5224, 1000, 5225])), (2038, (.istore 5, 2, [])), (2040, (.aload_n 2, 1, [])), (2041, (.aload_n 0, 1, [])), (2042, (.iload 4, 2, [])), (2044, (.iconst 1, 1, [])), (2045, (.iadd, 1, [])), (2046, (.iaload, 1, [])), (2047, (.aload_n 0, 1, [])), (2048, (.iload 4, 2, [])), (2050, (.iconst 2, 1, [])), (2051, (.iadd, 1, [])), (2052, (.iaload, 1, [])), (2053, (.invokevirtual 308, 3, [199, 1, 7123, 7124, 7125, 1008, 7126])), (2056, (.istore 6, 2, [])), (2058, (.goto 322, 3, [2380])), (2061, (.aload_n 1, 1, [])), (2062, (.aload_n 0, 1, [])), (2063, (.iload 4, 2, [])), (2065, (.iconst 1, 1, [])), (2066, (.iadd, 1, [])), (2067, (.iaload, 1, [])), (2068, (.aload_n 0, 1, [])), (2069, (.iload 4, 2, [])), (2071, (.iconst 2, 1, [])), (2072, (.iadd, 1, [])), (2073, (.iaload, 1, [])), (2074, (.ifCond .eq 7, 3, [2081])), (2077, (.iconst 1, 1, [])), (2078, (.goto 4, 3, [2082])), (2081, (.iconst 0, 1, [])), (2082, (.aload_n 3, 1, [])), (2083, (.invokestatic 309, 3, [323, 0, 5235, 5236, 1000, 5237])), (2086, (.istore 5, 2, [])), (2088, (.aload_n 2, 1, [])), (2089, (.aload_n 0, 1, [])), (2090, (.iload 4, 2, [])), (2092, (.iconst 1, 1, [])), (2093, (.iadd, 1, [])), (2094, (.iaload, 1, []))]
set_option maxRecDepth 100000 in
theorem sgd_32 : ((dm_c 329).drop 1280).take 40 = sg_32 := by decide +kernel
set_option maxRecDepth 100000 in
theorem sgp_32 : ((dm_c 329).take 1280).all (fun x => Nat.blt x.1 2035) = true := by decide +kernel
theorem la_2035 : dm_at 329 2035 = some (.invokestatic 306, 3, [322, 0, 5223, 5224, 1000, 5225]) := la_of sgp_32 rfl sgd_32 rfl
theorem la_2038 : dm_at 329 2038 = some (.istore 5, 2, []) := la_of sgp_32 rfl sgd_32 rfl
theorem la_2040 : dm_at 329 2040 = some (.aload_n 2, 1, []) := la_of sgp_32 rfl sgd_32 rfl
theorem la_2041 : dm_at 329 2041 = some (.aload_n 0, 1, []) := la_of sgp_32 rfl sgd_32 rfl
theorem la_2042 : dm_at 329 2042 = some (.iload 4, 2, []) := la_of sgp_32 rfl sgd_32 rfl
theorem la_2044 : dm_at 329 2044 = some (.iconst 1, 1, []) := la_of sgp_32 rfl sgd_32 rfl
theorem la_2045 : dm_at 329 2045 = some (.iadd, 1, []) := la_of sgp_32 rfl sgd_32 rfl
theorem la_2046 : dm_at 329 2046 = some (.iaload, 1, []) := la_of sgp_32 rfl sgd_32 rfl
theorem la_2047 : dm_at 329 2047 = some (.aload_n 0, 1, []) := la_of sgp_32 rfl sgd_32 rfl
theorem la_2048 : dm_at 329 2048 = some (.iload 4, 2, []) := la_of sgp_32 rfl sgd_32 rfl
theorem la_2050 : dm_at 329 2050 = some (.iconst 2, 1, []) := la_of sgp_32 rfl sgd_32 rfl
theorem la_2051 : dm_at 329 2051 = some (.iadd, 1, []) := la_of sgp_32 rfl sgd_32 rfl
theorem la_2052 : dm_at 329 2052 = some (.iaload, 1, []) := la_of sgp_32 rfl sgd_32 rfl
theorem la_2053 : dm_at 329 2053 = some (.invokevirtual 308, 3, [199, 1, 7123, 7124, 7125, 1008, 7126]) := la_of sgp_32 rfl sgd_32 rfl
theorem la_2056 : dm_at 329 2056 = some (.istore 6, 2, []) := la_of sgp_32 rfl sgd_32 rfl
theorem la_2058 : dm_at 329 2058 = some (.goto 322, 3, [2380]) := la_of sgp_32 rfl sgd_32 rfl
theorem la_2061 : dm_at 329 2061 = some (.aload_n 1, 1, []) := la_of sgp_32 rfl sgd_32 rfl
theorem la_2062 : dm_at 329 2062 = some (.aload_n 0, 1, []) := la_of sgp_32 rfl sgd_32 rfl
theorem la_2063 : dm_at 329 2063 = some (.iload 4, 2, []) := la_of sgp_32 rfl sgd_32 rfl
theorem la_2065 : dm_at 329 2065 = some (.iconst 1, 1, []) := la_of sgp_32 rfl sgd_32 rfl
theorem la_2066 : dm_at 329 2066 = some (.iadd, 1, []) := la_of sgp_32 rfl sgd_32 rfl
theorem la_2067 : dm_at 329 2067 = some (.iaload, 1, []) := la_of sgp_32 rfl sgd_32 rfl
theorem la_2068 : dm_at 329 2068 = some (.aload_n 0, 1, []) := la_of sgp_32 rfl sgd_32 rfl
theorem la_2069 : dm_at 329 2069 = some (.iload 4, 2, []) := la_of sgp_32 rfl sgd_32 rfl
theorem la_2071 : dm_at 329 2071 = some (.iconst 2, 1, []) := la_of sgp_32 rfl sgd_32 rfl
theorem la_2072 : dm_at 329 2072 = some (.iadd, 1, []) := la_of sgp_32 rfl sgd_32 rfl
theorem la_2073 : dm_at 329 2073 = some (.iaload, 1, []) := la_of sgp_32 rfl sgd_32 rfl
theorem la_2074 : dm_at 329 2074 = some (.ifCond .eq 7, 3, [2081]) := la_of sgp_32 rfl sgd_32 rfl
theorem la_2077 : dm_at 329 2077 = some (.iconst 1, 1, []) := la_of sgp_32 rfl sgd_32 rfl
theorem la_2078 : dm_at 329 2078 = some (.goto 4, 3, [2082]) := la_of sgp_32 rfl sgd_32 rfl
theorem la_2081 : dm_at 329 2081 = some (.iconst 0, 1, []) := la_of sgp_32 rfl sgd_32 rfl
theorem la_2082 : dm_at 329 2082 = some (.aload_n 3, 1, []) := la_of sgp_32 rfl sgd_32 rfl
theorem la_2083 : dm_at 329 2083 = some (.invokestatic 309, 3, [323, 0, 5235, 5236, 1000, 5237]) := la_of sgp_32 rfl sgd_32 rfl
theorem la_2086 : dm_at 329 2086 = some (.istore 5, 2, []) := la_of sgp_32 rfl sgd_32 rfl
theorem la_2088 : dm_at 329 2088 = some (.aload_n 2, 1, []) := la_of sgp_32 rfl sgd_32 rfl
theorem la_2089 : dm_at 329 2089 = some (.aload_n 0, 1, []) := la_of sgp_32 rfl sgd_32 rfl
theorem la_2090 : dm_at 329 2090 = some (.iload 4, 2, []) := la_of sgp_32 rfl sgd_32 rfl
theorem la_2092 : dm_at 329 2092 = some (.iconst 1, 1, []) := la_of sgp_32 rfl sgd_32 rfl
theorem la_2093 : dm_at 329 2093 = some (.iadd, 1, []) := la_of sgp_32 rfl sgd_32 rfl
theorem la_2094 : dm_at 329 2094 = some (.iaload, 1, []) := la_of sgp_32 rfl sgd_32 rfl
set_option maxRecDepth 100000 in
def sg_33 : List (Nat × dm_I) := [(2095, (.aload_n 0, 1, [])), (2096, (.iload 4, 2, [])), (2098, (.iconst 2, 1, [])), (2099, (.iadd, 1, [])), (2100, (.iaload, 1, [])), (2101, (.ifCond .eq 7, 3, [2108])), (2104, (.iconst 1, 1, [])), (2105, (.goto 4, 3, [2109])), (2108, (.iconst 0, 1, [])), (2109, (.invokevirtual 311, 3, [202, 1, 7131, 7132, 7133, 1008, 7134])), (2112, (.istore 6, 2, [])), (2114, (.goto 266, 3, [2380])), (2117, (.aload_n 1, 1, [])), (2118, (.aload_n 0, 1, [])), (2119, (.iload 4, 2, [])), (2121, (.iconst 1, 1, [])), (2122, (.iadd, 1, [])), (2123, (.iaload, 1, [])), (2124, (.aload_n 3, 1, [])), (2125, (.invokestatic 312, 3, [324, 0, 5239, 6000, 1000, 6001])), (2128, (.istore 5, 2, [])), (2130, (.aload_n 2, 1, [])), (2131, (.aload_n 0, 1, [])), (2132, (.iload 4, 2, [])), (2134, (.iconst 1, 1, [])), (2135, (.iadd, 1, [])), (2136, (.iaload, 1, [])), (2137, (.invokevirtual 314, 3, [206, 1, 7143, 7144, 7145, 1008, 7146])), (2140, (.istore 6, 2, [])), (2142, (.goto 238, 3, [2380])), (2145, (.aload_n 1, 1, [])), (2146, (.aload_n 0, 1, [])), (2147, (.iload 4, 2, [])), (2149, (.iconst 1, 1, [])), (2150, (.iadd, 1, [])), (2151, (.iaload, 1, [])), (2152, (.aload_n 0, 1, [])), (2153, (.iload 4, 2, [])), (2155, (.iconst 2, 1, [])), (2156, (.iadd, 1, []))]
set_option maxRecDepth 100000 in
theorem sgd_33 : ((dm_c 329).drop 1320).take 40 = sg_33 := by decide +kernel
set_option maxRecDepth 100000 in
theorem sgp_33 : ((dm_c 329).take 1320).all (fun x => Nat.blt x.1 2095) = true := by decide +kernel
theorem la_2095 : dm_at 329 2095 = some (.aload_n 0, 1, []) := la_of sgp_33 rfl sgd_33 rfl
theorem la_2096 : dm_at 329 2096 = some (.iload 4, 2, []) := la_of sgp_33 rfl sgd_33 rfl
theorem la_2098 : dm_at 329 2098 = some (.iconst 2, 1, []) := la_of sgp_33 rfl sgd_33 rfl
theorem la_2099 : dm_at 329 2099 = some (.iadd, 1, []) := la_of sgp_33 rfl sgd_33 rfl
theorem la_2100 : dm_at 329 2100 = some (.iaload, 1, []) := la_of sgp_33 rfl sgd_33 rfl
theorem la_2101 : dm_at 329 2101 = some (.ifCond .eq 7, 3, [2108]) := la_of sgp_33 rfl sgd_33 rfl
theorem la_2104 : dm_at 329 2104 = some (.iconst 1, 1, []) := la_of sgp_33 rfl sgd_33 rfl
theorem la_2105 : dm_at 329 2105 = some (.goto 4, 3, [2109]) := la_of sgp_33 rfl sgd_33 rfl
theorem la_2108 : dm_at 329 2108 = some (.iconst 0, 1, []) := la_of sgp_33 rfl sgd_33 rfl
theorem la_2109 : dm_at 329 2109 = some (.invokevirtual 311, 3, [202, 1, 7131, 7132, 7133, 1008, 7134]) := la_of sgp_33 rfl sgd_33 rfl
theorem la_2112 : dm_at 329 2112 = some (.istore 6, 2, []) := la_of sgp_33 rfl sgd_33 rfl
theorem la_2114 : dm_at 329 2114 = some (.goto 266, 3, [2380]) := la_of sgp_33 rfl sgd_33 rfl
theorem la_2117 : dm_at 329 2117 = some (.aload_n 1, 1, []) := la_of sgp_33 rfl sgd_33 rfl
theorem la_2118 : dm_at 329 2118 = some (.aload_n 0, 1, []) := la_of sgp_33 rfl sgd_33 rfl
theorem la_2119 : dm_at 329 2119 = some (.iload 4, 2, []) := la_of sgp_33 rfl sgd_33 rfl
theorem la_2121 : dm_at 329 2121 = some (.iconst 1, 1, []) := la_of sgp_33 rfl sgd_33 rfl
theorem la_2122 : dm_at 329 2122 = some (.iadd, 1, []) := la_of sgp_33 rfl sgd_33 rfl
theorem la_2123 : dm_at 329 2123 = some (.iaload, 1, []) := la_of sgp_33 rfl sgd_33 rfl
theorem la_2124 : dm_at 329 2124 = some (.aload_n 3, 1, []) := la_of sgp_33 rfl sgd_33 rfl
theorem la_2125 : dm_at 329 2125 = some (.invokestatic 312, 3, [324, 0, 5239, 6000, 1000, 6001]) := la_of sgp_33 rfl sgd_33 rfl
theorem la_2128 : dm_at 329 2128 = some (.istore 5, 2, []) := la_of sgp_33 rfl sgd_33 rfl
theorem la_2130 : dm_at 329 2130 = some (.aload_n 2, 1, []) := la_of sgp_33 rfl sgd_33 rfl
theorem la_2131 : dm_at 329 2131 = some (.aload_n 0, 1, []) := la_of sgp_33 rfl sgd_33 rfl
theorem la_2132 : dm_at 329 2132 = some (.iload 4, 2, []) := la_of sgp_33 rfl sgd_33 rfl
theorem la_2134 : dm_at 329 2134 = some (.iconst 1, 1, []) := la_of sgp_33 rfl sgd_33 rfl
theorem la_2135 : dm_at 329 2135 = some (.iadd, 1, []) := la_of sgp_33 rfl sgd_33 rfl
theorem la_2136 : dm_at 329 2136 = some (.iaload, 1, []) := la_of sgp_33 rfl sgd_33 rfl
theorem la_2137 : dm_at 329 2137 = some (.invokevirtual 314, 3, [206, 1, 7143, 7144, 7145, 1008, 7146]) := la_of sgp_33 rfl sgd_33 rfl
theorem la_2140 : dm_at 329 2140 = some (.istore 6, 2, []) := la_of sgp_33 rfl sgd_33 rfl
theorem la_2142 : dm_at 329 2142 = some (.goto 238, 3, [2380]) := la_of sgp_33 rfl sgd_33 rfl
theorem la_2145 : dm_at 329 2145 = some (.aload_n 1, 1, []) := la_of sgp_33 rfl sgd_33 rfl
theorem la_2146 : dm_at 329 2146 = some (.aload_n 0, 1, []) := la_of sgp_33 rfl sgd_33 rfl
theorem la_2147 : dm_at 329 2147 = some (.iload 4, 2, []) := la_of sgp_33 rfl sgd_33 rfl
theorem la_2149 : dm_at 329 2149 = some (.iconst 1, 1, []) := la_of sgp_33 rfl sgd_33 rfl
theorem la_2150 : dm_at 329 2150 = some (.iadd, 1, []) := la_of sgp_33 rfl sgd_33 rfl
theorem la_2151 : dm_at 329 2151 = some (.iaload, 1, []) := la_of sgp_33 rfl sgd_33 rfl
theorem la_2152 : dm_at 329 2152 = some (.aload_n 0, 1, []) := la_of sgp_33 rfl sgd_33 rfl
theorem la_2153 : dm_at 329 2153 = some (.iload 4, 2, []) := la_of sgp_33 rfl sgd_33 rfl
theorem la_2155 : dm_at 329 2155 = some (.iconst 2, 1, []) := la_of sgp_33 rfl sgd_33 rfl
theorem la_2156 : dm_at 329 2156 = some (.iadd, 1, []) := la_of sgp_33 rfl sgd_33 rfl
set_option maxRecDepth 100000 in
def sg_34 : List (Nat × dm_I) := [(2157, (.iaload, 1, [])), (2158, (.aload_n 0, 1, [])), (2159, (.iload 4, 2, [])), (2161, (.iconst 3, 1, [])), (2162, (.iadd, 1, [])), (2163, (.iaload, 1, [])), (2164, (.aload_n 3, 1, [])), (2165, (.invokestatic 315, 3, [325, 0, 6003, 6004, 1000, 6005])), (2168, (.istore 5, 2, [])), (2170, (.aload_n 2, 1, [])), (2171, (.aload_n 0, 1, [])), (2172, (.iload 4, 2, [])), (2174, (.iconst 1, 1, [])), (2175, (.iadd, 1, [])), (2176, (.iaload, 1, [])), (2177, (.aload_n 0, 1, [])), (2178, (.iload 4, 2, [])), (2180, (.iconst 2, 1, [])), (2181, (.iadd, 1, [])), (2182, (.iaload, 1, [])), (2183, (.aload_n 0, 1, [])), (2184, (.iload 4, 2, [])), (2186, (.iconst 3, 1, [])), (2187, (.iadd, 1, [])), (2188, (.iaload, 1, [])), (2189, (.invokevirtual 317, 3, [208, 1, 7157, 7158, 7159, 1008, 7160])), (2192, (.istore 6, 2, [])), (2194, (.goto 186, 3, [2380])), (2197, (.aload_n 1, 1, [])), (2198, (.aload_n 0, 1, [])), (2199, (.iload 4, 2, [])), (2201, (.iconst 1, 1, [])), (2202, (.iadd, 1, [])), (2203, (.iaload, 1, [])), (2204, (.aload_n 0, 1, [])), (2205, (.iload 4, 2, [])), (2207, (.iconst 2, 1, [])), (2208, (.iadd, 1, [])), (2209, (.iaload, 1, [])), (2210, (.aload_n 0, 1, []))]
set_option maxRecDepth 100000 in
theorem sgd_34 : ((dm_c 329).drop 1360).take 40 = sg_34 := by decide +kernel
set_option maxRecDepth 100000 in
theorem sgp_34 : ((dm_c 329).take 1360).all (fun x => Nat.blt x.1 2157) = true := by decide +kernel
theorem la_2157 : dm_at 329 2157 = some (.iaload, 1, []) := la_of sgp_34 rfl sgd_34 rfl
theorem la_2158 : dm_at 329 2158 = some (.aload_n 0, 1, []) := la_of sgp_34 rfl sgd_34 rfl
theorem la_2159 : dm_at 329 2159 = some (.iload 4, 2, []) := la_of sgp_34 rfl sgd_34 rfl
theorem la_2161 : dm_at 329 2161 = some (.iconst 3, 1, []) := la_of sgp_34 rfl sgd_34 rfl
theorem la_2162 : dm_at 329 2162 = some (.iadd, 1, []) := la_of sgp_34 rfl sgd_34 rfl
theorem la_2163 : dm_at 329 2163 = some (.iaload, 1, []) := la_of sgp_34 rfl sgd_34 rfl
theorem la_2164 : dm_at 329 2164 = some (.aload_n 3, 1, []) := la_of sgp_34 rfl sgd_34 rfl
theorem la_2165 : dm_at 329 2165 = some (.invokestatic 315, 3, [325, 0, 6003, 6004, 1000, 6005]) := la_of sgp_34 rfl sgd_34 rfl
theorem la_2168 : dm_at 329 2168 = some (.istore 5, 2, []) := la_of sgp_34 rfl sgd_34 rfl
theorem la_2170 : dm_at 329 2170 = some (.aload_n 2, 1, []) := la_of sgp_34 rfl sgd_34 rfl
theorem la_2171 : dm_at 329 2171 = some (.aload_n 0, 1, []) := la_of sgp_34 rfl sgd_34 rfl
theorem la_2172 : dm_at 329 2172 = some (.iload 4, 2, []) := la_of sgp_34 rfl sgd_34 rfl
theorem la_2174 : dm_at 329 2174 = some (.iconst 1, 1, []) := la_of sgp_34 rfl sgd_34 rfl
theorem la_2175 : dm_at 329 2175 = some (.iadd, 1, []) := la_of sgp_34 rfl sgd_34 rfl
theorem la_2176 : dm_at 329 2176 = some (.iaload, 1, []) := la_of sgp_34 rfl sgd_34 rfl
theorem la_2177 : dm_at 329 2177 = some (.aload_n 0, 1, []) := la_of sgp_34 rfl sgd_34 rfl
theorem la_2178 : dm_at 329 2178 = some (.iload 4, 2, []) := la_of sgp_34 rfl sgd_34 rfl
theorem la_2180 : dm_at 329 2180 = some (.iconst 2, 1, []) := la_of sgp_34 rfl sgd_34 rfl
theorem la_2181 : dm_at 329 2181 = some (.iadd, 1, []) := la_of sgp_34 rfl sgd_34 rfl
theorem la_2182 : dm_at 329 2182 = some (.iaload, 1, []) := la_of sgp_34 rfl sgd_34 rfl
theorem la_2183 : dm_at 329 2183 = some (.aload_n 0, 1, []) := la_of sgp_34 rfl sgd_34 rfl
theorem la_2184 : dm_at 329 2184 = some (.iload 4, 2, []) := la_of sgp_34 rfl sgd_34 rfl
theorem la_2186 : dm_at 329 2186 = some (.iconst 3, 1, []) := la_of sgp_34 rfl sgd_34 rfl
theorem la_2187 : dm_at 329 2187 = some (.iadd, 1, []) := la_of sgp_34 rfl sgd_34 rfl
theorem la_2188 : dm_at 329 2188 = some (.iaload, 1, []) := la_of sgp_34 rfl sgd_34 rfl
theorem la_2189 : dm_at 329 2189 = some (.invokevirtual 317, 3, [208, 1, 7157, 7158, 7159, 1008, 7160]) := la_of sgp_34 rfl sgd_34 rfl
theorem la_2192 : dm_at 329 2192 = some (.istore 6, 2, []) := la_of sgp_34 rfl sgd_34 rfl
theorem la_2194 : dm_at 329 2194 = some (.goto 186, 3, [2380]) := la_of sgp_34 rfl sgd_34 rfl
theorem la_2197 : dm_at 329 2197 = some (.aload_n 1, 1, []) := la_of sgp_34 rfl sgd_34 rfl
theorem la_2198 : dm_at 329 2198 = some (.aload_n 0, 1, []) := la_of sgp_34 rfl sgd_34 rfl
theorem la_2199 : dm_at 329 2199 = some (.iload 4, 2, []) := la_of sgp_34 rfl sgd_34 rfl
theorem la_2201 : dm_at 329 2201 = some (.iconst 1, 1, []) := la_of sgp_34 rfl sgd_34 rfl
theorem la_2202 : dm_at 329 2202 = some (.iadd, 1, []) := la_of sgp_34 rfl sgd_34 rfl
theorem la_2203 : dm_at 329 2203 = some (.iaload, 1, []) := la_of sgp_34 rfl sgd_34 rfl
theorem la_2204 : dm_at 329 2204 = some (.aload_n 0, 1, []) := la_of sgp_34 rfl sgd_34 rfl
theorem la_2205 : dm_at 329 2205 = some (.iload 4, 2, []) := la_of sgp_34 rfl sgd_34 rfl
theorem la_2207 : dm_at 329 2207 = some (.iconst 2, 1, []) := la_of sgp_34 rfl sgd_34 rfl
theorem la_2208 : dm_at 329 2208 = some (.iadd, 1, []) := la_of sgp_34 rfl sgd_34 rfl
theorem la_2209 : dm_at 329 2209 = some (.iaload, 1, []) := la_of sgp_34 rfl sgd_34 rfl
theorem la_2210 : dm_at 329 2210 = some (.aload_n 0, 1, []) := la_of sgp_34 rfl sgd_34 rfl
set_option maxRecDepth 100000 in
def sg_35 : List (Nat × dm_I) := [(2211, (.iload 4, 2, [])), (2213, (.iconst 3, 1, [])), (2214, (.iadd, 1, [])), (2215, (.iaload, 1, [])), (2216, (.aload_n 3, 1, [])), (2217, (.invokestatic 318, 3, [326, 0, 6007, 6008, 1000, 6009])), (2220, (.istore 5, 2, [])), (2222, (.aload_n 2, 1, [])), (2223, (.aload_n 0, 1, [])), (2224, (.iload 4, 2, [])), (2226, (.iconst 1, 1, [])), (2227, (.iadd, 1, [])), (2228, (.iaload, 1, [])), (2229, (.aload_n 0, 1, [])), (2230, (.iload 4, 2, [])), (2232, (.iconst 2, 1, [])), (2233, (.iadd, 1, [])), (2234, (.iaload, 1, [])), (2235, (.aload_n 0, 1, [])), (2236, (.iload 4, 2, [])), (2238, (.iconst 3, 1, [])), (2239, (.iadd, 1, [])), (2240, (.iaload, 1, [])), (2241, (.invokevirtual 320, 3, [211, 1, 7165, 7166, 7167, 1008, 7168])), (2244, (.istore 6, 2, [])), (2246, (.goto 134, 3, [2380])), (2249, (.aload_n 1, 1, [])), (2250, (.aload_n 0, 1, [])), (2251, (.iload 4, 2, [])), (2253, (.iconst 1, 1, [])), (2254, (.iadd, 1, [])), (2255, (.iaload, 1, [])), (2256, (.aload_n 0, 1, [])), (2257, (.iload 4, 2, [])), (2259, (.iconst 2, 1, [])), (2260, (.iadd, 1, [])), (2261, (.iaload, 1, [])), (2262, (.aload_n 0, 1, [])), (2263, (.iload 4, 2, [])), (2265, (.iconst 3, 1, []))]
set_option maxRecDepth 100000 in
theorem sgd_35 : ((dm_c 329).drop 1400).take 40 = sg_35 := by decide +kernel
set_option maxRecDepth 100000 in
theorem sgp_35 : ((dm_c 329).take 1400).all (fun x => Nat.blt x.1 2211) = true := by decide +kernel
theorem la_2211 : dm_at 329 2211 = some (.iload 4, 2, []) := la_of sgp_35 rfl sgd_35 rfl
theorem la_2213 : dm_at 329 2213 = some (.iconst 3, 1, []) := la_of sgp_35 rfl sgd_35 rfl
theorem la_2214 : dm_at 329 2214 = some (.iadd, 1, []) := la_of sgp_35 rfl sgd_35 rfl
theorem la_2215 : dm_at 329 2215 = some (.iaload, 1, []) := la_of sgp_35 rfl sgd_35 rfl
theorem la_2216 : dm_at 329 2216 = some (.aload_n 3, 1, []) := la_of sgp_35 rfl sgd_35 rfl
theorem la_2217 : dm_at 329 2217 = some (.invokestatic 318, 3, [326, 0, 6007, 6008, 1000, 6009]) := la_of sgp_35 rfl sgd_35 rfl
theorem la_2220 : dm_at 329 2220 = some (.istore 5, 2, []) := la_of sgp_35 rfl sgd_35 rfl
theorem la_2222 : dm_at 329 2222 = some (.aload_n 2, 1, []) := la_of sgp_35 rfl sgd_35 rfl
theorem la_2223 : dm_at 329 2223 = some (.aload_n 0, 1, []) := la_of sgp_35 rfl sgd_35 rfl
theorem la_2224 : dm_at 329 2224 = some (.iload 4, 2, []) := la_of sgp_35 rfl sgd_35 rfl
theorem la_2226 : dm_at 329 2226 = some (.iconst 1, 1, []) := la_of sgp_35 rfl sgd_35 rfl
theorem la_2227 : dm_at 329 2227 = some (.iadd, 1, []) := la_of sgp_35 rfl sgd_35 rfl
theorem la_2228 : dm_at 329 2228 = some (.iaload, 1, []) := la_of sgp_35 rfl sgd_35 rfl
theorem la_2229 : dm_at 329 2229 = some (.aload_n 0, 1, []) := la_of sgp_35 rfl sgd_35 rfl
theorem la_2230 : dm_at 329 2230 = some (.iload 4, 2, []) := la_of sgp_35 rfl sgd_35 rfl
theorem la_2232 : dm_at 329 2232 = some (.iconst 2, 1, []) := la_of sgp_35 rfl sgd_35 rfl
theorem la_2233 : dm_at 329 2233 = some (.iadd, 1, []) := la_of sgp_35 rfl sgd_35 rfl
theorem la_2234 : dm_at 329 2234 = some (.iaload, 1, []) := la_of sgp_35 rfl sgd_35 rfl
theorem la_2235 : dm_at 329 2235 = some (.aload_n 0, 1, []) := la_of sgp_35 rfl sgd_35 rfl
theorem la_2236 : dm_at 329 2236 = some (.iload 4, 2, []) := la_of sgp_35 rfl sgd_35 rfl
theorem la_2238 : dm_at 329 2238 = some (.iconst 3, 1, []) := la_of sgp_35 rfl sgd_35 rfl
theorem la_2239 : dm_at 329 2239 = some (.iadd, 1, []) := la_of sgp_35 rfl sgd_35 rfl
theorem la_2240 : dm_at 329 2240 = some (.iaload, 1, []) := la_of sgp_35 rfl sgd_35 rfl
theorem la_2241 : dm_at 329 2241 = some (.invokevirtual 320, 3, [211, 1, 7165, 7166, 7167, 1008, 7168]) := la_of sgp_35 rfl sgd_35 rfl
theorem la_2244 : dm_at 329 2244 = some (.istore 6, 2, []) := la_of sgp_35 rfl sgd_35 rfl
theorem la_2246 : dm_at 329 2246 = some (.goto 134, 3, [2380]) := la_of sgp_35 rfl sgd_35 rfl
theorem la_2249 : dm_at 329 2249 = some (.aload_n 1, 1, []) := la_of sgp_35 rfl sgd_35 rfl
theorem la_2250 : dm_at 329 2250 = some (.aload_n 0, 1, []) := la_of sgp_35 rfl sgd_35 rfl
theorem la_2251 : dm_at 329 2251 = some (.iload 4, 2, []) := la_of sgp_35 rfl sgd_35 rfl
theorem la_2253 : dm_at 329 2253 = some (.iconst 1, 1, []) := la_of sgp_35 rfl sgd_35 rfl
theorem la_2254 : dm_at 329 2254 = some (.iadd, 1, []) := la_of sgp_35 rfl sgd_35 rfl
theorem la_2255 : dm_at 329 2255 = some (.iaload, 1, []) := la_of sgp_35 rfl sgd_35 rfl
theorem la_2256 : dm_at 329 2256 = some (.aload_n 0, 1, []) := la_of sgp_35 rfl sgd_35 rfl
theorem la_2257 : dm_at 329 2257 = some (.iload 4, 2, []) := la_of sgp_35 rfl sgd_35 rfl
theorem la_2259 : dm_at 329 2259 = some (.iconst 2, 1, []) := la_of sgp_35 rfl sgd_35 rfl
theorem la_2260 : dm_at 329 2260 = some (.iadd, 1, []) := la_of sgp_35 rfl sgd_35 rfl
theorem la_2261 : dm_at 329 2261 = some (.iaload, 1, []) := la_of sgp_35 rfl sgd_35 rfl
theorem la_2262 : dm_at 329 2262 = some (.aload_n 0, 1, []) := la_of sgp_35 rfl sgd_35 rfl
theorem la_2263 : dm_at 329 2263 = some (.iload 4, 2, []) := la_of sgp_35 rfl sgd_35 rfl
theorem la_2265 : dm_at 329 2265 = some (.iconst 3, 1, []) := la_of sgp_35 rfl sgd_35 rfl
set_option maxRecDepth 100000 in
def sg_36 : List (Nat × dm_I) := [(2266, (.iadd, 1, [])), (2267, (.iaload, 1, [])), (2268, (.aload_n 0, 1, [])), (2269, (.iload 4, 2, [])), (2271, (.iconst 4, 1, [])), (2272, (.iadd, 1, [])), (2273, (.iaload, 1, [])), (2274, (.aload_n 3, 1, [])), (2275, (.invokestatic 321, 3, [327, 0, 6015, 6016, 1000, 6017])), (2278, (.istore 5, 2, [])), (2280, (.aload_n 2, 1, [])), (2281, (.aload_n 0, 1, [])), (2282, (.iload 4, 2, [])), (2284, (.iconst 1, 1, [])), (2285, (.iadd, 1, [])), (2286, (.iaload, 1, [])), (2287, (.aload_n 0, 1, [])), (2288, (.iload 4, 2, [])), (2290, (.iconst 2, 1, [])), (2291, (.iadd, 1, [])), (2292, (.iaload, 1, [])), (2293, (.aload_n 0, 1, [])), (2294, (.iload 4, 2, [])), (2296, (.iconst 3, 1, [])), (2297, (.iadd, 1, [])), (2298, (.iaload, 1, [])), (2299, (.aload_n 0, 1, [])), (2300, (.iload 4, 2, [])), (2302, (.iconst 4, 1, [])), (2303, (.iadd, 1, [])), (2304, (.iaload, 1, [])), (2305, (.invokevirtual 323, 3, [212, 1, 7177, 7178, 7179, 1008, 7180])), (2308, (.istore 6, 2, [])), (2310, (.goto 70, 3, [2380])), (2313, (.aload_n 1, 1, [])), (2314, (.aload_n 0, 1, [])), (2315, (.iload 4, 2, [])), (2317, (.iconst 1, 1, [])), (2318, (.iadd, 1, [])), (2319, (.iaload, 1, []))]
set_option maxRecDepth 100000 in
theorem sgd_36 : ((dm_c 329).drop 1440).take 40 = sg_36 := by decide +kernel
set_option maxRecDepth 100000 in
theorem sgp_36 : ((dm_c 329).take 1440).all (fun x => Nat.blt x.1 2266) = true := by decide +kernel
theorem la_2266 : dm_at 329 2266 = some (.iadd, 1, []) := la_of sgp_36 rfl sgd_36 rfl
theorem la_2267 : dm_at 329 2267 = some (.iaload, 1, []) := la_of sgp_36 rfl sgd_36 rfl
theorem la_2268 : dm_at 329 2268 = some (.aload_n 0, 1, []) := la_of sgp_36 rfl sgd_36 rfl
theorem la_2269 : dm_at 329 2269 = some (.iload 4, 2, []) := la_of sgp_36 rfl sgd_36 rfl
theorem la_2271 : dm_at 329 2271 = some (.iconst 4, 1, []) := la_of sgp_36 rfl sgd_36 rfl
theorem la_2272 : dm_at 329 2272 = some (.iadd, 1, []) := la_of sgp_36 rfl sgd_36 rfl
theorem la_2273 : dm_at 329 2273 = some (.iaload, 1, []) := la_of sgp_36 rfl sgd_36 rfl
theorem la_2274 : dm_at 329 2274 = some (.aload_n 3, 1, []) := la_of sgp_36 rfl sgd_36 rfl
theorem la_2275 : dm_at 329 2275 = some (.invokestatic 321, 3, [327, 0, 6015, 6016, 1000, 6017]) := la_of sgp_36 rfl sgd_36 rfl
theorem la_2278 : dm_at 329 2278 = some (.istore 5, 2, []) := la_of sgp_36 rfl sgd_36 rfl
theorem la_2280 : dm_at 329 2280 = some (.aload_n 2, 1, []) := la_of sgp_36 rfl sgd_36 rfl
theorem la_2281 : dm_at 329 2281 = some (.aload_n 0, 1, []) := la_of sgp_36 rfl sgd_36 rfl
theorem la_2282 : dm_at 329 2282 = some (.iload 4, 2, []) := la_of sgp_36 rfl sgd_36 rfl
theorem la_2284 : dm_at 329 2284 = some (.iconst 1, 1, []) := la_of sgp_36 rfl sgd_36 rfl
theorem la_2285 : dm_at 329 2285 = some (.iadd, 1, []) := la_of sgp_36 rfl sgd_36 rfl
theorem la_2286 : dm_at 329 2286 = some (.iaload, 1, []) := la_of sgp_36 rfl sgd_36 rfl
theorem la_2287 : dm_at 329 2287 = some (.aload_n 0, 1, []) := la_of sgp_36 rfl sgd_36 rfl
theorem la_2288 : dm_at 329 2288 = some (.iload 4, 2, []) := la_of sgp_36 rfl sgd_36 rfl
theorem la_2290 : dm_at 329 2290 = some (.iconst 2, 1, []) := la_of sgp_36 rfl sgd_36 rfl
theorem la_2291 : dm_at 329 2291 = some (.iadd, 1, []) := la_of sgp_36 rfl sgd_36 rfl
theorem la_2292 : dm_at 329 2292 = some (.iaload, 1, []) := la_of sgp_36 rfl sgd_36 rfl
theorem la_2293 : dm_at 329 2293 = some (.aload_n 0, 1, []) := la_of sgp_36 rfl sgd_36 rfl
theorem la_2294 : dm_at 329 2294 = some (.iload 4, 2, []) := la_of sgp_36 rfl sgd_36 rfl
theorem la_2296 : dm_at 329 2296 = some (.iconst 3, 1, []) := la_of sgp_36 rfl sgd_36 rfl
theorem la_2297 : dm_at 329 2297 = some (.iadd, 1, []) := la_of sgp_36 rfl sgd_36 rfl
theorem la_2298 : dm_at 329 2298 = some (.iaload, 1, []) := la_of sgp_36 rfl sgd_36 rfl
theorem la_2299 : dm_at 329 2299 = some (.aload_n 0, 1, []) := la_of sgp_36 rfl sgd_36 rfl
theorem la_2300 : dm_at 329 2300 = some (.iload 4, 2, []) := la_of sgp_36 rfl sgd_36 rfl
theorem la_2302 : dm_at 329 2302 = some (.iconst 4, 1, []) := la_of sgp_36 rfl sgd_36 rfl
theorem la_2303 : dm_at 329 2303 = some (.iadd, 1, []) := la_of sgp_36 rfl sgd_36 rfl
theorem la_2304 : dm_at 329 2304 = some (.iaload, 1, []) := la_of sgp_36 rfl sgd_36 rfl
theorem la_2305 : dm_at 329 2305 = some (.invokevirtual 323, 3, [212, 1, 7177, 7178, 7179, 1008, 7180]) := la_of sgp_36 rfl sgd_36 rfl
theorem la_2308 : dm_at 329 2308 = some (.istore 6, 2, []) := la_of sgp_36 rfl sgd_36 rfl
theorem la_2310 : dm_at 329 2310 = some (.goto 70, 3, [2380]) := la_of sgp_36 rfl sgd_36 rfl
theorem la_2313 : dm_at 329 2313 = some (.aload_n 1, 1, []) := la_of sgp_36 rfl sgd_36 rfl
theorem la_2314 : dm_at 329 2314 = some (.aload_n 0, 1, []) := la_of sgp_36 rfl sgd_36 rfl
theorem la_2315 : dm_at 329 2315 = some (.iload 4, 2, []) := la_of sgp_36 rfl sgd_36 rfl
theorem la_2317 : dm_at 329 2317 = some (.iconst 1, 1, []) := la_of sgp_36 rfl sgd_36 rfl
theorem la_2318 : dm_at 329 2318 = some (.iadd, 1, []) := la_of sgp_36 rfl sgd_36 rfl
theorem la_2319 : dm_at 329 2319 = some (.iaload, 1, []) := la_of sgp_36 rfl sgd_36 rfl
set_option maxRecDepth 100000 in
def sg_37 : List (Nat × dm_I) := [(2320, (.aload_n 3, 1, [])), (2321, (.invokestatic 324, 3, [328, 0, 6022, 6023, 1000, 6024])), (2324, (.istore 5, 2, [])), (2326, (.aload_n 2, 1, [])), (2327, (.aload_n 0, 1, [])), (2328, (.iload 4, 2, [])), (2330, (.iconst 1, 1, [])), (2331, (.iadd, 1, [])), (2332, (.iaload, 1, [])), (2333, (.invokevirtual 326, 3, [214, 1, 7181, 7182, 7183, 1008, 7184])), (2336, (.istore 6, 2, [])), (2338, (.goto 42, 3, [2380])), (2341, (.aload_n 1, 1, [])), (2342, (.invokevirtual 327, 3, [100, 1, 1183, 1184, 1185, 1001, 1186])), (2345, (.pop, 1, [])), (2346, (.aload_n 2, 1, [])), (2347, (.invokevirtual 330, 3, [215, 1, 7189, 7190, 7191, 1008, 7192])), (2350, (.pop, 1, [])), (2351, (.goto 29, 3, [2380])), (2354, (.aload_n 1, 1, [])), (2355, (.invokevirtual 331, 3, [101, 1, 1187, 1188, 1189, 1001, 1190])), (2358, (.pop, 1, [])), (2359, (.aload_n 2, 1, [])), (2360, (.invokevirtual 335, 3, [222, 1, 7193, 7194, 7195, 1008, 7196])), (2363, (.pop, 1, [])), (2364, (.goto 16, 3, [2380])), (2367, (.aload_n 1, 1, [])), (2368, (.invokevirtual 336, 3, [102, 1, 2110, 2111, 2112, 1001, 2113])), (2371, (.pop2, 1, [])), (2372, (.aload_n 2, 1, [])), (2373, (.invokevirtual 340, 3, [224, 1, 7218, 7219, 7220, 1008, 7221])), (2376, (.pop2, 1, [])), (2377, (.goto 3, 3, [2380])), (2380, (.iinc 4 6, 3, [])), (2383, (.goto (-2356), 3, [27])), (2386, (.iconst 1, 1, [])), (2387, (.ireturn, 1, []))]
set_option maxRecDepth 100000 in
theorem sgd_37 : ((dm_c 329).drop 1480).take 40 = sg_37 := by decide +kernel
set_option maxRecDepth 100000 in
theorem sgp_37 : ((dm_c 329).take 1480).all (fun x => Nat.blt x.1 2320) = true := by decide +kernel
theorem la_2320 : dm_at 329 2320 = some (.aload_n 3, 1, []) := la_of sgp_37 rfl sgd_37 rfl
theorem la_2321 : dm_at 329 2321 = some (.invokestatic 324, 3, [328, 0, 6022, 6023, 1000, 6024]) := la_of sgp_37 rfl sgd_37 rfl
theorem la_2324 : dm_at 329 2324 = some (.istore 5, 2, []) := la_of sgp_37 rfl sgd_37 rfl
theorem la_2326 : dm_at 329 2326 = some (.aload_n 2, 1, []) := la_of sgp_37 rfl sgd_37 rfl
theorem la_2327 : dm_at 329 2327 = some (.aload_n 0, 1, []) := la_of sgp_37 rfl sgd_37 rfl
theorem la_2328 : dm_at 329 2328 = some (.iload 4, 2, []) := la_of sgp_37 rfl sgd_37 rfl
theorem la_2330 : dm_at 329 2330 = some (.iconst 1, 1, []) := la_of sgp_37 rfl sgd_37 rfl
theorem la_2331 : dm_at 329 2331 = some (.iadd, 1, []) := la_of sgp_37 rfl sgd_37 rfl
theorem la_2332 : dm_at 329 2332 = some (.iaload, 1, []) := la_of sgp_37 rfl sgd_37 rfl
theorem la_2333 : dm_at 329 2333 = some (.invokevirtual 326, 3, [214, 1, 7181, 7182, 7183, 1008, 7184]) := la_of sgp_37 rfl sgd_37 rfl
theorem la_2336 : dm_at 329 2336 = some (.istore 6, 2, []) := la_of sgp_37 rfl sgd_37 rfl
theorem la_2338 : dm_at 329 2338 = some (.goto 42, 3, [2380]) := la_of sgp_37 rfl sgd_37 rfl
theorem la_2341 : dm_at 329 2341 = some (.aload_n 1, 1, []) := la_of sgp_37 rfl sgd_37 rfl
theorem la_2342 : dm_at 329 2342 = some (.invokevirtual 327, 3, [100, 1, 1183, 1184, 1185, 1001, 1186]) := la_of sgp_37 rfl sgd_37 rfl
theorem la_2345 : dm_at 329 2345 = some (.pop, 1, []) := la_of sgp_37 rfl sgd_37 rfl
theorem la_2346 : dm_at 329 2346 = some (.aload_n 2, 1, []) := la_of sgp_37 rfl sgd_37 rfl
theorem la_2347 : dm_at 329 2347 = some (.invokevirtual 330, 3, [215, 1, 7189, 7190, 7191, 1008, 7192]) := la_of sgp_37 rfl sgd_37 rfl
theorem la_2350 : dm_at 329 2350 = some (.pop, 1, []) := la_of sgp_37 rfl sgd_37 rfl
theorem la_2351 : dm_at 329 2351 = some (.goto 29, 3, [2380]) := la_of sgp_37 rfl sgd_37 rfl
theorem la_2354 : dm_at 329 2354 = some (.aload_n 1, 1, []) := la_of sgp_37 rfl sgd_37 rfl
theorem la_2355 : dm_at 329 2355 = some (.invokevirtual 331, 3, [101, 1, 1187, 1188, 1189, 1001, 1190]) := la_of sgp_37 rfl sgd_37 rfl
theorem la_2358 : dm_at 329 2358 = some (.pop, 1, []) := la_of sgp_37 rfl sgd_37 rfl
theorem la_2359 : dm_at 329 2359 = some (.aload_n 2, 1, []) := la_of sgp_37 rfl sgd_37 rfl
theorem la_2360 : dm_at 329 2360 = some (.invokevirtual 335, 3, [222, 1, 7193, 7194, 7195, 1008, 7196]) := la_of sgp_37 rfl sgd_37 rfl
theorem la_2363 : dm_at 329 2363 = some (.pop, 1, []) := la_of sgp_37 rfl sgd_37 rfl
theorem la_2364 : dm_at 329 2364 = some (.goto 16, 3, [2380]) := la_of sgp_37 rfl sgd_37 rfl
theorem la_2367 : dm_at 329 2367 = some (.aload_n 1, 1, []) := la_of sgp_37 rfl sgd_37 rfl
theorem la_2368 : dm_at 329 2368 = some (.invokevirtual 336, 3, [102, 1, 2110, 2111, 2112, 1001, 2113]) := la_of sgp_37 rfl sgd_37 rfl
theorem la_2371 : dm_at 329 2371 = some (.pop2, 1, []) := la_of sgp_37 rfl sgd_37 rfl
theorem la_2372 : dm_at 329 2372 = some (.aload_n 2, 1, []) := la_of sgp_37 rfl sgd_37 rfl
theorem la_2373 : dm_at 329 2373 = some (.invokevirtual 340, 3, [224, 1, 7218, 7219, 7220, 1008, 7221]) := la_of sgp_37 rfl sgd_37 rfl
theorem la_2376 : dm_at 329 2376 = some (.pop2, 1, []) := la_of sgp_37 rfl sgd_37 rfl
theorem la_2377 : dm_at 329 2377 = some (.goto 3, 3, [2380]) := la_of sgp_37 rfl sgd_37 rfl
theorem la_2380 : dm_at 329 2380 = some (.iinc 4 6, 3, []) := la_of sgp_37 rfl sgd_37 rfl
theorem la_2383 : dm_at 329 2383 = some (.goto (-2356), 3, [27]) := la_of sgp_37 rfl sgd_37 rfl
theorem la_2386 : dm_at 329 2386 = some (.iconst 1, 1, []) := la_of sgp_37 rfl sgd_37 rfl
theorem la_2387 : dm_at 329 2387 = some (.ireturn, 1, []) := la_of sgp_37 rfl sgd_37 rfl
