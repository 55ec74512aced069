set_option maxHeartbeats 4000000 in
set_option maxRecDepth 100000 in
theorem lw_c16 (l : Launch) (hl : l.stackTraces = false) {L : Nat} {xs : Nat → Int32} (hL : L ≤ 384) {kc : Int} {h : dm_H} {B : Int} {σ : St} {th : Int} (hI : Inv kc kc h) (hS : CSt B σ h) (hM : MSt kc th σ h) {i : Int} (hi0 : 0 ≤ i) (hi6 : i + 6 ≤ L) (hB : 6 * B ≤ 20 * i) {ce sl : Nat} (hce : ce + 1000 ≤ 1200128) (hsl : sl + 60000 ≤ 5501098) (K : lw_K l L xs i (ce + 1000) (sl + 60000)) : dm_W (lw_E L xs) lw_PL l 329 420 1200128 5501098 1145 [some (.retAddr 2), some (.ref 0), some (.ref 26), some (.ref 36), some (dI i), none, none] [] h ce sl := by
  obtain ⟨x1, x1a, x1b, x1e⟩ := sv_x xs (i + 1)
  obtain ⟨x2, x2a, x2b, x2e⟩ := sv_x xs (i + 2)
  refine di_aload_n la_1145 rfl ?_
  refine dr_aload_n la_1146 rfl (Or.inr (Or.inr ⟨_, rfl⟩)) ?_
  refine dr_iload la_1147 rfl ?_
  refine di_const la_1149 ?_
  refine di_iadd la_1150 ?_
  refine dr_xldE la_1151 (by omega) (by omega) hL x1e ?_
  refine dr_aload_n la_1152 rfl (Or.inr (Or.inr ⟨_, rfl⟩)) ?_
  refine dr_iload la_1153 rfl ?_
  refine di_const la_1155 ?_
  refine di_iadd la_1156 ?_
  refine dr_xldE la_1157 (by omega) (by omega) hL x2e ?_
  refine di_aload_n la_1158 rfl ?_
  refine dr_statH la_1159 rfl (by decide +kernel) rfl (t_L_partTake l hl hI hS (by omega) (a1 := x1) (by omega) (by omega) (a2 := x2) (by omega) (by omega)) (by decide) (by omega) (by omega) (Nat.le_of_ble_eq_true rfl) kQLN (kQL (fun h11 hI12 hF13 hS14 hq16 ho17 => ?_))
  have hM15 := MSt_FL hM hF13
  refine di_istore (ls2 := [some (.retAddr 2), some (.ref 0), some (.ref 26), some (.ref 36), some (dI i), some (dI (spPartTake σ x1 x2).1), none]) la_1162 rfl rfl ?_
  refine di_aload_n la_1164 rfl ?_
  refine dr_aload_n la_1165 rfl (Or.inr (Or.inr ⟨_, rfl⟩)) ?_
  refine dr_iload la_1166 rfl ?_
  refine di_const la_1168 ?_
  refine di_iadd la_1169 ?_
  refine dr_xldE la_1170 (by omega) (by omega) hL x1e ?_
  refine dr_aload_n la_1171 rfl (Or.inr (Or.inr ⟨_, rfl⟩)) ?_
  refine dr_iload la_1172 rfl ?_
  refine di_const la_1174 ?_
  refine di_iadd la_1175 ?_
  refine dr_xldE la_1176 (by omega) (by omega) hL x2e ?_
  obtain ⟨nic23, c23, -⟩ := hM15.1
  refine dr_virt la_1177 rfl rfl rfl c23 (n_X8_partTake l hl hI12 hM15 (a1 := x1) (by omega) (by omega) (a2 := x2) (by omega) (by omega) ) (by decide) (by omega) (by omega) (Nat.le_of_ble_eq_true rfl) kQM9N (kQM9 (fun a24 h18 hI19 hF20 hM22 a24a a24b a24e => ?_))
  have hS21 := CSt_FrM2 hS14 hF20
  refine di_istore (ls2 := [some (.retAddr 2), some (.ref 0), some (.ref 26), some (.ref 36), some (dI i), some (dI (spPartTake σ x1 x2).1), some (dI a24)]) la_1180 rfl rfl ?_
  refine dr_goto la_1182 rfl ?_
  refine dm_wk (ls2 := [some (.retAddr 2), some (.ref 0), some (.ref 26), some (.ref 36), some (dI i), none, none]) ⟨Or.inr rfl, Or.inr rfl, Or.inr rfl, Or.inr rfl, Or.inr rfl, Or.inl rfl, Or.inl rfl, trivial⟩ ?_
  refine dm_cew (ce2 := ce + 1000) (sl2 := sl + 60000) (by omega) (by omega) ?_
  exact K _ _ _ _ _ hI19 hS21 hM22 (by omega)
set_option maxHeartbeats 4000000 in
set_option maxRecDepth 100000 in
theorem lw_c17 (l : Launch) (hl : l.stackTraces = false) {L : Nat} {xs : Nat → Int32} (hL : L ≤ 384) {kc : Int} {h : dm_H} {B : Int} {σ : St} {th : Int} (hI : Inv kc kc h) (hS : CSt B σ h) (hM : MSt kc th σ h) {i : Int} (hi0 : 0 ≤ i) (hi6 : i + 6 ≤ L) (hB : 6 * B ≤ 20 * i) {ce sl : Nat} (hce : ce + 1000 ≤ 1200128) (hsl : sl + 60000 ≤ 5501098) (K : lw_K l L xs i (ce + 1000) (sl + 60000)) : dm_W (lw_E L xs) lw_PL l 329 420 1200128 5501098 1185 [some (.retAddr 2), some (.ref 0), some (.ref 26), some (.ref 36), some (dI i), none, none] [] h ce sl := by
  obtain ⟨x1, x1a, x1b, x1e⟩ := sv_x xs (i + 1)
  refine di_aload_n la_1185 rfl ?_
  refine dr_aload_n la_1186 rfl (Or.inr (Or.inr ⟨_, rfl⟩)) ?_
  refine dr_iload la_1187 rfl ?_
  refine di_const la_1189 ?_
  refine di_iadd la_1190 ?_
  refine dr_xldE la_1191 (by omega) (by omega) hL x1e ?_
  refine di_if_eq la_1192 rfl (by omega) (by omega) (fun cz11 => ?_) (fun cz11 => ?_)
  · skip
    refine di_const la_1199 ?_
    refine di_aload_n la_1200 rfl ?_
    refine dr_statH la_1201 rfl (by decide +kernel) rfl (t_L_partDraw l hl hI hS (by omega) (a1 := 0) (by omega) (by omega)) (by decide) (by omega) (by omega) (Nat.le_of_ble_eq_true rfl) kQLN (kQL (fun h12 hI13 hF14 hS15 hq17 ho18 => ?_))
    have hM16 := MSt_FL hM hF14
    refine di_istore (ls2 := [some (.retAddr 2), some (.ref 0), some (.ref 26), some (.ref 36), some (dI i), some (dI (spPartDraw σ 0).1), none]) la_1204 rfl rfl ?_
    refine di_aload_n la_1206 rfl ?_
    refine dr_aload_n la_1207 rfl (Or.inr (Or.inr ⟨_, rfl⟩)) ?_
    refine dr_iload la_1208 rfl ?_
    refine di_const la_1210 ?_
    refine di_iadd la_1211 ?_
    refine dr_xldE la_1212 (by omega) (by omega) hL x1e ?_
    refine di_if_eq la_1213 rfl (by omega) (by omega) (fun _ => ?_) (fun c9 => absurd cz11 c9)
    refine di_const la_1220 ?_
    obtain ⟨nic24, c24, -⟩ := hM16.1
    refine dr_virt la_1221 rfl rfl rfl c24 (n_X8_partDraw l hl hI13 hM16 (a1 := 0) (by omega) (by omega) ) (by decide) (by omega) (by omega) (Nat.le_of_ble_eq_true rfl) kQM9N (kQM9 (fun a25 h19 hI20 hF21 hM23 a25a a25b a25e => ?_))
    have hS22 := CSt_FrM2 hS15 hF21
    refine di_istore (ls2 := [some (.retAddr 2), some (.ref 0), some (.ref 26), some (.ref 36), some (dI i), some (dI (spPartDraw σ 0).1), some (dI a25)]) la_1224 rfl rfl ?_
    refine dr_goto la_1226 rfl ?_
    refine dm_wk (ls2 := [some (.retAddr 2), some (.ref 0), some (.ref 26), some (.ref 36), some (dI i), none, none]) ⟨Or.inr rfl, Or.inr rfl, Or.inr rfl, Or.inr rfl, Or.inr rfl, Or.inl rfl, Or.inl rfl, trivial⟩ ?_
    refine dm_cew (ce2 := ce + 1000) (sl2 := sl + 60000) (by omega) (by omega) ?_
    exact K _ _ _ _ _ hI20 hS22 hM23 (by omega)
  · skip
    refine di_const la_1195 ?_
    refine dr_goto la_1196 rfl ?_
    refine di_aload_n la_1200 rfl ?_
    refine dr_statH la_1201 rfl (by decide +kernel) rfl (t_L_partDraw l hl hI hS (by omega) (a1 := 1) (by omega) (by omega)) (by decide) (by omega) (by omega) (Nat.le_of_ble_eq_true rfl) kQLN (kQL (fun h26 hI27 hF28 hS29 hq31 ho32 => ?_))
    have hM30 := MSt_FL hM hF28
    refine di_istore (ls2 := [some (.retAddr 2), some (.ref 0), some (.ref 26), some (.ref 36), some (dI i), some (dI (spPartDraw σ 1).1), none]) la_1204 rfl rfl ?_
    refine di_aload_n la_1206 rfl ?_
    refine dr_aload_n la_1207 rfl (Or.inr (Or.inr ⟨_, rfl⟩)) ?_
    refine dr_iload la_1208 rfl ?_
    refine di_const la_1210 ?_
    refine di_iadd la_1211 ?_
    refine dr_xldE la_1212 (by omega) (by omega) hL x1e ?_
    refine di_if_eq la_1213 rfl (by omega) (by omega) (fun c9 => absurd c9 cz11) (fun _ => ?_)
    refine di_const la_1216 ?_
    refine dr_goto la_1217 rfl ?_
    obtain ⟨nic38, c38, -⟩ := hM30.1
    refine dr_virt la_1221 rfl rfl rfl c38 (n_X8_partDraw l hl hI27 hM30 (a1 := 1) (by omega) (by omega) ) (by decide) (by omega) (by omega) (Nat.le_of_ble_eq_true rfl) kQM9N (kQM9 (fun a39 h33 hI34 hF35 hM37 a39a a39b a39e => ?_))
    have hS36 := CSt_FrM2 hS29 hF35
    refine di_istore (ls2 := [some (.retAddr 2), some (.ref 0), some (.ref 26), some (.ref 36), some (dI i), some (dI (spPartDraw σ 1).1), some (dI a39)]) la_1224 rfl rfl ?_
    refine dr_goto la_1226 rfl ?_
    refine dm_wk (ls2 := [some (.retAddr 2), some (.ref 0), some (.ref 26), some (.ref 36), some (dI i), none, none]) ⟨Or.inr rfl, Or.inr rfl, Or.inr rfl, Or.inr rfl, Or.inr rfl, Or.inl rfl, Or.inl rfl, trivial⟩ ?_
    refine dm_cew (ce2 := ce + 1000) (sl2 := sl + 60000) (by omega) (by omega) ?_
    exact K _ _ _ _ _ hI34 hS36 hM37 (by omega)
set_option maxHeartbeats 4000000 in
set_option maxRecDepth 100000 in
theorem lw_c18 (l : Launch) (hl : l.stackTraces = false) {L : Nat} {xs : Nat → Int32} (hL : L ≤ 384) {kc : Int} {h : dm_H} {B : Int} {σ : St} {th : Int} (hI : Inv kc kc h) (hS : CSt B σ h) (hM : MSt kc th σ h) {i : Int} (hi0 : 0 ≤ i) (hi6 : i + 6 ≤ L) (hB : 6 * B ≤ 20 * i) {ce sl : Nat} (hce : ce + 1000 ≤ 1200128) (hsl : sl + 60000 ≤ 5501098) (K : lw_K l L xs i (ce + 1000) (sl + 60000)) : dm_W (lw_E L xs) lw_PL l 329 420 1200128 5501098 1229 [some (.retAddr 2), some (.ref 0), some (.ref 26), some (.ref 36), some (dI i), none, none] [] h ce sl := by
  refine di_aload_n la_1229 rfl ?_
  refine di_aload_n la_1230 rfl ?_
  refine dr_statH la_1231 rfl (by decide +kernel) rfl (t_L_partClear l hl hI hS (by omega) ) (by decide) (by omega) (by omega) (Nat.le_of_ble_eq_true rfl) kQLN (kQL (fun h11 hI12 hF13 hS14 hq16 ho17 => ?_))
  have hM15 := MSt_FL hM hF13
  refine di_istore (ls2 := [some (.retAddr 2), some (.ref 0), some (.ref 26), some (.ref 36), some (dI i), some (dI (spPartClear σ).1), none]) la_1234 rfl rfl ?_
  refine di_aload_n la_1236 rfl ?_
  obtain ⟨nic23, c23, -⟩ := hM15.1
  refine dr_virt la_1237 rfl rfl rfl c23 (n_X8_partClear l hl hI12 hM15  ) (by decide) (by omega) (by omega) (Nat.le_of_ble_eq_true rfl) kQM9N (kQM9 (fun a24 h18 hI19 hF20 hM22 a24a a24b a24e => ?_))
  have hS21 := CSt_FrM2 hS14 hF20
  refine di_istore (ls2 := [some (.retAddr 2), some (.ref 0), some (.ref 26), some (.ref 36), some (dI i), some (dI (spPartClear σ).1), some (dI a24)]) la_1240 rfl rfl ?_
  refine dr_goto la_1242 rfl ?_
  refine dm_wk (ls2 := [some (.retAddr 2), some (.ref 0), some (.ref 26), some (.ref 36), some (dI i), none, none]) ⟨Or.inr rfl, Or.inr rfl, Or.inr rfl, Or.inr rfl, Or.inr rfl, Or.inl rfl, Or.inl rfl, trivial⟩ ?_
  refine dm_cew (ce2 := ce + 1000) (sl2 := sl + 60000) (by omega) (by omega) ?_
  exact K _ _ _ _ _ hI19 hS21 hM22 (by omega)
set_option maxHeartbeats 4000000 in
set_option maxRecDepth 100000 in
theorem lw_c19 (l : Launch) (hl : l.stackTraces = false) {L : Nat} {xs : Nat → Int32} (hL : L ≤ 384) {kc : Int} {h : dm_H} {B : Int} {σ : St} {th : Int} (hI : Inv kc kc h) (hS : CSt B σ h) (hM : MSt kc th σ h) {i : Int} (hi0 : 0 ≤ i) (hi6 : i + 6 ≤ L) (hB : 6 * B ≤ 20 * i) {ce sl : Nat} (hce : ce + 1000 ≤ 1200128) (hsl : sl + 60000 ≤ 5501098) (K : lw_K l L xs i (ce + 1000) (sl + 60000)) : dm_W (lw_E L xs) lw_PL l 329 420 1200128 5501098 1245 [some (.retAddr 2), some (.ref 0), some (.ref 26), some (.ref 36), some (dI i), none, none] [] h ce sl := by
  obtain ⟨x1, x1a, x1b, x1e⟩ := sv_x xs (i + 1)
  refine di_aload_n la_1245 rfl ?_
  refine dr_aload_n la_1246 rfl (Or.inr (Or.inr ⟨_, rfl⟩)) ?_
  refine dr_iload la_1247 rfl ?_
  refine di_const la_1249 ?_
  refine di_iadd la_1250 ?_
  refine dr_xldE la_1251 (by omega) (by omega) hL x1e ?_
  refine di_aload_n la_1252 rfl ?_
  refine dr_statH la_1253 rfl (by decide +kernel) rfl (w_L_ofPart l hl hI (a1 := x1) (by omega) (by omega)) (by decide) (by omega) (by omega) (Nat.le_of_ble_eq_true rfl) kNSw (kISw (fun y16 h11 hI12 hF13 y16f y16a y16b => ?_))
  clear y16f
  have hS14 := CSt_FW hS hF13
  have hM15 := MSt_FW hM hF13
  refine di_istore (ls2 := [some (.retAddr 2), some (.ref 0), some (.ref 26), some (.ref 36), some (dI i), some (dI y16), none]) la_1256 rfl rfl ?_
  refine di_aload_n la_1258 rfl ?_
  refine dr_aload_n la_1259 rfl (Or.inr (Or.inr ⟨_, rfl⟩)) ?_
  refine dr_iload la_1260 rfl ?_
  refine di_const la_1262 ?_
  refine di_iadd la_1263 ?_
  refine dr_xldE la_1264 (by omega) (by omega) hL x1e ?_
  obtain ⟨nic22, c22, -⟩ := hM15.1
  refine dr_virt la_1265 rfl rfl rfl c22 (w_X8_ofPart l hl hI12 (a1 := x1) (by omega) (by omega)) (by decide) (by omega) (by omega) (Nat.le_of_ble_eq_true rfl) kNSt (kISt (fun y23 h17 hI18 hF19 y23f y23a y23b => ?_))
  clear y23f
  have hS20 := CSt_FT hS14 hI12 hF19
  obtain ⟨th24, hM21⟩ := MSt_FT hM15 hI12 hI18 hF19
  refine di_istore (ls2 := [some (.retAddr 2), some (.ref 0), some (.ref 26), some (.ref 36), some (dI i), some (dI y16), some (dI y23)]) la_1268 rfl rfl ?_
  refine dr_goto la_1270 rfl ?_
  refine dm_wk (ls2 := [some (.retAddr 2), some (.ref 0), some (.ref 26), some (.ref 36), some (dI i), none, none]) ⟨Or.inr rfl, Or.inr rfl, Or.inr rfl, Or.inr rfl, Or.inr rfl, Or.inl rfl, Or.inl rfl, trivial⟩ ?_
  refine dm_cew (ce2 := ce + 1000) (sl2 := sl + 60000) (by omega) (by omega) ?_
  exact K _ _ _ _ _ hI18 hS20 hM21 (by omega)
set_option maxHeartbeats 4000000 in
set_option maxRecDepth 100000 in
theorem lw_c20 (l : Launch) (hl : l.stackTraces = false) {L : Nat} {xs : Nat → Int32} (hL : L ≤ 384) {kc : Int} {h : dm_H} {B : Int} {σ : St} {th : Int} (hI : Inv kc kc h) (hS : CSt B σ h) (hM : MSt kc th σ h) {i : Int} (hi0 : 0 ≤ i) (hi6 : i + 6 ≤ L) (hB : 6 * B ≤ 20 * i) {ce sl : Nat} (hce : ce + 1000 ≤ 1200128) (hsl : sl + 60000 ≤ 5501098) (K : lw_K l L xs i (ce + 1000) (sl + 60000)) : dm_W (lw_E L xs) lw_PL l 329 420 1200128 5501098 1273 [some (.retAddr 2), some (.ref 0), some (.ref 26), some (.ref 36), some (dI i), none, none] [] h ce sl := by
  refine di_aload_n la_1273 rfl ?_
  refine di_aload_n la_1274 rfl ?_
  refine dr_statH la_1275 rfl (by decide +kernel) rfl (w_L_partText l hl hI ) (by decide) (by omega) (by omega) (Nat.le_of_ble_eq_true rfl) kNSw (kISw (fun y16 h11 hI12 hF13 y16f y16a y16b => ?_))
  clear y16f
  have hS14 := CSt_FW hS hF13
  have hM15 := MSt_FW hM hF13
  refine di_istore (ls2 := [some (.retAddr 2), some (.ref 0), some (.ref 26), some (.ref 36), some (dI i), some (dI y16), none]) la_1278 rfl rfl ?_
  refine di_aload_n la_1280 rfl ?_
  obtain ⟨nic22, c22, -⟩ := hM15.1
  refine dr_virt la_1281 rfl rfl rfl c22 (w_X8_partText l hl hI12 ) (by decide) (by omega) (by omega) (Nat.le_of_ble_eq_true rfl) kNSt (kOSt (fun y23 h17 hI18 hF19 y23m => ?_))
  have hS20 := CSt_FT hS14 hI12 hF19
  obtain ⟨th24, hM21⟩ := MSt_FT hM15 hI12 hI18 hF19
  refine dr_astoreU la_1284 rfl y23m ?_
  show dm_W (lw_E L xs) lw_PL l 329 420 1200128 5501098 1286 [some (.retAddr 2), some (.ref 0), some (.ref 26), some (.ref 36), some (dI i), some (dI y16), some (y23)] [] h17 ((ce + 59) + 58) ((sl + 22030) + 22024)
  clear y23m
  refine dr_goto la_1286 rfl ?_
  refine dm_wk (ls2 := [some (.retAddr 2), some (.ref 0), some (.ref 26), some (.ref 36), some (dI i), none, none]) ⟨Or.inr rfl, Or.inr rfl, Or.inr rfl, Or.inr rfl, Or.inr rfl, Or.inl rfl, Or.inl rfl, trivial⟩ ?_
  refine dm_cew (ce2 := ce + 1000) (sl2 := sl + 60000) (by omega) (by omega) ?_
  exact K _ _ _ _ _ hI18 hS20 hM21 (by omega)
set_option maxHeartbeats 4000000 in
set_option maxRecDepth 100000 in
theorem lw_c21 (l : Launch) (hl : l.stackTraces = false) {L : Nat} {xs : Nat → Int32} (hL : L ≤ 384) {kc : Int} {h : dm_H} {B : Int} {σ : St} {th : Int} (hI : Inv kc kc h) (hS : CSt B σ h) (hM : MSt kc th σ h) {i : Int} (hi0 : 0 ≤ i) (hi6 : i + 6 ≤ L) (hB : 6 * B ≤ 20 * i) {ce sl : Nat} (hce : ce + 1000 ≤ 1200128) (hsl : sl + 60000 ≤ 5501098) (K : lw_K l L xs i (ce + 1000) (sl + 60000)) : dm_W (lw_E L xs) lw_PL l 329 420 1200128 5501098 1289 [some (.retAddr 2), some (.ref 0), some (.ref 26), some (.ref 36), some (dI i), none, none] [] h ce sl := by
  obtain ⟨x1, x1a, x1b, x1e⟩ := sv_x xs (i + 1)
  refine di_aload_n la_1289 rfl ?_
  refine dr_aload_n la_1290 rfl (Or.inr (Or.inr ⟨_, rfl⟩)) ?_
  refine dr_iload la_1291 rfl ?_
  refine di_const la_1293 ?_
  refine di_iadd la_1294 ?_
  refine dr_xldE la_1295 (by omega) (by omega) hL x1e ?_
  refine di_aload_n la_1296 rfl ?_
  refine dr_statH la_1297 rfl (by decide +kernel) rfl (t_L_hand l hl hI hS (by omega) (a1 := x1) (by omega) (by omega)) (by decide) (by omega) (by omega) (Nat.le_of_ble_eq_true rfl) kQLN (kQL (fun h11 hI12 hF13 hS14 hq16 ho17 => ?_))
  have hM15 := MSt_FL hM hF13
  refine di_istore (ls2 := [some (.retAddr 2), some (.ref 0), some (.ref 26), some (.ref 36), some (dI i), some (dI (spHand σ x1).1), none]) la_1300 rfl rfl ?_
  refine di_aload_n la_1302 rfl ?_
  refine dr_aload_n la_1303 rfl (Or.inr (Or.inr ⟨_, rfl⟩)) ?_
  refine dr_iload la_1304 rfl ?_
  refine di_const la_1306 ?_
  refine di_iadd la_1307 ?_
  refine dr_xldE la_1308 (by omega) (by omega) hL x1e ?_
  obtain ⟨nic23, c23, -⟩ := hM15.1
  refine dr_virt la_1309 rfl rfl rfl c23 (n_X8_hand l hl hI12 hM15 (a1 := x1) (by omega) (by omega) ) (by decide) (by omega) (by omega) (Nat.le_of_ble_eq_true rfl) kQM9N (kQM9 (fun a24 h18 hI19 hF20 hM22 a24a a24b a24e => ?_))
  have hS21 := CSt_FrM2 hS14 hF20
  refine di_istore (ls2 := [some (.retAddr 2), some (.ref 0), some (.ref 26), some (.ref 36), some (dI i), some (dI (spHand σ x1).1), some (dI a24)]) la_1312 rfl rfl ?_
  refine dr_goto la_1314 rfl ?_
  refine dm_wk (ls2 := [some (.retAddr 2), some (.ref 0), some (.ref 26), some (.ref 36), some (dI i), none, none]) ⟨Or.inr rfl, Or.inr rfl, Or.inr rfl, Or.inr rfl, Or.inr rfl, Or.inl rfl, Or.inl rfl, trivial⟩ ?_
  refine dm_cew (ce2 := ce + 1000) (sl2 := sl + 60000) (by omega) (by omega) ?_
  exact K _ _ _ _ _ hI19 hS21 hM22 (by omega)
set_option maxHeartbeats 4000000 in
set_option maxRecDepth 100000 in
theorem lw_c22 (l : Launch) (hl : l.stackTraces = false) {L : Nat} {xs : Nat → Int32} (hL : L ≤ 384) {kc : Int} {h : dm_H} {B : Int} {σ : St} {th : Int} (hI : Inv kc kc h) (hS : CSt B σ h) (hM : MSt kc th σ h) {i : Int} (hi0 : 0 ≤ i) (hi6 : i + 6 ≤ L) (hB : 6 * B ≤ 20 * i) {ce sl : Nat} (hce : ce + 1000 ≤ 1200128) (hsl : sl + 60000 ≤ 5501098) (K : lw_K l L xs i (ce + 1000) (sl + 60000)) : dm_W (lw_E L xs) lw_PL l 329 420 1200128 5501098 1317 [some (.retAddr 2), some (.ref 0), some (.ref 26), some (.ref 36), some (dI i), none, none] [] h ce sl := by
  refine di_aload_n la_1317 rfl ?_
  refine di_aload_n la_1318 rfl ?_
  refine dr_statH la_1319 rfl (by decide +kernel) rfl (t_L_next l hl hI hS (by omega) ) (by decide) (by omega) (by omega) (Nat.le_of_ble_eq_true rfl) kQLN (kQL (fun h11 hI12 hF13 hS14 hq16 ho17 => ?_))
  have hM15 := MSt_FL hM hF13
  refine di_istore (ls2 := [some (.retAddr 2), some (.ref 0), some (.ref 26), some (.ref 36), some (dI i), some (dI (spNext σ).1), none]) la_1322 rfl rfl ?_
  refine di_aload_n la_1324 rfl ?_
  obtain ⟨nic23, c23, -⟩ := hM15.1
  refine dr_virt la_1325 rfl rfl rfl c23 (n_X8_next l hl hI12 hM15  ) (by decide) (by omega) (by omega) (Nat.le_of_ble_eq_true rfl) kQM9N (kQM9 (fun a24 h18 hI19 hF20 hM22 a24a a24b a24e => ?_))
  have hS21 := CSt_FrM2 hS14 hF20
  refine di_istore (ls2 := [some (.retAddr 2), some (.ref 0), some (.ref 26), some (.ref 36), some (dI i), some (dI (spNext σ).1), some (dI a24)]) la_1328 rfl rfl ?_
  refine dr_goto la_1330 rfl ?_
  refine dm_wk (ls2 := [some (.retAddr 2), some (.ref 0), some (.ref 26), some (.ref 36), some (dI i), none, none]) ⟨Or.inr rfl, Or.inr rfl, Or.inr rfl, Or.inr rfl, Or.inr rfl, Or.inl rfl, Or.inl rfl, trivial⟩ ?_
  refine dm_cew (ce2 := ce + 1000) (sl2 := sl + 60000) (by omega) (by omega) ?_
  exact K _ _ _ _ _ hI19 hS21 hM22 (by omega)
set_option maxHeartbeats 4000000 in
set_option maxRecDepth 100000 in
theorem lw_c23 (l : Launch) (hl : l.stackTraces = false) {L : Nat} {xs : Nat → Int32} (hL : L ≤ 384) {kc : Int} {h : dm_H} {B : Int} {σ : St} {th : Int} (hI : Inv kc kc h) (hS : CSt B σ h) (hM : MSt kc th σ h) {i : Int} (hi0 : 0 ≤ i) (hi6 : i + 6 ≤ L) (hB : 6 * B ≤ 20 * i) {ce sl : Nat} (hce : ce + 1000 ≤ 1200128) (hsl : sl + 60000 ≤ 5501098) (K : lw_K l L xs i (ce + 1000) (sl + 60000)) : dm_W (lw_E L xs) lw_PL l 329 420 1200128 5501098 1333 [some (.retAddr 2), some (.ref 0), some (.ref 26), some (.ref 36), some (dI i), none, none] [] h ce sl := by
  obtain ⟨x1, x1a, x1b, x1e⟩ := sv_x xs (i + 1)
  refine di_aload_n la_1333 rfl ?_
  refine dr_aload_n la_1334 rfl (Or.inr (Or.inr ⟨_, rfl⟩)) ?_
  refine dr_iload la_1335 rfl ?_
  refine di_const la_1337 ?_
  refine di_iadd la_1338 ?_
  refine dr_xldE la_1339 (by omega) (by omega) hL x1e ?_
  refine di_aload_n la_1340 rfl ?_
  refine dr_statH la_1341 rfl (by decide +kernel) rfl (t_L_renote l hl hI hS (by omega) (a1 := x1) (by omega) (by omega)) (by decide) (by omega) (by omega) (Nat.le_of_ble_eq_true rfl) kQLN (kQL (fun h11 hI12 hF13 hS14 hq16 ho17 => ?_))
  have hM15 := MSt_FL hM hF13
  refine di_istore (ls2 := [some (.retAddr 2), some (.ref 0), some (.ref 26), some (.ref 36), some (dI i), some (dI (spRenote σ x1).1), none]) la_1344 rfl rfl ?_
  refine di_aload_n la_1346 rfl ?_
  refine dr_aload_n la_1347 rfl (Or.inr (Or.inr ⟨_, rfl⟩)) ?_
  refine dr_iload la_1348 rfl ?_
  refine di_const la_1350 ?_
  refine di_iadd la_1351 ?_
  refine dr_xldE la_1352 (by omega) (by omega) hL x1e ?_
  obtain ⟨nic23, c23, -⟩ := hM15.1
  refine dr_virt la_1353 rfl rfl rfl c23 (n_X8_renote l hl hI12 hM15 (a1 := x1) (by omega) (by omega) (CSt_hH hS)) (by decide) (by omega) (by omega) (Nat.le_of_ble_eq_true rfl) kQM9N (kQM9 (fun a24 h18 hI19 hF20 hM22 a24a a24b a24e => ?_))
  have hS21 := CSt_FrM2 hS14 hF20
  refine di_istore (ls2 := [some (.retAddr 2), some (.ref 0), some (.ref 26), some (.ref 36), some (dI i), some (dI (spRenote σ x1).1), some (dI a24)]) la_1356 rfl rfl ?_
  refine dr_goto la_1358 rfl ?_
  refine dm_wk (ls2 := [some (.retAddr 2), some (.ref 0), some (.ref 26), some (.ref 36), some (dI i), none, none]) ⟨Or.inr rfl, Or.inr rfl, Or.inr rfl, Or.inr rfl, Or.inr rfl, Or.inl rfl, Or.inl rfl, trivial⟩ ?_
  refine dm_cew (ce2 := ce + 1000) (sl2 := sl + 60000) (by omega) (by omega) ?_
  exact K _ _ _ _ _ hI19 hS21 hM22 (by omega)
set_option maxHeartbeats 4000000 in
set_option maxRecDepth 100000 in
theorem lw_c24 (l : Launch) (hl : l.stackTraces = false) {L : Nat} {xs : Nat → Int32} (hL : L ≤ 384) {kc : Int} {h : dm_H} {B : Int} {σ : St} {th : Int} (hI : Inv kc kc h) (hS : CSt B σ h) (hM : MSt kc th σ h) {i : Int} (hi0 : 0 ≤ i) (hi6 : i + 6 ≤ L) (hB : 6 * B ≤ 20 * i) {ce sl : Nat} (hce : ce + 1000 ≤ 1200128) (hsl : sl + 60000 ≤ 5501098) (K : lw_K l L xs i (ce + 1000) (sl + 60000)) : dm_W (lw_E L xs) lw_PL l 329 420 1200128 5501098 1361 [some (.retAddr 2), some (.ref 0), some (.ref 26), some (.ref 36), some (dI i), none, none] [] h ce sl := by
  refine di_aload_n la_1361 rfl ?_
  refine di_aload_n la_1362 rfl ?_
  refine dr_statH la_1363 rfl (by decide +kernel) rfl (t_L_takeOut l hl hI hS (by omega) ) (by decide) (by omega) (by omega) (Nat.le_of_ble_eq_true rfl) kQLN (kQL (fun h11 hI12 hF13 hS14 hq16 ho17 => ?_))
  have hM15 := MSt_FL hM hF13
  refine di_istore (ls2 := [some (.retAddr 2), some (.ref 0), some (.ref 26), some (.ref 36), some (dI i), some (dI (spTakeOut σ).1), none]) la_1366 rfl rfl ?_
  refine di_aload_n la_1368 rfl ?_
  obtain ⟨nic23, c23, -⟩ := hM15.1
  refine dr_virt la_1369 rfl rfl rfl c23 (n_X8_takeOut l hl hI12 hM15  (CSt_hH hS)) (by decide) (by omega) (by omega) (Nat.le_of_ble_eq_true rfl) kQM9N (kQM9 (fun a24 h18 hI19 hF20 hM22 a24a a24b a24e => ?_))
  have hS21 := CSt_FrM2 hS14 hF20
  refine di_istore (ls2 := [some (.retAddr 2), some (.ref 0), some (.ref 26), some (.ref 36), some (dI i), some (dI (spTakeOut σ).1), some (dI a24)]) la_1372 rfl rfl ?_
  refine dr_goto la_1374 rfl ?_
  refine dm_wk (ls2 := [some (.retAddr 2), some (.ref 0), some (.ref 26), some (.ref 36), some (dI i), none, none]) ⟨Or.inr rfl, Or.inr rfl, Or.inr rfl, Or.inr rfl, Or.inr rfl, Or.inl rfl, Or.inl rfl, trivial⟩ ?_
  refine dm_cew (ce2 := ce + 1000) (sl2 := sl + 60000) (by omega) (by omega) ?_
  exact K _ _ _ _ _ hI19 hS21 hM22 (by omega)
set_option maxHeartbeats 4000000 in
set_option maxRecDepth 100000 in
theorem lw_c25 (l : Launch) (hl : l.stackTraces = false) {L : Nat} {xs : Nat → Int32} (hL : L ≤ 384) {kc : Int} {h : dm_H} {B : Int} {σ : St} {th : Int} (hI : Inv kc kc h) (hS : CSt B σ h) (hM : MSt kc th σ h) {i : Int} (hi0 : 0 ≤ i) (hi6 : i + 6 ≤ L) (hB : 6 * B ≤ 20 * i) {ce sl : Nat} (hce : ce + 1000 ≤ 1200128) (hsl : sl + 60000 ≤ 5501098) (K : lw_K l L xs i (ce + 1000) (sl + 60000)) : dm_W (lw_E L xs) lw_PL l 329 420 1200128 5501098 1377 [some (.retAddr 2), some (.ref 0), some (.ref 26), some (.ref 36), some (dI i), none, none] [] h ce sl := by
  obtain ⟨x1, x1a, x1b, x1e⟩ := sv_x xs (i + 1)
  obtain ⟨x2, x2a, x2b, x2e⟩ := sv_x xs (i + 2)
  refine di_aload_n la_1377 rfl ?_
  refine dr_aload_n la_1378 rfl (Or.inr (Or.inr ⟨_, rfl⟩)) ?_
  refine dr_iload la_1379 rfl ?_
  refine di_const la_1381 ?_
  refine di_iadd la_1382 ?_
  refine dr_xldE la_1383 (by omega) (by omega) hL x1e ?_
  refine dr_aload_n la_1384 rfl (Or.inr (Or.inr ⟨_, rfl⟩)) ?_
  refine dr_iload la_1385 rfl ?_
  refine di_const la_1387 ?_
  refine di_iadd la_1388 ?_
  refine dr_xldE la_1389 (by omega) (by omega) hL x2e ?_
  refine di_aload_n la_1390 rfl ?_
  refine dr_statH la_1391 rfl (by decide +kernel) rfl (w_L_ofBook l hl hI (a1 := x1) (by omega) (by omega) (a2 := x2) (by omega) (by omega)) (by decide) (by omega) (by omega) (Nat.le_of_ble_eq_true rfl) kNSw (kISw (fun y16 h11 hI12 hF13 y16f y16a y16b => ?_))
  clear y16f
  have hS14 := CSt_FW hS hF13
  have hM15 := MSt_FW hM hF13
  refine di_istore (ls2 := [some (.retAddr 2), some (.ref 0), some (.ref 26), some (.ref 36), some (dI i), some (dI y16), none]) la_1394 rfl rfl ?_
  refine di_aload_n la_1396 rfl ?_
  refine dr_aload_n la_1397 rfl (Or.inr (Or.inr ⟨_, rfl⟩)) ?_
  refine dr_iload la_1398 rfl ?_
  refine di_const la_1400 ?_
  refine di_iadd la_1401 ?_
  refine dr_xldE la_1402 (by omega) (by omega) hL x1e ?_
  refine dr_aload_n la_1403 rfl (Or.inr (Or.inr ⟨_, rfl⟩)) ?_
  refine dr_iload la_1404 rfl ?_
  refine di_const la_1406 ?_
  refine di_iadd la_1407 ?_
  refine dr_xldE la_1408 (by omega) (by omega) hL x2e ?_
  obtain ⟨nic22, c22, -⟩ := hM15.1
  refine dr_virt la_1409 rfl rfl rfl c22 (w_X8_ofBook l hl hI12 (a1 := x1) (by omega) (by omega) (a2 := x2) (by omega) (by omega)) (by decide) (by omega) (by omega) (Nat.le_of_ble_eq_true rfl) kNSt (kISt (fun y23 h17 hI18 hF19 y23f y23a y23b => ?_))
  clear y23f
  have hS20 := CSt_FT hS14 hI12 hF19
  obtain ⟨th24, hM21⟩ := MSt_FT hM15 hI12 hI18 hF19
  refine di_istore (ls2 := [some (.retAddr 2), some (.ref 0), some (.ref 26), some (.ref 36), some (dI i), some (dI y16), some (dI y23)]) la_1412 rfl rfl ?_
  refine dr_goto la_1414 rfl ?_
  refine dm_wk (ls2 := [some (.retAddr 2), some (.ref 0), some (.ref 26), some (.ref 36), some (dI i), none, none]) ⟨Or.inr rfl, Or.inr rfl, Or.inr rfl, Or.inr rfl, Or.inr rfl, Or.inl rfl, Or.inl rfl, trivial⟩ ?_
  refine dm_cew (ce2 := ce + 1000) (sl2 := sl + 60000) (by omega) (by omega) ?_
  exact K _ _ _ _ _ hI18 hS20 hM21 (by omega)
set_option maxHeartbeats 4000000 in
set_option maxRecDepth 100000 in
theorem lw_c26 (l : Launch) (hl : l.stackTraces = false) {L : Nat} {xs : Nat → Int32} (hL : L ≤ 384) {kc : Int} {h : dm_H} {B : Int} {σ : St} {th : Int} (hI : Inv kc kc h) (hS : CSt B σ h) (hM : MSt kc th σ h) {i : Int} (hi0 : 0 ≤ i) (hi6 : i + 6 ≤ L) (hB : 6 * B ≤ 20 * i) {ce sl : Nat} (hce : ce + 1000 ≤ 1200128) (hsl : sl + 60000 ≤ 5501098) (K : lw_K l L xs i (ce + 1000) (sl + 60000)) : dm_W (lw_E L xs) lw_PL l 329 420 1200128 5501098 1417 [some (.retAddr 2), some (.ref 0), some (.ref 26), some (.ref 36), some (dI i), none, none] [] h ce sl := by
  obtain ⟨x1, x1a, x1b, x1e⟩ := sv_x xs (i + 1)
  obtain ⟨x2, x2a, x2b, x2e⟩ := sv_x xs (i + 2)
  obtain ⟨x3, x3a, x3b, x3e⟩ := sv_x xs (i + 3)
  obtain ⟨x4, x4a, x4b, x4e⟩ := sv_x xs (i + 4)
  refine di_aload_n la_1417 rfl ?_
  refine dr_aload_n la_1418 rfl (Or.inr (Or.inr ⟨_, rfl⟩)) ?_
  refine dr_iload la_1419 rfl ?_
  refine di_const la_1421 ?_
  refine di_iadd la_1422 ?_
  refine dr_xldE la_1423 (by omega) (by omega) hL x1e ?_
  refine dr_aload_n la_1424 rfl (Or.inr (Or.inr ⟨_, rfl⟩)) ?_
  refine dr_iload la_1425 rfl ?_
  refine di_const la_1427 ?_
  refine di_iadd la_1428 ?_
  refine dr_xldE la_1429 (by omega) (by omega) hL x2e ?_
  refine dr_aload_n la_1430 rfl (Or.inr (Or.inr ⟨_, rfl⟩)) ?_
  refine dr_iload la_1431 rfl ?_
  refine di_const la_1433 ?_
  refine di_iadd la_1434 ?_
  refine dr_xldE la_1435 (by omega) (by omega) hL x3e ?_
  refine dr_aload_n la_1436 rfl (Or.inr (Or.inr ⟨_, rfl⟩)) ?_
  refine dr_iload la_1437 rfl ?_
  refine di_const la_1439 ?_
  refine di_iadd la_1440 ?_
  refine dr_xldE la_1441 (by omega) (by omega) hL x4e ?_
  refine di_aload_n la_1442 rfl ?_
  refine dr_statH la_1443 rfl (by decide +kernel) rfl (w_L_noteOf l hl hI (a1 := x1) (by omega) (by omega) (a2 := x2) (by omega) (by omega) (a3 := x3) (by omega) (by omega) (a4 := x4) (by omega) (by omega)) (by decide) (by omega) (by omega) (Nat.le_of_ble_eq_true rfl) kNSw (kISw (fun y16 h11 hI12 hF13 y16f y16a y16b => ?_))
  clear y16f
  have hS14 := CSt_FW hS hF13
  have hM15 := MSt_FW hM hF13
  refine di_istore (ls2 := [some (.retAddr 2), some (.ref 0), some (.ref 26), some (.ref 36), some (dI i), some (dI y16), none]) la_1446 rfl rfl ?_
  refine di_aload_n la_1448 rfl ?_
  refine dr_aload_n la_1449 rfl (Or.inr (Or.inr ⟨_, rfl⟩)) ?_
  refine dr_iload la_1450 rfl ?_
  refine di_const la_1452 ?_
  refine di_iadd la_1453 ?_
  refine dr_xldE la_1454 (by omega) (by omega) hL x1e ?_
  refine dr_aload_n la_1455 rfl (Or.inr (Or.inr ⟨_, rfl⟩)) ?_
  refine dr_iload la_1456 rfl ?_
  refine di_const la_1458 ?_
  refine di_iadd la_1459 ?_
  refine dr_xldE la_1460 (by omega) (by omega) hL x2e ?_
  refine dr_aload_n la_1461 rfl (Or.inr (Or.inr ⟨_, rfl⟩)) ?_
  refine dr_iload la_1462 rfl ?_
  refine di_const la_1464 ?_
  refine di_iadd la_1465 ?_
  refine dr_xldE la_1466 (by omega) (by omega) hL x3e ?_
  refine dr_aload_n la_1467 rfl (Or.inr (Or.inr ⟨_, rfl⟩)) ?_
  refine dr_iload la_1468 rfl ?_
  refine di_const la_1470 ?_
  refine di_iadd la_1471 ?_
  refine dr_xldE la_1472 (by omega) (by omega) hL x4e ?_
  obtain ⟨nic22, c22, -⟩ := hM15.1
  refine dr_virt la_1473 rfl rfl rfl c22 (w_X8_noteOf l hl hI12 (a1 := x1) (by omega) (by omega) (a2 := x2) (by omega) (by omega) (a3 := x3) (by omega) (by omega) (a4 := x4) (by omega) (by omega)) (by decide) (by omega) (by omega) (Nat.le_of_ble_eq_true rfl) kNSt (kISt (fun y23 h17 hI18 hF19 y23f y23a y23b => ?_))
  clear y23f
  have hS20 := CSt_FT hS14 hI12 hF19
  obtain ⟨th24, hM21⟩ := MSt_FT hM15 hI12 hI18 hF19
  refine di_istore (ls2 := [some (.retAddr 2), some (.ref 0), some (.ref 26), some (.ref 36), some (dI i), some (dI y16), some (dI y23)]) la_1476 rfl rfl ?_
  refine dr_goto la_1478 rfl ?_
  refine dm_wk (ls2 := [some (.retAddr 2), some (.ref 0), some (.ref 26), some (.ref 36), some (dI i), none, none]) ⟨Or.inr rfl, Or.inr rfl, Or.inr rfl, Or.inr rfl, Or.inr rfl, Or.inl rfl, Or.inl rfl, trivial⟩ ?_
  refine dm_cew (ce2 := ce + 1000) (sl2 := sl + 60000) (by omega) (by omega) ?_
  exact K _ _ _ _ _ hI18 hS20 hM21 (by omega)
set_option maxHeartbeats 4000000 in
set_option maxRecDepth 100000 in
theorem lw_c27 (l : Launch) (hl : l.stackTraces = false) {L : Nat} {xs : Nat → Int32} (hL : L ≤ 384) {kc : Int} {h : dm_H} {B : Int} {σ : St} {th : Int} (hI : Inv kc kc h) (hS : CSt B σ h) (hM : MSt kc th σ h) {i : Int} (hi0 : 0 ≤ i) (hi6 : i + 6 ≤ L) (hB : 6 * B ≤ 20 * i) {ce sl : Nat} (hce : ce + 1000 ≤ 1200128) (hsl : sl + 60000 ≤ 5501098) (K : lw_K l L xs i (ce + 1000) (sl + 60000)) : dm_W (lw_E L xs) lw_PL l 329 420 1200128 5501098 1481 [some (.retAddr 2), some (.ref 0), some (.ref 26), some (.ref 36), some (dI i), none, none] [] h ce sl := by
  obtain ⟨x1, x1a, x1b, x1e⟩ := sv_x xs (i + 1)
  obtain ⟨x2, x2a, x2b, x2e⟩ := sv_x xs (i + 2)
  obtain ⟨x3, x3a, x3b, x3e⟩ := sv_x xs (i + 3)
  refine di_aload_n la_1481 rfl ?_
  refine dr_aload_n la_1482 rfl (Or.inr (Or.inr ⟨_, rfl⟩)) ?_
  refine dr_iload la_1483 rfl ?_
  refine di_const la_1485 ?_
  refine di_iadd la_1486 ?_
  refine dr_xldE la_1487 (by omega) (by omega) hL x1e ?_
  refine dr_aload_n la_1488 rfl (Or.inr (Or.inr ⟨_, rfl⟩)) ?_
  refine dr_iload la_1489 rfl ?_
  refine di_const la_1491 ?_
  refine di_iadd la_1492 ?_
  refine dr_xldE la_1493 (by omega) (by omega) hL x2e ?_
  refine dr_aload_n la_1494 rfl (Or.inr (Or.inr ⟨_, rfl⟩)) ?_
  refine dr_iload la_1495 rfl ?_
  refine di_const la_1497 ?_
  refine di_iadd la_1498 ?_
  refine dr_xldE la_1499 (by omega) (by omega) hL x3e ?_
  refine di_aload_n la_1500 rfl ?_
  refine dr_statH la_1501 rfl (by decide +kernel) rfl (w_L_has l hl hI (a1 := x1) (by omega) (by omega) (a2 := x2) (by omega) (by omega) (a3 := x3) (by omega) (by omega)) (by decide) (by omega) (by omega) (Nat.le_of_ble_eq_true rfl) kNSw (kISw (fun y16 h11 hI12 hF13 y16f y16a y16b => ?_))
  clear y16f
  have hS14 := CSt_FW hS hF13
  have hM15 := MSt_FW hM hF13
  refine di_istore (ls2 := [some (.retAddr 2), some (.ref 0), some (.ref 26), some (.ref 36), some (dI i), some (dI y16), none]) la_1504 rfl rfl ?_
  refine di_aload_n la_1506 rfl ?_
  refine dr_aload_n la_1507 rfl (Or.inr (Or.inr ⟨_, rfl⟩)) ?_
  refine dr_iload la_1508 rfl ?_
  refine di_const la_1510 ?_
  refine di_iadd la_1511 ?_
  refine dr_xldE la_1512 (by omega) (by omega) hL x1e ?_
  refine dr_aload_n la_1513 rfl (Or.inr (Or.inr ⟨_, rfl⟩)) ?_
  refine dr_iload la_1514 rfl ?_
  refine di_const la_1516 ?_
  refine di_iadd la_1517 ?_
  refine dr_xldE la_1518 (by omega) (by omega) hL x2e ?_
  refine dr_aload_n la_1519 rfl (Or.inr (Or.inr ⟨_, rfl⟩)) ?_
  refine dr_iload la_1520 rfl ?_
  refine di_const la_1522 ?_
  refine di_iadd la_1523 ?_
  refine dr_xldE la_1524 (by omega) (by omega) hL x3e ?_
  obtain ⟨nic22, c22, -⟩ := hM15.1
  refine dr_virt la_1525 rfl rfl rfl c22 (w_X8_has l hl hI12 (a1 := x1) (by omega) (by omega) (a2 := x2) (by omega) (by omega) (a3 := x3) (by omega) (by omega)) (by decide) (by omega) (by omega) (Nat.le_of_ble_eq_true rfl) kNSt (kISt (fun y23 h17 hI18 hF19 y23f y23a y23b => ?_))
  clear y23f
  have hS20 := CSt_FT hS14 hI12 hF19
  obtain ⟨th24, hM21⟩ := MSt_FT hM15 hI12 hI18 hF19
  refine di_istore (ls2 := [some (.retAddr 2), some (.ref 0), some (.ref 26), some (.ref 36), some (dI i), some (dI y16), some (dI y23)]) la_1528 rfl rfl ?_
  refine dr_goto la_1530 rfl ?_
  refine dm_wk (ls2 := [some (.retAddr 2), some (.ref 0), some (.ref 26), some (.ref 36), some (dI i), none, none]) ⟨Or.inr rfl, Or.inr rfl, Or.inr rfl, Or.inr rfl, Or.inr rfl, Or.inl rfl, Or.inl rfl, trivial⟩ ?_
  refine dm_cew (ce2 := ce + 1000) (sl2 := sl + 60000) (by omega) (by omega) ?_
  exact K _ _ _ _ _ hI18 hS20 hM21 (by omega)
set_option maxHeartbeats 4000000 in
set_option maxRecDepth 100000 in
theorem lw_c28 (l : Launch) (hl : l.stackTraces = false) {L : Nat} {xs : Nat → Int32} (hL : L ≤ 384) {kc : Int} {h : dm_H} {B : Int} {σ : St} {th : Int} (hI : Inv kc kc h) (hS : CSt B σ h) (hM : MSt kc th σ h) {i : Int} (hi0 : 0 ≤ i) (hi6 : i + 6 ≤ L) (hB : 6 * B ≤ 20 * i) {ce sl : Nat} (hce : ce + 1000 ≤ 1200128) (hsl : sl + 60000 ≤ 5501098) (K : lw_K l L xs i (ce + 1000) (sl + 60000)) : dm_W (lw_E L xs) lw_PL l 329 420 1200128 5501098 1533 [some (.retAddr 2), some (.ref 0), some (.ref 26), some (.ref 36), some (dI i), none, none] [] h ce sl := by
  obtain ⟨x1, x1a, x1b, x1e⟩ := sv_x xs (i + 1)
  obtain ⟨x2, x2a, x2b, x2e⟩ := sv_x xs (i + 2)
  refine di_aload_n la_1533 rfl ?_
  refine dr_aload_n la_1534 rfl (Or.inr (Or.inr ⟨_, rfl⟩)) ?_
  refine dr_iload la_1535 rfl ?_
  refine di_const la_1537 ?_
  refine di_iadd la_1538 ?_
  refine dr_xldE la_1539 (by omega) (by omega) hL x1e ?_
  refine dr_aload_n la_1540 rfl (Or.inr (Or.inr ⟨_, rfl⟩)) ?_
  refine dr_iload la_1541 rfl ?_
  refine di_const la_1543 ?_
  refine di_iadd la_1544 ?_
  refine dr_xldE la_1545 (by omega) (by omega) hL x2e ?_
  refine di_aload_n la_1546 rfl ?_
  refine dr_statH la_1547 rfl (by decide +kernel) rfl (w_L_hasNote l hl hI (a1 := x1) (by omega) (by omega) (a2 := x2) (by omega) (by omega)) (by decide) (by omega) (by omega) (Nat.le_of_ble_eq_true rfl) kNSw (kISw (fun y16 h11 hI12 hF13 y16f y16a y16b => ?_))
  clear y16f
  have hS14 := CSt_FW hS hF13
  have hM15 := MSt_FW hM hF13
  refine di_istore (ls2 := [some (.retAddr 2), some (.ref 0), some (.ref 26), some (.ref 36), some (dI i), some (dI y16), none]) la_1550 rfl rfl ?_
  refine di_aload_n la_1552 rfl ?_
  refine dr_aload_n la_1553 rfl (Or.inr (Or.inr ⟨_, rfl⟩)) ?_
  refine dr_iload la_1554 rfl ?_
  refine di_const la_1556 ?_
  refine di_iadd la_1557 ?_
  refine dr_xldE la_1558 (by omega) (by omega) hL x1e ?_
  refine dr_aload_n la_1559 rfl (Or.inr (Or.inr ⟨_, rfl⟩)) ?_
  refine dr_iload la_1560 rfl ?_
  refine di_const la_1562 ?_
  refine di_iadd la_1563 ?_
  refine dr_xldE la_1564 (by omega) (by omega) hL x2e ?_
  obtain ⟨nic22, c22, -⟩ := hM15.1
  refine dr_virt la_1565 rfl rfl rfl c22 (w_X8_hasNote l hl hI12 (a1 := x1) (by omega) (by omega) (a2 := x2) (by omega) (by omega)) (by decide) (by omega) (by omega) (Nat.le_of_ble_eq_true rfl) kNSt (kISt (fun y23 h17 hI18 hF19 y23f y23a y23b => ?_))
  clear y23f
  have hS20 := CSt_FT hS14 hI12 hF19
  obtain ⟨th24, hM21⟩ := MSt_FT hM15 hI12 hI18 hF19
  refine di_istore (ls2 := [some (.retAddr 2), some (.ref 0), some (.ref 26), some (.ref 36), some (dI i), some (dI y16), some (dI y23)]) la_1568 rfl rfl ?_
  refine dr_goto la_1570 rfl ?_
  refine dm_wk (ls2 := [some (.retAddr 2), some (.ref 0), some (.ref 26), some (.ref 36), some (dI i), none, none]) ⟨Or.inr rfl, Or.inr rfl, Or.inr rfl, Or.inr rfl, Or.inr rfl, Or.inl rfl, Or.inl rfl, trivial⟩ ?_
  refine dm_cew (ce2 := ce + 1000) (sl2 := sl + 60000) (by omega) (by omega) ?_
  exact K _ _ _ _ _ hI18 hS20 hM21 (by omega)
set_option maxHeartbeats 4000000 in
set_option maxRecDepth 100000 in
theorem lw_c29 (l : Launch) (hl : l.stackTraces = false) {L : Nat} {xs : Nat → Int32} (hL : L ≤ 384) {kc : Int} {h : dm_H} {B : Int} {σ : St} {th : Int} (hI : Inv kc kc h) (hS : CSt B σ h) (hM : MSt kc th σ h) {i : Int} (hi0 : 0 ≤ i) (hi6 : i + 6 ≤ L) (hB : 6 * B ≤ 20 * i) {ce sl : Nat} (hce : ce + 1000 ≤ 1200128) (hsl : sl + 60000 ≤ 5501098) (K : lw_K l L xs i (ce + 1000) (sl + 60000)) : dm_W (lw_E L xs) lw_PL l 329 420 1200128 5501098 1573 [some (.retAddr 2), some (.ref 0), some (.ref 26), some (.ref 36), some (dI i), none, none] [] h ce sl := by
  obtain ⟨x1, x1a, x1b, x1e⟩ := sv_x xs (i + 1)
  obtain ⟨x2, x2a, x2b, x2e⟩ := sv_x xs (i + 2)
  obtain ⟨x3, x3a, x3b, x3e⟩ := sv_x xs (i + 3)
  obtain ⟨x4, x4a, x4b, x4e⟩ := sv_x xs (i + 4)
  refine di_aload_n la_1573 rfl ?_
  refine dr_aload_n la_1574 rfl (Or.inr (Or.inr ⟨_, rfl⟩)) ?_
  refine dr_iload la_1575 rfl ?_
  refine di_const la_1577 ?_
  refine di_iadd la_1578 ?_
  refine dr_xldE la_1579 (by omega) (by omega) hL x1e ?_
  refine dr_aload_n la_1580 rfl (Or.inr (Or.inr ⟨_, rfl⟩)) ?_
  refine dr_iload la_1581 rfl ?_
  refine di_const la_1583 ?_
  refine di_iadd la_1584 ?_
  refine dr_xldE la_1585 (by omega) (by omega) hL x2e ?_
  refine dr_aload_n la_1586 rfl (Or.inr (Or.inr ⟨_, rfl⟩)) ?_
  refine dr_iload la_1587 rfl ?_
  refine di_const la_1589 ?_
  refine di_iadd la_1590 ?_
  refine dr_xldE la_1591 (by omega) (by omega) hL x3e ?_
  refine dr_aload_n la_1592 rfl (Or.inr (Or.inr ⟨_, rfl⟩)) ?_
  refine dr_iload la_1593 rfl ?_
  refine di_const la_1595 ?_
  refine di_iadd la_1596 ?_
  refine dr_xldE la_1597 (by omega) (by omega) hL x4e ?_
  refine di_aload_n la_1598 rfl ?_
  refine dr_statH la_1599 rfl (by decide +kernel) rfl (w_L_near l hl hI (a1 := x1) (by omega) (by omega) (a2 := x2) (by omega) (by omega) (a3 := x3) (by omega) (by omega) (a4 := x4) (by omega) (by omega)) (by decide) (by omega) (by omega) (Nat.le_of_ble_eq_true rfl) kNSw (kISw (fun y16 h11 hI12 hF13 y16f y16a y16b => ?_))
  clear y16f
  have hS14 := CSt_FW hS hF13
  have hM15 := MSt_FW hM hF13
  refine di_istore (ls2 := [some (.retAddr 2), some (.ref 0), some (.ref 26), some (.ref 36), some (dI i), some (dI y16), none]) la_1602 rfl rfl ?_
  refine di_aload_n la_1604 rfl ?_
  refine dr_aload_n la_1605 rfl (Or.inr (Or.inr ⟨_, rfl⟩)) ?_
  refine dr_iload la_1606 rfl ?_
  refine di_const la_1608 ?_
  refine di_iadd la_1609 ?_
  refine dr_xldE la_1610 (by omega) (by omega) hL x1e ?_
  refine dr_aload_n la_1611 rfl (Or.inr (Or.inr ⟨_, rfl⟩)) ?_
  refine dr_iload la_1612 rfl ?_
  refine di_const la_1614 ?_
  refine di_iadd la_1615 ?_
  refine dr_xldE la_1616 (by omega) (by omega) hL x2e ?_
  refine dr_aload_n la_1617 rfl (Or.inr (Or.inr ⟨_, rfl⟩)) ?_
  refine dr_iload la_1618 rfl ?_
  refine di_const la_1620 ?_
  refine di_iadd la_1621 ?_
  refine dr_xldE la_1622 (by omega) (by omega) hL x3e ?_
  refine dr_aload_n la_1623 rfl (Or.inr (Or.inr ⟨_, rfl⟩)) ?_
  refine dr_iload la_1624 rfl ?_
  refine di_const la_1626 ?_
  refine di_iadd la_1627 ?_
  refine dr_xldE la_1628 (by omega) (by omega) hL x4e ?_
  obtain ⟨nic22, c22, -⟩ := hM15.1
  refine dr_virt la_1629 rfl rfl rfl c22 (w_X8_near l hl hI12 (a1 := x1) (by omega) (by omega) (a2 := x2) (by omega) (by omega) (a3 := x3) (by omega) (by omega) (a4 := x4) (by omega) (by omega)) (by decide) (by omega) (by omega) (Nat.le_of_ble_eq_true rfl) kNSt (kISt (fun y23 h17 hI18 hF19 y23f y23a y23b => ?_))
  clear y23f
  have hS20 := CSt_FT hS14 hI12 hF19
  obtain ⟨th24, hM21⟩ := MSt_FT hM15 hI12 hI18 hF19
  refine di_istore (ls2 := [some (.retAddr 2), some (.ref 0), some (.ref 26), some (.ref 36), some (dI i), some (dI y16), some (dI y23)]) la_1632 rfl rfl ?_
  refine dr_goto la_1634 rfl ?_
  refine dm_wk (ls2 := [some (.retAddr 2), some (.ref 0), some (.ref 26), some (.ref 36), some (dI i), none, none]) ⟨Or.inr rfl, Or.inr rfl, Or.inr rfl, Or.inr rfl, Or.inr rfl, Or.inl rfl, Or.inl rfl, trivial⟩ ?_
  refine dm_cew (ce2 := ce + 1000) (sl2 := sl + 60000) (by omega) (by omega) ?_
  exact K _ _ _ _ _ hI18 hS20 hM21 (by omega)
set_option maxHeartbeats 4000000 in
set_option maxRecDepth 100000 in
theorem lw_c30 (l : Launch) (hl : l.stackTraces = false) {L : Nat} {xs : Nat → Int32} (hL : L ≤ 384) {kc : Int} {h : dm_H} {B : Int} {σ : St} {th : Int} (hI : Inv kc kc h) (hS : CSt B σ h) (hM : MSt kc th σ h) {i : Int} (hi0 : 0 ≤ i) (hi6 : i + 6 ≤ L) (hB : 6 * B ≤ 20 * i) {ce sl : Nat} (hce : ce + 1000 ≤ 1200128) (hsl : sl + 60000 ≤ 5501098) (K : lw_K l L xs i (ce + 1000) (sl + 60000)) : dm_W (lw_E L xs) lw_PL l 329 420 1200128 5501098 1637 [some (.retAddr 2), some (.ref 0), some (.ref 26), some (.ref 36), some (dI i), none, none] [] h ce sl := by
  obtain ⟨x1, x1a, x1b, x1e⟩ := sv_x xs (i + 1)
  obtain ⟨x2, x2a, x2b, x2e⟩ := sv_x xs (i + 2)
  obtain ⟨x3, x3a, x3b, x3e⟩ := sv_x xs (i + 3)
  obtain ⟨x4, x4a, x4b, x4e⟩ := sv_x xs (i + 4)
  refine di_aload_n la_1637 rfl ?_
  refine dr_aload_n la_1638 rfl (Or.inr (Or.inr ⟨_, rfl⟩)) ?_
  refine dr_iload la_1639 rfl ?_
  refine di_const la_1641 ?_
  refine di_iadd la_1642 ?_
  refine dr_xldE la_1643 (by omega) (by omega) hL x1e ?_
  refine dr_aload_n la_1644 rfl (Or.inr (Or.inr ⟨_, rfl⟩)) ?_
  refine dr_iload la_1645 rfl ?_
  refine di_const la_1647 ?_
  refine di_iadd la_1648 ?_
  refine dr_xldE la_1649 (by omega) (by omega) hL x2e ?_
  refine dr_aload_n la_1650 rfl (Or.inr (Or.inr ⟨_, rfl⟩)) ?_
  refine dr_iload la_1651 rfl ?_
  refine di_const la_1653 ?_
  refine di_iadd la_1654 ?_
  refine dr_xldE la_1655 (by omega) (by omega) hL x3e ?_
  refine dr_aload_n la_1656 rfl (Or.inr (Or.inr ⟨_, rfl⟩)) ?_
  refine dr_iload la_1657 rfl ?_
  refine di_const la_1659 ?_
  refine di_iadd la_1660 ?_
  refine dr_xldE la_1661 (by omega) (by omega) hL x4e ?_
  refine di_aload_n la_1662 rfl ?_
  refine dr_statH la_1663 rfl (by decide +kernel) rfl (w_L_many l hl hI (a1 := x1) (by omega) (by omega) (a2 := x2) (by omega) (by omega) (a3 := x3) (by omega) (by omega) (a4 := x4) (by omega) (by omega)) (by decide) (by omega) (by omega) (Nat.le_of_ble_eq_true rfl) kNSw (kISw (fun y16 h11 hI12 hF13 y16f y16a y16b => ?_))
  clear y16f
  have hS14 := CSt_FW hS hF13
  have hM15 := MSt_FW hM hF13
  refine di_istore (ls2 := [some (.retAddr 2), some (.ref 0), some (.ref 26), some (.ref 36), some (dI i), some (dI y16), none]) la_1666 rfl rfl ?_
  refine di_aload_n la_1668 rfl ?_
  refine dr_aload_n la_1669 rfl (Or.inr (Or.inr ⟨_, rfl⟩)) ?_
  refine dr_iload la_1670 rfl ?_
  refine di_const la_1672 ?_
  refine di_iadd la_1673 ?_
  refine dr_xldE la_1674 (by omega) (by omega) hL x1e ?_
  refine dr_aload_n la_1675 rfl (Or.inr (Or.inr ⟨_, rfl⟩)) ?_
  refine dr_iload la_1676 rfl ?_
  refine di_const la_1678 ?_
  refine di_iadd la_1679 ?_
  refine dr_xldE la_1680 (by omega) (by omega) hL x2e ?_
  refine dr_aload_n la_1681 rfl (Or.inr (Or.inr ⟨_, rfl⟩)) ?_
  refine dr_iload la_1682 rfl ?_
  refine di_const la_1684 ?_
  refine di_iadd la_1685 ?_
  refine dr_xldE la_1686 (by omega) (by omega) hL x3e ?_
  refine dr_aload_n la_1687 rfl (Or.inr (Or.inr ⟨_, rfl⟩)) ?_
  refine dr_iload la_1688 rfl ?_
  refine di_const la_1690 ?_
  refine di_iadd la_1691 ?_
  refine dr_xldE la_1692 (by omega) (by omega) hL x4e ?_
  obtain ⟨nic22, c22, -⟩ := hM15.1
  refine dr_virt la_1693 rfl rfl rfl c22 (w_X8_many l hl hI12 (a1 := x1) (by omega) (by omega) (a2 := x2) (by omega) (by omega) (a3 := x3) (by omega) (by omega) (a4 := x4) (by omega) (by omega)) (by decide) (by omega) (by omega) (Nat.le_of_ble_eq_true rfl) kNSt (kISt (fun y23 h17 hI18 hF19 y23f y23a y23b => ?_))
  clear y23f
  have hS20 := CSt_FT hS14 hI12 hF19
  obtain ⟨th24, hM21⟩ := MSt_FT hM15 hI12 hI18 hF19
  refine di_istore (ls2 := [some (.retAddr 2), some (.ref 0), some (.ref 26), some (.ref 36), some (dI i), some (dI y16), some (dI y23)]) la_1696 rfl rfl ?_
  refine dr_goto la_1698 rfl ?_
  refine dm_wk (ls2 := [some (.retAddr 2), some (.ref 0), some (.ref 26), some (.ref 36), some (dI i), none, none]) ⟨Or.inr rfl, Or.inr rfl, Or.inr rfl, Or.inr rfl, Or.inr rfl, Or.inl rfl, Or.inl rfl, trivial⟩ ?_
  refine dm_cew (ce2 := ce + 1000) (sl2 := sl + 60000) (by omega) (by omega) ?_
  exact K _ _ _ _ _ hI18 hS20 hM21 (by omega)
set_option maxHeartbeats 4000000 in
set_option maxRecDepth 100000 in
theorem lw_c31 (l : Launch) (hl : l.stackTraces = false) {L : Nat} {xs : Nat → Int32} (hL : L ≤ 384) {kc : Int} {h : dm_H} {B : Int} {σ : St} {th : Int} (hI : Inv kc kc h) (hS : CSt B σ h) (hM : MSt kc th σ h) {i : Int} (hi0 : 0 ≤ i) (hi6 : i + 6 ≤ L) (hB : 6 * B ≤ 20 * i) {ce sl : Nat} (hce : ce + 1000 ≤ 1200128) (hsl : sl + 60000 ≤ 5501098) (K : lw_K l L xs i (ce + 1000) (sl + 60000)) : dm_W (lw_E L xs) lw_PL l 329 420 1200128 5501098 1701 [some (.retAddr 2), some (.ref 0), some (.ref 26), some (.ref 36), some (dI i), none, none] [] h ce sl := by
  obtain ⟨x1, x1a, x1b, x1e⟩ := sv_x xs (i + 1)
  obtain ⟨x2, x2a, x2b, x2e⟩ := sv_x xs (i + 2)
  obtain ⟨x3, x3a, x3b, x3e⟩ := sv_x xs (i + 3)
  obtain ⟨x4, x4a, x4b, x4e⟩ := sv_x xs (i + 4)
  obtain ⟨x5, x5a, x5b, x5e⟩ := sv_x xs (i + 5)
  refine di_aload_n la_1701 rfl ?_
  refine dr_aload_n la_1702 rfl (Or.inr (Or.inr ⟨_, rfl⟩)) ?_
  refine dr_iload la_1703 rfl ?_
  refine di_const la_1705 ?_
  refine di_iadd la_1706 ?_
  refine dr_xldE la_1707 (by omega) (by omega) hL x1e ?_
  refine dr_aload_n la_1708 rfl (Or.inr (Or.inr ⟨_, rfl⟩)) ?_
  refine dr_iload la_1709 rfl ?_
  refine di_const la_1711 ?_
  refine di_iadd la_1712 ?_
  refine dr_xldE la_1713 (by omega) (by omega) hL x2e ?_
  refine dr_aload_n la_1714 rfl (Or.inr (Or.inr ⟨_, rfl⟩)) ?_
  refine dr_iload la_1715 rfl ?_
  refine di_const la_1717 ?_
  refine di_iadd la_1718 ?_
  refine dr_xldE la_1719 (by omega) (by omega) hL x3e ?_
  refine dr_aload_n la_1720 rfl (Or.inr (Or.inr ⟨_, rfl⟩)) ?_
  refine dr_iload la_1721 rfl ?_
  refine di_const la_1723 ?_
  refine di_iadd la_1724 ?_
  refine dr_xldE la_1725 (by omega) (by omega) hL x4e ?_
  refine dr_aload_n la_1726 rfl (Or.inr (Or.inr ⟨_, rfl⟩)) ?_
  refine dr_iload la_1727 rfl ?_
  refine di_const la_1729 ?_
  refine di_iadd la_1730 ?_
  refine dr_xldE la_1731 (by omega) (by omega) hL x5e ?_
  refine di_aload_n la_1732 rfl ?_
  refine dr_statH la_1733 rfl (by decide +kernel) rfl (w_L_between l hl hI (a1 := x1) (by omega) (by omega) (a2 := x2) (by omega) (by omega) (a3 := x3) (by omega) (by omega) (a4 := x4) (by omega) (by omega) (a5 := x5) (by omega) (by omega)) (by decide) (by omega) (by omega) (Nat.le_of_ble_eq_true rfl) kNSw (kISw (fun y16 h11 hI12 hF13 y16f y16a y16b => ?_))
  clear y16f
  have hS14 := CSt_FW hS hF13
  have hM15 := MSt_FW hM hF13
  refine di_istore (ls2 := [some (.retAddr 2), some (.ref 0), some (.ref 26), some (.ref 36), some (dI i), some (dI y16), none]) la_1736 rfl rfl ?_
  refine di_aload_n la_1738 rfl ?_
  refine dr_aload_n la_1739 rfl (Or.inr (Or.inr ⟨_, rfl⟩)) ?_
  refine dr_iload la_1740 rfl ?_
  refine di_const la_1742 ?_
  refine di_iadd la_1743 ?_
  refine dr_xldE la_1744 (by omega) (by omega) hL x1e ?_
  refine dr_aload_n la_1745 rfl (Or.inr (Or.inr ⟨_, rfl⟩)) ?_
  refine dr_iload la_1746 rfl ?_
  refine di_const la_1748 ?_
  refine di_iadd la_1749 ?_
  refine dr_xldE la_1750 (by omega) (by omega) hL x2e ?_
  refine dr_aload_n la_1751 rfl (Or.inr (Or.inr ⟨_, rfl⟩)) ?_
  refine dr_iload la_1752 rfl ?_
  refine di_const la_1754 ?_
  refine di_iadd la_1755 ?_
  refine dr_xldE la_1756 (by omega) (by omega) hL x3e ?_
  refine dr_aload_n la_1757 rfl (Or.inr (Or.inr ⟨_, rfl⟩)) ?_
  refine dr_iload la_1758 rfl ?_
  refine di_const la_1760 ?_
  refine di_iadd la_1761 ?_
  refine dr_xldE la_1762 (by omega) (by omega) hL x4e ?_
  refine dr_aload_n la_1763 rfl (Or.inr (Or.inr ⟨_, rfl⟩)) ?_
  refine dr_iload la_1764 rfl ?_
  refine di_const la_1766 ?_
  refine di_iadd la_1767 ?_
  refine dr_xldE la_1768 (by omega) (by omega) hL x5e ?_
  obtain ⟨nic22, c22, -⟩ := hM15.1
  refine dr_virt la_1769 rfl rfl rfl c22 (w_X8_between l hl hI12 (a1 := x1) (by omega) (by omega) (a2 := x2) (by omega) (by omega) (a3 := x3) (by omega) (by omega) (a4 := x4) (by omega) (by omega) (a5 := x5) (by omega) (by omega)) (by decide) (by omega) (by omega) (Nat.le_of_ble_eq_true rfl) kNSt (kISt (fun y23 h17 hI18 hF19 y23f y23a y23b => ?_))
  clear y23f
  have hS20 := CSt_FT hS14 hI12 hF19
  obtain ⟨th24, hM21⟩ := MSt_FT hM15 hI12 hI18 hF19
  refine di_istore (ls2 := [some (.retAddr 2), some (.ref 0), some (.ref 26), some (.ref 36), some (dI i), some (dI y16), some (dI y23)]) la_1772 rfl rfl ?_
  refine dr_goto la_1774 rfl ?_
  refine dm_wk (ls2 := [some (.retAddr 2), some (.ref 0), some (.ref 26), some (.ref 36), some (dI i), none, none]) ⟨Or.inr rfl, Or.inr rfl, Or.inr rfl, Or.inr rfl, Or.inr rfl, Or.inl rfl, Or.inl rfl, trivial⟩ ?_
  refine dm_cew (ce2 := ce + 1000) (sl2 := sl + 60000) (by omega) (by omega) ?_
  exact K _ _ _ _ _ hI18 hS20 hM21 (by omega)
