set_option maxHeartbeats 4000000 in
set_option maxRecDepth 100000 in
theorem lw_c16 (l : Launch) (hl : l.stackTraces = false) {L : Nat} {xs : Nat → Int32} (hL : L ≤ 384) {kc : Int} {h : dm_H} {B : Int} {σ : St} {th : Int} (hI : Inv kc kc h) (hS : CSt B σ h) (hM : MSt kc th σ h) {i : Int} (hi0 : 0 ≤ i) (hi6 : i + 6 ≤ L) (hB : 6 * B ≤ 20 * i) {ce sl : Nat} (hce : ce + 2000 ≤ 1200128) (hsl : sl + 60000 ≤ 5501098) (K : lw_K l L xs i (ce + 2000) (sl + 60000)) : dm_W (lw_E L xs) lw_PL l 329 420 1200128 5501098 1116 [some (.retAddr 2), some (.ref 0), some (.ref 26), some (.ref 36), some (dI i), none, none] [] h ce sl := by
  obtain ⟨x1, x1a, x1b, x1e⟩ := sv_x xs (i + 1)
  obtain ⟨x2, x2a, x2b, x2e⟩ := sv_x xs (i + 2)
  refine di_aload_n la_1116 rfl ?_
  refine dr_aload_n la_1117 rfl (Or.inr (Or.inr ⟨_, rfl⟩)) ?_
  refine dr_iload la_1118 rfl ?_
  refine di_const la_1120 ?_
  refine di_iadd la_1121 ?_
  refine dr_xldE la_1122 (by omega) (by omega) hL x1e ?_
  refine dr_aload_n la_1123 rfl (Or.inr (Or.inr ⟨_, rfl⟩)) ?_
  refine dr_iload la_1124 rfl ?_
  refine di_const la_1126 ?_
  refine di_iadd la_1127 ?_
  refine dr_xldE la_1128 (by omega) (by omega) hL x2e ?_
  refine di_aload_n la_1129 rfl ?_
  refine dr_statH la_1130 rfl (by decide +kernel) rfl (t_L_partTake l hl hI hS (by omega) (a1 := x1) (by omega) (by omega) (a2 := x2) (by omega) (by omega)) (by decide) (by omega) (by omega) (Nat.le_of_ble_eq_true rfl) kQLN (kQL (fun h11 hI12 hF13 hS14 hq16 ho17 => ?_))
  have hM15 := MSt_FL hM hF13
  refine di_istore (ls2 := [some (.retAddr 2), some (.ref 0), some (.ref 26), some (.ref 36), some (dI i), some (dI (spPartTake σ x1 x2).1), none]) la_1133 rfl rfl ?_
  refine di_aload_n la_1135 rfl ?_
  refine dr_aload_n la_1136 rfl (Or.inr (Or.inr ⟨_, rfl⟩)) ?_
  refine dr_iload la_1137 rfl ?_
  refine di_const la_1139 ?_
  refine di_iadd la_1140 ?_
  refine dr_xldE la_1141 (by omega) (by omega) hL x1e ?_
  refine dr_aload_n la_1142 rfl (Or.inr (Or.inr ⟨_, rfl⟩)) ?_
  refine dr_iload la_1143 rfl ?_
  refine di_const la_1145 ?_
  refine di_iadd la_1146 ?_
  refine dr_xldE la_1147 (by omega) (by omega) hL x2e ?_
  obtain ⟨nic23, c23, -⟩ := hM15.1
  refine dr_virt la_1148 rfl rfl rfl c23 (n_X8_partTake l hl hI12 hM15 (a1 := x1) (by omega) (by omega) (a2 := x2) (by omega) (by omega) ) (by decide) (by omega) (by omega) (Nat.le_of_ble_eq_true rfl) kQM9N (kQM9 (fun a24 h18 hI19 hF20 hM22 a24a a24b a24e => ?_))
  have hS21 := CSt_FrM2 hS14 hF20
  refine di_istore (ls2 := [some (.retAddr 2), some (.ref 0), some (.ref 26), some (.ref 36), some (dI i), some (dI (spPartTake σ x1 x2).1), some (dI a24)]) la_1151 rfl rfl ?_
  refine dr_goto la_1153 rfl ?_
  refine dm_wk (ls2 := [some (.retAddr 2), some (.ref 0), some (.ref 26), some (.ref 36), some (dI i), none, none]) ⟨Or.inr rfl, Or.inr rfl, Or.inr rfl, Or.inr rfl, Or.inr rfl, Or.inl rfl, Or.inl rfl, trivial⟩ ?_
  refine dm_cew (ce2 := ce + 2000) (sl2 := sl + 60000) (by omega) (by omega) ?_
  exact K _ _ _ _ _ hI19 hS21 hM22 (by omega)
set_option maxHeartbeats 4000000 in
set_option maxRecDepth 100000 in
theorem lw_c17 (l : Launch) (hl : l.stackTraces = false) {L : Nat} {xs : Nat → Int32} (hL : L ≤ 384) {kc : Int} {h : dm_H} {B : Int} {σ : St} {th : Int} (hI : Inv kc kc h) (hS : CSt B σ h) (hM : MSt kc th σ h) {i : Int} (hi0 : 0 ≤ i) (hi6 : i + 6 ≤ L) (hB : 6 * B ≤ 20 * i) {ce sl : Nat} (hce : ce + 2000 ≤ 1200128) (hsl : sl + 60000 ≤ 5501098) (K : lw_K l L xs i (ce + 2000) (sl + 60000)) : dm_W (lw_E L xs) lw_PL l 329 420 1200128 5501098 1156 [some (.retAddr 2), some (.ref 0), some (.ref 26), some (.ref 36), some (dI i), none, none] [] h ce sl := by
  obtain ⟨x1, x1a, x1b, x1e⟩ := sv_x xs (i + 1)
  refine di_aload_n la_1156 rfl ?_
  refine dr_aload_n la_1157 rfl (Or.inr (Or.inr ⟨_, rfl⟩)) ?_
  refine dr_iload la_1158 rfl ?_
  refine di_const la_1160 ?_
  refine di_iadd la_1161 ?_
  refine dr_xldE la_1162 (by omega) (by omega) hL x1e ?_
  refine di_if_eq la_1163 rfl (by omega) (by omega) (fun cz11 => ?_) (fun cz11 => ?_)
  · skip
    refine di_const la_1170 ?_
    refine di_aload_n la_1171 rfl ?_
    refine dr_statH la_1172 rfl (by decide +kernel) rfl (t_L_partDraw l hl hI hS (by omega) (a1 := 0) (by omega) (by omega)) (by decide) (by omega) (by omega) (Nat.le_of_ble_eq_true rfl) kQLN (kQL (fun h12 hI13 hF14 hS15 hq17 ho18 => ?_))
    have hM16 := MSt_FL hM hF14
    refine di_istore (ls2 := [some (.retAddr 2), some (.ref 0), some (.ref 26), some (.ref 36), some (dI i), some (dI (spPartDraw σ 0).1), none]) la_1175 rfl rfl ?_
    refine di_aload_n la_1177 rfl ?_
    refine dr_aload_n la_1178 rfl (Or.inr (Or.inr ⟨_, rfl⟩)) ?_
    refine dr_iload la_1179 rfl ?_
    refine di_const la_1181 ?_
    refine di_iadd la_1182 ?_
    refine dr_xldE la_1183 (by omega) (by omega) hL x1e ?_
    refine di_if_eq la_1184 rfl (by omega) (by omega) (fun _ => ?_) (fun c9 => absurd cz11 c9)
    refine di_const la_1191 ?_
    obtain ⟨nic24, c24, -⟩ := hM16.1
    refine dr_virt la_1192 rfl rfl rfl c24 (n_X8_partDraw l hl hI13 hM16 (a1 := 0) (by omega) (by omega) ) (by decide) (by omega) (by omega) (Nat.le_of_ble_eq_true rfl) kQM9N (kQM9 (fun a25 h19 hI20 hF21 hM23 a25a a25b a25e => ?_))
    have hS22 := CSt_FrM2 hS15 hF21
    refine di_istore (ls2 := [some (.retAddr 2), some (.ref 0), some (.ref 26), some (.ref 36), some (dI i), some (dI (spPartDraw σ 0).1), some (dI a25)]) la_1195 rfl rfl ?_
    refine dr_goto la_1197 rfl ?_
    refine dm_wk (ls2 := [some (.retAddr 2), some (.ref 0), some (.ref 26), some (.ref 36), some (dI i), none, none]) ⟨Or.inr rfl, Or.inr rfl, Or.inr rfl, Or.inr rfl, Or.inr rfl, Or.inl rfl, Or.inl rfl, trivial⟩ ?_
    refine dm_cew (ce2 := ce + 2000) (sl2 := sl + 60000) (by omega) (by omega) ?_
    exact K _ _ _ _ _ hI20 hS22 hM23 (by omega)
  · skip
    refine di_const la_1166 ?_
    refine dr_goto la_1167 rfl ?_
    refine di_aload_n la_1171 rfl ?_
    refine dr_statH la_1172 rfl (by decide +kernel) rfl (t_L_partDraw l hl hI hS (by omega) (a1 := 1) (by omega) (by omega)) (by decide) (by omega) (by omega) (Nat.le_of_ble_eq_true rfl) kQLN (kQL (fun h26 hI27 hF28 hS29 hq31 ho32 => ?_))
    have hM30 := MSt_FL hM hF28
    refine di_istore (ls2 := [some (.retAddr 2), some (.ref 0), some (.ref 26), some (.ref 36), some (dI i), some (dI (spPartDraw σ 1).1), none]) la_1175 rfl rfl ?_
    refine di_aload_n la_1177 rfl ?_
    refine dr_aload_n la_1178 rfl (Or.inr (Or.inr ⟨_, rfl⟩)) ?_
    refine dr_iload la_1179 rfl ?_
    refine di_const la_1181 ?_
    refine di_iadd la_1182 ?_
    refine dr_xldE la_1183 (by omega) (by omega) hL x1e ?_
    refine di_if_eq la_1184 rfl (by omega) (by omega) (fun c9 => absurd c9 cz11) (fun _ => ?_)
    refine di_const la_1187 ?_
    refine dr_goto la_1188 rfl ?_
    obtain ⟨nic38, c38, -⟩ := hM30.1
    refine dr_virt la_1192 rfl rfl rfl c38 (n_X8_partDraw l hl hI27 hM30 (a1 := 1) (by omega) (by omega) ) (by decide) (by omega) (by omega) (Nat.le_of_ble_eq_true rfl) kQM9N (kQM9 (fun a39 h33 hI34 hF35 hM37 a39a a39b a39e => ?_))
    have hS36 := CSt_FrM2 hS29 hF35
    refine di_istore (ls2 := [some (.retAddr 2), some (.ref 0), some (.ref 26), some (.ref 36), some (dI i), some (dI (spPartDraw σ 1).1), some (dI a39)]) la_1195 rfl rfl ?_
    refine dr_goto la_1197 rfl ?_
    refine dm_wk (ls2 := [some (.retAddr 2), some (.ref 0), some (.ref 26), some (.ref 36), some (dI i), none, none]) ⟨Or.inr rfl, Or.inr rfl, Or.inr rfl, Or.inr rfl, Or.inr rfl, Or.inl rfl, Or.inl rfl, trivial⟩ ?_
    refine dm_cew (ce2 := ce + 2000) (sl2 := sl + 60000) (by omega) (by omega) ?_
    exact K _ _ _ _ _ hI34 hS36 hM37 (by omega)
set_option maxHeartbeats 4000000 in
set_option maxRecDepth 100000 in
theorem lw_c18 (l : Launch) (hl : l.stackTraces = false) {L : Nat} {xs : Nat → Int32} (hL : L ≤ 384) {kc : Int} {h : dm_H} {B : Int} {σ : St} {th : Int} (hI : Inv kc kc h) (hS : CSt B σ h) (hM : MSt kc th σ h) {i : Int} (hi0 : 0 ≤ i) (hi6 : i + 6 ≤ L) (hB : 6 * B ≤ 20 * i) {ce sl : Nat} (hce : ce + 2000 ≤ 1200128) (hsl : sl + 60000 ≤ 5501098) (K : lw_K l L xs i (ce + 2000) (sl + 60000)) : dm_W (lw_E L xs) lw_PL l 329 420 1200128 5501098 1200 [some (.retAddr 2), some (.ref 0), some (.ref 26), some (.ref 36), some (dI i), none, none] [] h ce sl := by
  refine di_aload_n la_1200 rfl ?_
  refine di_aload_n la_1201 rfl ?_
  refine dr_statH la_1202 rfl (by decide +kernel) rfl (t_L_partClear l hl hI hS (by omega) ) (by decide) (by omega) (by omega) (Nat.le_of_ble_eq_true rfl) kQLN (kQL (fun h11 hI12 hF13 hS14 hq16 ho17 => ?_))
  have hM15 := MSt_FL hM hF13
  refine di_istore (ls2 := [some (.retAddr 2), some (.ref 0), some (.ref 26), some (.ref 36), some (dI i), some (dI (spPartClear σ).1), none]) la_1205 rfl rfl ?_
  refine di_aload_n la_1207 rfl ?_
  obtain ⟨nic23, c23, -⟩ := hM15.1
  refine dr_virt la_1208 rfl rfl rfl c23 (n_X8_partClear l hl hI12 hM15  ) (by decide) (by omega) (by omega) (Nat.le_of_ble_eq_true rfl) kQM9N (kQM9 (fun a24 h18 hI19 hF20 hM22 a24a a24b a24e => ?_))
  have hS21 := CSt_FrM2 hS14 hF20
  refine di_istore (ls2 := [some (.retAddr 2), some (.ref 0), some (.ref 26), some (.ref 36), some (dI i), some (dI (spPartClear σ).1), some (dI a24)]) la_1211 rfl rfl ?_
  refine dr_goto la_1213 rfl ?_
  refine dm_wk (ls2 := [some (.retAddr 2), some (.ref 0), some (.ref 26), some (.ref 36), some (dI i), none, none]) ⟨Or.inr rfl, Or.inr rfl, Or.inr rfl, Or.inr rfl, Or.inr rfl, Or.inl rfl, Or.inl rfl, trivial⟩ ?_
  refine dm_cew (ce2 := ce + 2000) (sl2 := sl + 60000) (by omega) (by omega) ?_
  exact K _ _ _ _ _ hI19 hS21 hM22 (by omega)
set_option maxHeartbeats 4000000 in
set_option maxRecDepth 100000 in
theorem lw_c19 (l : Launch) (hl : l.stackTraces = false) {L : Nat} {xs : Nat → Int32} (hL : L ≤ 384) {kc : Int} {h : dm_H} {B : Int} {σ : St} {th : Int} (hI : Inv kc kc h) (hS : CSt B σ h) (hM : MSt kc th σ h) {i : Int} (hi0 : 0 ≤ i) (hi6 : i + 6 ≤ L) (hB : 6 * B ≤ 20 * i) {ce sl : Nat} (hce : ce + 2000 ≤ 1200128) (hsl : sl + 60000 ≤ 5501098) (K : lw_K l L xs i (ce + 2000) (sl + 60000)) : dm_W (lw_E L xs) lw_PL l 329 420 1200128 5501098 1216 [some (.retAddr 2), some (.ref 0), some (.ref 26), some (.ref 36), some (dI i), none, none] [] h ce sl := by
  obtain ⟨x1, x1a, x1b, x1e⟩ := sv_x xs (i + 1)
  refine di_aload_n la_1216 rfl ?_
  refine dr_aload_n la_1217 rfl (Or.inr (Or.inr ⟨_, rfl⟩)) ?_
  refine dr_iload la_1218 rfl ?_
  refine di_const la_1220 ?_
  refine di_iadd la_1221 ?_
  refine dr_xldE la_1222 (by omega) (by omega) hL x1e ?_
  refine di_aload_n la_1223 rfl ?_
  refine dr_statH la_1224 rfl (by decide +kernel) rfl (t_L_ofPart l hl hI hS (by omega) (a1 := x1) (by omega) (by omega)) (by decide) (by omega) (by omega) (Nat.le_of_ble_eq_true rfl) kQLN (kQL (fun h11 hI12 hF13 hS14 hq16 ho17 => ?_))
  have hM15 := MSt_FL hM hF13
  refine di_istore (ls2 := [some (.retAddr 2), some (.ref 0), some (.ref 26), some (.ref 36), some (dI i), some (dI (spOfPart σ x1).1), none]) la_1227 rfl rfl ?_
  refine di_aload_n la_1229 rfl ?_
  refine dr_aload_n la_1230 rfl (Or.inr (Or.inr ⟨_, rfl⟩)) ?_
  refine dr_iload la_1231 rfl ?_
  refine di_const la_1233 ?_
  refine di_iadd la_1234 ?_
  refine dr_xldE la_1235 (by omega) (by omega) hL x1e ?_
  obtain ⟨nic23, c23, -⟩ := hM15.1
  refine dr_virt la_1236 rfl rfl rfl c23 (n_X8_ofPart l hl hI12 hM15 (a1 := x1) (by omega) (by omega) ) (by decide) (by omega) (by omega) (Nat.le_of_ble_eq_true rfl) kQM9N (kQM9 (fun a24 h18 hI19 hF20 hM22 a24a a24b a24e => ?_))
  have hS21 := CSt_FrM2 hS14 hF20
  refine di_istore (ls2 := [some (.retAddr 2), some (.ref 0), some (.ref 26), some (.ref 36), some (dI i), some (dI (spOfPart σ x1).1), some (dI a24)]) la_1239 rfl rfl ?_
  refine dr_goto la_1241 rfl ?_
  refine dm_wk (ls2 := [some (.retAddr 2), some (.ref 0), some (.ref 26), some (.ref 36), some (dI i), none, none]) ⟨Or.inr rfl, Or.inr rfl, Or.inr rfl, Or.inr rfl, Or.inr rfl, Or.inl rfl, Or.inl rfl, trivial⟩ ?_
  refine dm_cew (ce2 := ce + 2000) (sl2 := sl + 60000) (by omega) (by omega) ?_
  exact K _ _ _ _ _ hI19 hS21 hM22 (by omega)
set_option maxHeartbeats 4000000 in
set_option maxRecDepth 100000 in
theorem lw_c20 (l : Launch) (hl : l.stackTraces = false) {L : Nat} {xs : Nat → Int32} (hL : L ≤ 384) {kc : Int} {h : dm_H} {B : Int} {σ : St} {th : Int} (hI : Inv kc kc h) (hS : CSt B σ h) (hM : MSt kc th σ h) {i : Int} (hi0 : 0 ≤ i) (hi6 : i + 6 ≤ L) (hB : 6 * B ≤ 20 * i) {ce sl : Nat} (hce : ce + 2000 ≤ 1200128) (hsl : sl + 60000 ≤ 5501098) (K : lw_K l L xs i (ce + 2000) (sl + 60000)) : dm_W (lw_E L xs) lw_PL l 329 420 1200128 5501098 1244 [some (.retAddr 2), some (.ref 0), some (.ref 26), some (.ref 36), some (dI i), none, none] [] h ce sl := by
  refine di_aload_n la_1244 rfl ?_
  refine di_aload_n la_1245 rfl ?_
  refine dr_statH la_1246 rfl (by decide +kernel) rfl (w_L_partText l hl hI ) (by decide) (by omega) (by omega) (Nat.le_of_ble_eq_true rfl) kNSw (kISw (fun y16 h11 hI12 hF13 y16f y16a y16b => ?_))
  clear y16f
  have hS14 := CSt_FW hS hF13
  have hM15 := MSt_FW hM hF13
  refine di_istore (ls2 := [some (.retAddr 2), some (.ref 0), some (.ref 26), some (.ref 36), some (dI i), some (dI y16), none]) la_1249 rfl rfl ?_
  refine di_aload_n la_1251 rfl ?_
  obtain ⟨nic22, c22, -⟩ := hM15.1
  refine dr_virt la_1252 rfl rfl rfl c22 (w_X8_partText l hl hI12 ) (by decide) (by omega) (by omega) (Nat.le_of_ble_eq_true rfl) kNSt (kOSt (fun y23 h17 hI18 hF19 y23m => ?_))
  have hS20 := CSt_FT hS14 hI12 hF19
  obtain ⟨th24, hM21⟩ := MSt_FT hM15 hI12 hI18 hF19
  refine dr_astoreU la_1255 rfl y23m ?_
  show dm_W (lw_E L xs) lw_PL l 329 420 1200128 5501098 1257 [some (.retAddr 2), some (.ref 0), some (.ref 26), some (.ref 36), some (dI i), some (dI y16), some (y23)] [] h17 ((ce + 59) + 58) ((sl + 22030) + 22024)
  clear y23m
  refine dr_goto la_1257 rfl ?_
  refine dm_wk (ls2 := [some (.retAddr 2), some (.ref 0), some (.ref 26), some (.ref 36), some (dI i), none, none]) ⟨Or.inr rfl, Or.inr rfl, Or.inr rfl, Or.inr rfl, Or.inr rfl, Or.inl rfl, Or.inl rfl, trivial⟩ ?_
  refine dm_cew (ce2 := ce + 2000) (sl2 := sl + 60000) (by omega) (by omega) ?_
  exact K _ _ _ _ _ hI18 hS20 hM21 (by omega)
set_option maxHeartbeats 4000000 in
set_option maxRecDepth 100000 in
theorem lw_c21 (l : Launch) (hl : l.stackTraces = false) {L : Nat} {xs : Nat → Int32} (hL : L ≤ 384) {kc : Int} {h : dm_H} {B : Int} {σ : St} {th : Int} (hI : Inv kc kc h) (hS : CSt B σ h) (hM : MSt kc th σ h) {i : Int} (hi0 : 0 ≤ i) (hi6 : i + 6 ≤ L) (hB : 6 * B ≤ 20 * i) {ce sl : Nat} (hce : ce + 2000 ≤ 1200128) (hsl : sl + 60000 ≤ 5501098) (K : lw_K l L xs i (ce + 2000) (sl + 60000)) : dm_W (lw_E L xs) lw_PL l 329 420 1200128 5501098 1260 [some (.retAddr 2), some (.ref 0), some (.ref 26), some (.ref 36), some (dI i), none, none] [] h ce sl := by
  obtain ⟨x1, x1a, x1b, x1e⟩ := sv_x xs (i + 1)
  refine di_aload_n la_1260 rfl ?_
  refine dr_aload_n la_1261 rfl (Or.inr (Or.inr ⟨_, rfl⟩)) ?_
  refine dr_iload la_1262 rfl ?_
  refine di_const la_1264 ?_
  refine di_iadd la_1265 ?_
  refine dr_xldE la_1266 (by omega) (by omega) hL x1e ?_
  refine di_aload_n la_1267 rfl ?_
  refine dr_statH la_1268 rfl (by decide +kernel) rfl (t_L_hand l hl hI hS (by omega) (a1 := x1) (by omega) (by omega)) (by decide) (by omega) (by omega) (Nat.le_of_ble_eq_true rfl) kQLN (kQL (fun h11 hI12 hF13 hS14 hq16 ho17 => ?_))
  have hM15 := MSt_FL hM hF13
  refine di_istore (ls2 := [some (.retAddr 2), some (.ref 0), some (.ref 26), some (.ref 36), some (dI i), some (dI (spHand σ x1).1), none]) la_1271 rfl rfl ?_
  refine di_aload_n la_1273 rfl ?_
  refine dr_aload_n la_1274 rfl (Or.inr (Or.inr ⟨_, rfl⟩)) ?_
  refine dr_iload la_1275 rfl ?_
  refine di_const la_1277 ?_
  refine di_iadd la_1278 ?_
  refine dr_xldE la_1279 (by omega) (by omega) hL x1e ?_
  obtain ⟨nic23, c23, -⟩ := hM15.1
  refine dr_virt la_1280 rfl rfl rfl c23 (n_X8_hand l hl hI12 hM15 (a1 := x1) (by omega) (by omega) ) (by decide) (by omega) (by omega) (Nat.le_of_ble_eq_true rfl) kQM9N (kQM9 (fun a24 h18 hI19 hF20 hM22 a24a a24b a24e => ?_))
  have hS21 := CSt_FrM2 hS14 hF20
  refine di_istore (ls2 := [some (.retAddr 2), some (.ref 0), some (.ref 26), some (.ref 36), some (dI i), some (dI (spHand σ x1).1), some (dI a24)]) la_1283 rfl rfl ?_
  refine dr_goto la_1285 rfl ?_
  refine dm_wk (ls2 := [some (.retAddr 2), some (.ref 0), some (.ref 26), some (.ref 36), some (dI i), none, none]) ⟨Or.inr rfl, Or.inr rfl, Or.inr rfl, Or.inr rfl, Or.inr rfl, Or.inl rfl, Or.inl rfl, trivial⟩ ?_
  refine dm_cew (ce2 := ce + 2000) (sl2 := sl + 60000) (by omega) (by omega) ?_
  exact K _ _ _ _ _ hI19 hS21 hM22 (by omega)
set_option maxHeartbeats 4000000 in
set_option maxRecDepth 100000 in
theorem lw_c22 (l : Launch) (hl : l.stackTraces = false) {L : Nat} {xs : Nat → Int32} (hL : L ≤ 384) {kc : Int} {h : dm_H} {B : Int} {σ : St} {th : Int} (hI : Inv kc kc h) (hS : CSt B σ h) (hM : MSt kc th σ h) {i : Int} (hi0 : 0 ≤ i) (hi6 : i + 6 ≤ L) (hB : 6 * B ≤ 20 * i) {ce sl : Nat} (hce : ce + 2000 ≤ 1200128) (hsl : sl + 60000 ≤ 5501098) (K : lw_K l L xs i (ce + 2000) (sl + 60000)) : dm_W (lw_E L xs) lw_PL l 329 420 1200128 5501098 1288 [some (.retAddr 2), some (.ref 0), some (.ref 26), some (.ref 36), some (dI i), none, none] [] h ce sl := by
  refine di_aload_n la_1288 rfl ?_
  refine di_aload_n la_1289 rfl ?_
  refine dr_statH la_1290 rfl (by decide +kernel) rfl (t_L_next l hl hI hS (by omega) ) (by decide) (by omega) (by omega) (Nat.le_of_ble_eq_true rfl) kQLN (kQL (fun h11 hI12 hF13 hS14 hq16 ho17 => ?_))
  have hM15 := MSt_FL hM hF13
  refine di_istore (ls2 := [some (.retAddr 2), some (.ref 0), some (.ref 26), some (.ref 36), some (dI i), some (dI (spNext σ).1), none]) la_1293 rfl rfl ?_
  refine di_aload_n la_1295 rfl ?_
  obtain ⟨nic23, c23, -⟩ := hM15.1
  refine dr_virt la_1296 rfl rfl rfl c23 (n_X8_next l hl hI12 hM15  ) (by decide) (by omega) (by omega) (Nat.le_of_ble_eq_true rfl) kQM9N (kQM9 (fun a24 h18 hI19 hF20 hM22 a24a a24b a24e => ?_))
  have hS21 := CSt_FrM2 hS14 hF20
  refine di_istore (ls2 := [some (.retAddr 2), some (.ref 0), some (.ref 26), some (.ref 36), some (dI i), some (dI (spNext σ).1), some (dI a24)]) la_1299 rfl rfl ?_
  refine dr_goto la_1301 rfl ?_
  refine dm_wk (ls2 := [some (.retAddr 2), some (.ref 0), some (.ref 26), some (.ref 36), some (dI i), none, none]) ⟨Or.inr rfl, Or.inr rfl, Or.inr rfl, Or.inr rfl, Or.inr rfl, Or.inl rfl, Or.inl rfl, trivial⟩ ?_
  refine dm_cew (ce2 := ce + 2000) (sl2 := sl + 60000) (by omega) (by omega) ?_
  exact K _ _ _ _ _ hI19 hS21 hM22 (by omega)
set_option maxHeartbeats 4000000 in
set_option maxRecDepth 100000 in
theorem lw_c23 (l : Launch) (hl : l.stackTraces = false) {L : Nat} {xs : Nat → Int32} (hL : L ≤ 384) {kc : Int} {h : dm_H} {B : Int} {σ : St} {th : Int} (hI : Inv kc kc h) (hS : CSt B σ h) (hM : MSt kc th σ h) {i : Int} (hi0 : 0 ≤ i) (hi6 : i + 6 ≤ L) (hB : 6 * B ≤ 20 * i) {ce sl : Nat} (hce : ce + 2000 ≤ 1200128) (hsl : sl + 60000 ≤ 5501098) (K : lw_K l L xs i (ce + 2000) (sl + 60000)) : dm_W (lw_E L xs) lw_PL l 329 420 1200128 5501098 1304 [some (.retAddr 2), some (.ref 0), some (.ref 26), some (.ref 36), some (dI i), none, none] [] h ce sl := by
  obtain ⟨x1, x1a, x1b, x1e⟩ := sv_x xs (i + 1)
  refine di_aload_n la_1304 rfl ?_
  refine dr_aload_n la_1305 rfl (Or.inr (Or.inr ⟨_, rfl⟩)) ?_
  refine dr_iload la_1306 rfl ?_
  refine di_const la_1308 ?_
  refine di_iadd la_1309 ?_
  refine dr_xldE la_1310 (by omega) (by omega) hL x1e ?_
  refine di_aload_n la_1311 rfl ?_
  refine dr_statH la_1312 rfl (by decide +kernel) rfl (t_L_renote l hl hI hS (by omega) (a1 := x1) (by omega) (by omega)) (by decide) (by omega) (by omega) (Nat.le_of_ble_eq_true rfl) kQLN (kQL (fun h11 hI12 hF13 hS14 hq16 ho17 => ?_))
  have hM15 := MSt_FL hM hF13
  refine di_istore (ls2 := [some (.retAddr 2), some (.ref 0), some (.ref 26), some (.ref 36), some (dI i), some (dI (spRenote σ x1).1), none]) la_1315 rfl rfl ?_
  refine di_aload_n la_1317 rfl ?_
  refine dr_aload_n la_1318 rfl (Or.inr (Or.inr ⟨_, rfl⟩)) ?_
  refine dr_iload la_1319 rfl ?_
  refine di_const la_1321 ?_
  refine di_iadd la_1322 ?_
  refine dr_xldE la_1323 (by omega) (by omega) hL x1e ?_
  obtain ⟨nic23, c23, -⟩ := hM15.1
  refine dr_virt la_1324 rfl rfl rfl c23 (n_X8_renote l hl hI12 hM15 (a1 := x1) (by omega) (by omega) (CSt_hH hS)) (by decide) (by omega) (by omega) (Nat.le_of_ble_eq_true rfl) kQM9N (kQM9 (fun a24 h18 hI19 hF20 hM22 a24a a24b a24e => ?_))
  have hS21 := CSt_FrM2 hS14 hF20
  refine di_istore (ls2 := [some (.retAddr 2), some (.ref 0), some (.ref 26), some (.ref 36), some (dI i), some (dI (spRenote σ x1).1), some (dI a24)]) la_1327 rfl rfl ?_
  refine dr_goto la_1329 rfl ?_
  refine dm_wk (ls2 := [some (.retAddr 2), some (.ref 0), some (.ref 26), some (.ref 36), some (dI i), none, none]) ⟨Or.inr rfl, Or.inr rfl, Or.inr rfl, Or.inr rfl, Or.inr rfl, Or.inl rfl, Or.inl rfl, trivial⟩ ?_
  refine dm_cew (ce2 := ce + 2000) (sl2 := sl + 60000) (by omega) (by omega) ?_
  exact K _ _ _ _ _ hI19 hS21 hM22 (by omega)
set_option maxHeartbeats 4000000 in
set_option maxRecDepth 100000 in
theorem lw_c24 (l : Launch) (hl : l.stackTraces = false) {L : Nat} {xs : Nat → Int32} (hL : L ≤ 384) {kc : Int} {h : dm_H} {B : Int} {σ : St} {th : Int} (hI : Inv kc kc h) (hS : CSt B σ h) (hM : MSt kc th σ h) {i : Int} (hi0 : 0 ≤ i) (hi6 : i + 6 ≤ L) (hB : 6 * B ≤ 20 * i) {ce sl : Nat} (hce : ce + 2000 ≤ 1200128) (hsl : sl + 60000 ≤ 5501098) (K : lw_K l L xs i (ce + 2000) (sl + 60000)) : dm_W (lw_E L xs) lw_PL l 329 420 1200128 5501098 1332 [some (.retAddr 2), some (.ref 0), some (.ref 26), some (.ref 36), some (dI i), none, none] [] h ce sl := by
  refine di_aload_n la_1332 rfl ?_
  refine di_aload_n la_1333 rfl ?_
  refine dr_statH la_1334 rfl (by decide +kernel) rfl (t_L_takeOut l hl hI hS (by omega) ) (by decide) (by omega) (by omega) (Nat.le_of_ble_eq_true rfl) kQLN (kQL (fun h11 hI12 hF13 hS14 hq16 ho17 => ?_))
  have hM15 := MSt_FL hM hF13
  refine di_istore (ls2 := [some (.retAddr 2), some (.ref 0), some (.ref 26), some (.ref 36), some (dI i), some (dI (spTakeOut σ).1), none]) la_1337 rfl rfl ?_
  refine di_aload_n la_1339 rfl ?_
  obtain ⟨nic23, c23, -⟩ := hM15.1
  refine dr_virt la_1340 rfl rfl rfl c23 (n_X8_takeOut l hl hI12 hM15  (CSt_hH hS)) (by decide) (by omega) (by omega) (Nat.le_of_ble_eq_true rfl) kQM9N (kQM9 (fun a24 h18 hI19 hF20 hM22 a24a a24b a24e => ?_))
  have hS21 := CSt_FrM2 hS14 hF20
  refine di_istore (ls2 := [some (.retAddr 2), some (.ref 0), some (.ref 26), some (.ref 36), some (dI i), some (dI (spTakeOut σ).1), some (dI a24)]) la_1343 rfl rfl ?_
  refine dr_goto la_1345 rfl ?_
  refine dm_wk (ls2 := [some (.retAddr 2), some (.ref 0), some (.ref 26), some (.ref 36), some (dI i), none, none]) ⟨Or.inr rfl, Or.inr rfl, Or.inr rfl, Or.inr rfl, Or.inr rfl, Or.inl rfl, Or.inl rfl, trivial⟩ ?_
  refine dm_cew (ce2 := ce + 2000) (sl2 := sl + 60000) (by omega) (by omega) ?_
  exact K _ _ _ _ _ hI19 hS21 hM22 (by omega)
set_option maxHeartbeats 4000000 in
set_option maxRecDepth 100000 in
theorem lw_c25 (l : Launch) (hl : l.stackTraces = false) {L : Nat} {xs : Nat → Int32} (hL : L ≤ 384) {kc : Int} {h : dm_H} {B : Int} {σ : St} {th : Int} (hI : Inv kc kc h) (hS : CSt B σ h) (hM : MSt kc th σ h) {i : Int} (hi0 : 0 ≤ i) (hi6 : i + 6 ≤ L) (hB : 6 * B ≤ 20 * i) {ce sl : Nat} (hce : ce + 2000 ≤ 1200128) (hsl : sl + 60000 ≤ 5501098) (K : lw_K l L xs i (ce + 2000) (sl + 60000)) : dm_W (lw_E L xs) lw_PL l 329 420 1200128 5501098 1348 [some (.retAddr 2), some (.ref 0), some (.ref 26), some (.ref 36), some (dI i), none, none] [] h ce sl := by
  obtain ⟨x1, x1a, x1b, x1e⟩ := sv_x xs (i + 1)
  obtain ⟨x2, x2a, x2b, x2e⟩ := sv_x xs (i + 2)
  refine di_aload_n la_1348 rfl ?_
  refine dr_aload_n la_1349 rfl (Or.inr (Or.inr ⟨_, rfl⟩)) ?_
  refine dr_iload la_1350 rfl ?_
  refine di_const la_1352 ?_
  refine di_iadd la_1353 ?_
  refine dr_xldE la_1354 (by omega) (by omega) hL x1e ?_
  refine dr_aload_n la_1355 rfl (Or.inr (Or.inr ⟨_, rfl⟩)) ?_
  refine dr_iload la_1356 rfl ?_
  refine di_const la_1358 ?_
  refine di_iadd la_1359 ?_
  refine dr_xldE la_1360 (by omega) (by omega) hL x2e ?_
  refine di_aload_n la_1361 rfl ?_
  refine dr_statH la_1362 rfl (by decide +kernel) rfl (t_L_ofBook l hl hI hS (by omega) (a1 := x1) (by omega) (by omega) (a2 := x2) (by omega) (by omega)) (by decide) (by omega) (by omega) (Nat.le_of_ble_eq_true rfl) kQLN (kQL (fun h11 hI12 hF13 hS14 hq16 ho17 => ?_))
  have hM15 := MSt_FL hM hF13
  refine di_istore (ls2 := [some (.retAddr 2), some (.ref 0), some (.ref 26), some (.ref 36), some (dI i), some (dI (spOfBook σ x1 x2).1), none]) la_1365 rfl rfl ?_
  refine di_aload_n la_1367 rfl ?_
  refine dr_aload_n la_1368 rfl (Or.inr (Or.inr ⟨_, rfl⟩)) ?_
  refine dr_iload la_1369 rfl ?_
  refine di_const la_1371 ?_
  refine di_iadd la_1372 ?_
  refine dr_xldE la_1373 (by omega) (by omega) hL x1e ?_
  refine dr_aload_n la_1374 rfl (Or.inr (Or.inr ⟨_, rfl⟩)) ?_
  refine dr_iload la_1375 rfl ?_
  refine di_const la_1377 ?_
  refine di_iadd la_1378 ?_
  refine dr_xldE la_1379 (by omega) (by omega) hL x2e ?_
  obtain ⟨nic23, c23, -⟩ := hM15.1
  refine dr_virt la_1380 rfl rfl rfl c23 (n_X8_ofBook l hl hI12 hM15 (a1 := x1) (by omega) (by omega) (a2 := x2) (by omega) (by omega) (CSt_sSt hS)) (by decide) (by omega) (by omega) (Nat.le_of_ble_eq_true rfl) kQM9N (kQM9 (fun a24 h18 hI19 hF20 hM22 a24a a24b a24e => ?_))
  have hS21 := CSt_FrM2 hS14 hF20
  refine di_istore (ls2 := [some (.retAddr 2), some (.ref 0), some (.ref 26), some (.ref 36), some (dI i), some (dI (spOfBook σ x1 x2).1), some (dI a24)]) la_1383 rfl rfl ?_
  refine dr_goto la_1385 rfl ?_
  refine dm_wk (ls2 := [some (.retAddr 2), some (.ref 0), some (.ref 26), some (.ref 36), some (dI i), none, none]) ⟨Or.inr rfl, Or.inr rfl, Or.inr rfl, Or.inr rfl, Or.inr rfl, Or.inl rfl, Or.inl rfl, trivial⟩ ?_
  refine dm_cew (ce2 := ce + 2000) (sl2 := sl + 60000) (by omega) (by omega) ?_
  exact K _ _ _ _ _ hI19 hS21 hM22 (by omega)
set_option maxHeartbeats 4000000 in
set_option maxRecDepth 100000 in
theorem lw_c26 (l : Launch) (hl : l.stackTraces = false) {L : Nat} {xs : Nat → Int32} (hL : L ≤ 384) {kc : Int} {h : dm_H} {B : Int} {σ : St} {th : Int} (hI : Inv kc kc h) (hS : CSt B σ h) (hM : MSt kc th σ h) {i : Int} (hi0 : 0 ≤ i) (hi6 : i + 6 ≤ L) (hB : 6 * B ≤ 20 * i) {ce sl : Nat} (hce : ce + 2000 ≤ 1200128) (hsl : sl + 60000 ≤ 5501098) (K : lw_K l L xs i (ce + 2000) (sl + 60000)) : dm_W (lw_E L xs) lw_PL l 329 420 1200128 5501098 1388 [some (.retAddr 2), some (.ref 0), some (.ref 26), some (.ref 36), some (dI i), none, none] [] h ce sl := by
  obtain ⟨x1, x1a, x1b, x1e⟩ := sv_x xs (i + 1)
  obtain ⟨x2, x2a, x2b, x2e⟩ := sv_x xs (i + 2)
  obtain ⟨x3, x3a, x3b, x3e⟩ := sv_x xs (i + 3)
  obtain ⟨x4, x4a, x4b, x4e⟩ := sv_x xs (i + 4)
  refine di_aload_n la_1388 rfl ?_
  refine dr_aload_n la_1389 rfl (Or.inr (Or.inr ⟨_, rfl⟩)) ?_
  refine dr_iload la_1390 rfl ?_
  refine di_const la_1392 ?_
  refine di_iadd la_1393 ?_
  refine dr_xldE la_1394 (by omega) (by omega) hL x1e ?_
  refine dr_aload_n la_1395 rfl (Or.inr (Or.inr ⟨_, rfl⟩)) ?_
  refine dr_iload la_1396 rfl ?_
  refine di_const la_1398 ?_
  refine di_iadd la_1399 ?_
  refine dr_xldE la_1400 (by omega) (by omega) hL x2e ?_
  refine dr_aload_n la_1401 rfl (Or.inr (Or.inr ⟨_, rfl⟩)) ?_
  refine dr_iload la_1402 rfl ?_
  refine di_const la_1404 ?_
  refine di_iadd la_1405 ?_
  refine dr_xldE la_1406 (by omega) (by omega) hL x3e ?_
  refine dr_aload_n la_1407 rfl (Or.inr (Or.inr ⟨_, rfl⟩)) ?_
  refine dr_iload la_1408 rfl ?_
  refine di_const la_1410 ?_
  refine di_iadd la_1411 ?_
  refine dr_xldE la_1412 (by omega) (by omega) hL x4e ?_
  refine di_aload_n la_1413 rfl ?_
  refine dr_statH la_1414 rfl (by decide +kernel) rfl (t_L_noteOf l hl hI hS (by omega) (a1 := x1) (by omega) (by omega) (a2 := x2) (by omega) (by omega) (a3 := x3) (by omega) (by omega) (a4 := x4) (by omega) (by omega)) (by decide) (by omega) (by omega) (Nat.le_of_ble_eq_true rfl) kQLN (kQL (fun h11 hI12 hF13 hS14 hq16 ho17 => ?_))
  have hM15 := MSt_FL hM hF13
  refine di_istore (ls2 := [some (.retAddr 2), some (.ref 0), some (.ref 26), some (.ref 36), some (dI i), some (dI (spNoteOf σ x1 x2 x3 x4).1), none]) la_1417 rfl rfl ?_
  refine di_aload_n la_1419 rfl ?_
  refine dr_aload_n la_1420 rfl (Or.inr (Or.inr ⟨_, rfl⟩)) ?_
  refine dr_iload la_1421 rfl ?_
  refine di_const la_1423 ?_
  refine di_iadd la_1424 ?_
  refine dr_xldE la_1425 (by omega) (by omega) hL x1e ?_
  refine dr_aload_n la_1426 rfl (Or.inr (Or.inr ⟨_, rfl⟩)) ?_
  refine dr_iload la_1427 rfl ?_
  refine di_const la_1429 ?_
  refine di_iadd la_1430 ?_
  refine dr_xldE la_1431 (by omega) (by omega) hL x2e ?_
  refine dr_aload_n la_1432 rfl (Or.inr (Or.inr ⟨_, rfl⟩)) ?_
  refine dr_iload la_1433 rfl ?_
  refine di_const la_1435 ?_
  refine di_iadd la_1436 ?_
  refine dr_xldE la_1437 (by omega) (by omega) hL x3e ?_
  refine dr_aload_n la_1438 rfl (Or.inr (Or.inr ⟨_, rfl⟩)) ?_
  refine dr_iload la_1439 rfl ?_
  refine di_const la_1441 ?_
  refine di_iadd la_1442 ?_
  refine dr_xldE la_1443 (by omega) (by omega) hL x4e ?_
  obtain ⟨nic23, c23, -⟩ := hM15.1
  refine dr_virt la_1444 rfl rfl rfl c23 (n_X8_noteOf l hl hI12 hM15 (a1 := x1) (by omega) (by omega) (a2 := x2) (by omega) (by omega) (a3 := x3) (by omega) (by omega) (a4 := x4) (by omega) (by omega) ) (by decide) (by omega) (by omega) (Nat.le_of_ble_eq_true rfl) kQM9N (kQM9 (fun a24 h18 hI19 hF20 hM22 a24a a24b a24e => ?_))
  have hS21 := CSt_FrM2 hS14 hF20
  refine di_istore (ls2 := [some (.retAddr 2), some (.ref 0), some (.ref 26), some (.ref 36), some (dI i), some (dI (spNoteOf σ x1 x2 x3 x4).1), some (dI a24)]) la_1447 rfl rfl ?_
  refine dr_goto la_1449 rfl ?_
  refine dm_wk (ls2 := [some (.retAddr 2), some (.ref 0), some (.ref 26), some (.ref 36), some (dI i), none, none]) ⟨Or.inr rfl, Or.inr rfl, Or.inr rfl, Or.inr rfl, Or.inr rfl, Or.inl rfl, Or.inl rfl, trivial⟩ ?_
  refine dm_cew (ce2 := ce + 2000) (sl2 := sl + 60000) (by omega) (by omega) ?_
  exact K _ _ _ _ _ hI19 hS21 hM22 (by omega)
set_option maxHeartbeats 4000000 in
set_option maxRecDepth 100000 in
theorem lw_c27 (l : Launch) (hl : l.stackTraces = false) {L : Nat} {xs : Nat → Int32} (hL : L ≤ 384) {kc : Int} {h : dm_H} {B : Int} {σ : St} {th : Int} (hI : Inv kc kc h) (hS : CSt B σ h) (hM : MSt kc th σ h) {i : Int} (hi0 : 0 ≤ i) (hi6 : i + 6 ≤ L) (hB : 6 * B ≤ 20 * i) {ce sl : Nat} (hce : ce + 2000 ≤ 1200128) (hsl : sl + 60000 ≤ 5501098) (K : lw_K l L xs i (ce + 2000) (sl + 60000)) : dm_W (lw_E L xs) lw_PL l 329 420 1200128 5501098 1452 [some (.retAddr 2), some (.ref 0), some (.ref 26), some (.ref 36), some (dI i), none, none] [] h ce sl := by
  obtain ⟨x1, x1a, x1b, x1e⟩ := sv_x xs (i + 1)
  obtain ⟨x2, x2a, x2b, x2e⟩ := sv_x xs (i + 2)
  obtain ⟨x3, x3a, x3b, x3e⟩ := sv_x xs (i + 3)
  refine di_aload_n la_1452 rfl ?_
  refine dr_aload_n la_1453 rfl (Or.inr (Or.inr ⟨_, rfl⟩)) ?_
  refine dr_iload la_1454 rfl ?_
  refine di_const la_1456 ?_
  refine di_iadd la_1457 ?_
  refine dr_xldE la_1458 (by omega) (by omega) hL x1e ?_
  refine dr_aload_n la_1459 rfl (Or.inr (Or.inr ⟨_, rfl⟩)) ?_
  refine dr_iload la_1460 rfl ?_
  refine di_const la_1462 ?_
  refine di_iadd la_1463 ?_
  refine dr_xldE la_1464 (by omega) (by omega) hL x2e ?_
  refine dr_aload_n la_1465 rfl (Or.inr (Or.inr ⟨_, rfl⟩)) ?_
  refine dr_iload la_1466 rfl ?_
  refine di_const la_1468 ?_
  refine di_iadd la_1469 ?_
  refine dr_xldE la_1470 (by omega) (by omega) hL x3e ?_
  refine di_aload_n la_1471 rfl ?_
  refine dr_statH la_1472 rfl (by decide +kernel) rfl (t_L_has l hl hI hS (by omega) (a1 := x1) (by omega) (by omega) (a2 := x2) (by omega) (by omega) (a3 := x3) (by omega) (by omega)) (by decide) (by omega) (by omega) (Nat.le_of_ble_eq_true rfl) kQLN (kQL (fun h11 hI12 hF13 hS14 hq16 ho17 => ?_))
  have hM15 := MSt_FL hM hF13
  refine di_istore (ls2 := [some (.retAddr 2), some (.ref 0), some (.ref 26), some (.ref 36), some (dI i), some (dI (spHas σ x1 x2 x3).1), none]) la_1475 rfl rfl ?_
  refine di_aload_n la_1477 rfl ?_
  refine dr_aload_n la_1478 rfl (Or.inr (Or.inr ⟨_, rfl⟩)) ?_
  refine dr_iload la_1479 rfl ?_
  refine di_const la_1481 ?_
  refine di_iadd la_1482 ?_
  refine dr_xldE la_1483 (by omega) (by omega) hL x1e ?_
  refine dr_aload_n la_1484 rfl (Or.inr (Or.inr ⟨_, rfl⟩)) ?_
  refine dr_iload la_1485 rfl ?_
  refine di_const la_1487 ?_
  refine di_iadd la_1488 ?_
  refine dr_xldE la_1489 (by omega) (by omega) hL x2e ?_
  refine dr_aload_n la_1490 rfl (Or.inr (Or.inr ⟨_, rfl⟩)) ?_
  refine dr_iload la_1491 rfl ?_
  refine di_const la_1493 ?_
  refine di_iadd la_1494 ?_
  refine dr_xldE la_1495 (by omega) (by omega) hL x3e ?_
  obtain ⟨nic23, c23, -⟩ := hM15.1
  refine dr_virt la_1496 rfl rfl rfl c23 (n_X8_has l hl hI12 hM15 (a1 := x1) (by omega) (by omega) (a2 := x2) (by omega) (by omega) (a3 := x3) (by omega) (by omega) ) (by decide) (by omega) (by omega) (Nat.le_of_ble_eq_true rfl) kQM9N (kQM9 (fun a24 h18 hI19 hF20 hM22 a24a a24b a24e => ?_))
  have hS21 := CSt_FrM2 hS14 hF20
  refine di_istore (ls2 := [some (.retAddr 2), some (.ref 0), some (.ref 26), some (.ref 36), some (dI i), some (dI (spHas σ x1 x2 x3).1), some (dI a24)]) la_1499 rfl rfl ?_
  refine dr_goto la_1501 rfl ?_
  refine dm_wk (ls2 := [some (.retAddr 2), some (.ref 0), some (.ref 26), some (.ref 36), some (dI i), none, none]) ⟨Or.inr rfl, Or.inr rfl, Or.inr rfl, Or.inr rfl, Or.inr rfl, Or.inl rfl, Or.inl rfl, trivial⟩ ?_
  refine dm_cew (ce2 := ce + 2000) (sl2 := sl + 60000) (by omega) (by omega) ?_
  exact K _ _ _ _ _ hI19 hS21 hM22 (by omega)
set_option maxHeartbeats 4000000 in
set_option maxRecDepth 100000 in
theorem lw_c28 (l : Launch) (hl : l.stackTraces = false) {L : Nat} {xs : Nat → Int32} (hL : L ≤ 384) {kc : Int} {h : dm_H} {B : Int} {σ : St} {th : Int} (hI : Inv kc kc h) (hS : CSt B σ h) (hM : MSt kc th σ h) {i : Int} (hi0 : 0 ≤ i) (hi6 : i + 6 ≤ L) (hB : 6 * B ≤ 20 * i) {ce sl : Nat} (hce : ce + 2000 ≤ 1200128) (hsl : sl + 60000 ≤ 5501098) (K : lw_K l L xs i (ce + 2000) (sl + 60000)) : dm_W (lw_E L xs) lw_PL l 329 420 1200128 5501098 1504 [some (.retAddr 2), some (.ref 0), some (.ref 26), some (.ref 36), some (dI i), none, none] [] h ce sl := by
  obtain ⟨x1, x1a, x1b, x1e⟩ := sv_x xs (i + 1)
  obtain ⟨x2, x2a, x2b, x2e⟩ := sv_x xs (i + 2)
  refine di_aload_n la_1504 rfl ?_
  refine dr_aload_n la_1505 rfl (Or.inr (Or.inr ⟨_, rfl⟩)) ?_
  refine dr_iload la_1506 rfl ?_
  refine di_const la_1508 ?_
  refine di_iadd la_1509 ?_
  refine dr_xldE la_1510 (by omega) (by omega) hL x1e ?_
  refine dr_aload_n la_1511 rfl (Or.inr (Or.inr ⟨_, rfl⟩)) ?_
  refine dr_iload la_1512 rfl ?_
  refine di_const la_1514 ?_
  refine di_iadd la_1515 ?_
  refine dr_xldE la_1516 (by omega) (by omega) hL x2e ?_
  refine di_aload_n la_1517 rfl ?_
  refine dr_statH la_1518 rfl (by decide +kernel) rfl (t_L_hasNote l hl hI hS (by omega) (a1 := x1) (by omega) (by omega) (a2 := x2) (by omega) (by omega)) (by decide) (by omega) (by omega) (Nat.le_of_ble_eq_true rfl) kQLN (kQL (fun h11 hI12 hF13 hS14 hq16 ho17 => ?_))
  have hM15 := MSt_FL hM hF13
  refine di_istore (ls2 := [some (.retAddr 2), some (.ref 0), some (.ref 26), some (.ref 36), some (dI i), some (dI (spHasNote σ x1 x2).1), none]) la_1521 rfl rfl ?_
  refine di_aload_n la_1523 rfl ?_
  refine dr_aload_n la_1524 rfl (Or.inr (Or.inr ⟨_, rfl⟩)) ?_
  refine dr_iload la_1525 rfl ?_
  refine di_const la_1527 ?_
  refine di_iadd la_1528 ?_
  refine dr_xldE la_1529 (by omega) (by omega) hL x1e ?_
  refine dr_aload_n la_1530 rfl (Or.inr (Or.inr ⟨_, rfl⟩)) ?_
  refine dr_iload la_1531 rfl ?_
  refine di_const la_1533 ?_
  refine di_iadd la_1534 ?_
  refine dr_xldE la_1535 (by omega) (by omega) hL x2e ?_
  obtain ⟨nic23, c23, -⟩ := hM15.1
  refine dr_virt la_1536 rfl rfl rfl c23 (n_X8_hasNote l hl hI12 hM15 (a1 := x1) (by omega) (by omega) (a2 := x2) (by omega) (by omega) ) (by decide) (by omega) (by omega) (Nat.le_of_ble_eq_true rfl) kQM9N (kQM9 (fun a24 h18 hI19 hF20 hM22 a24a a24b a24e => ?_))
  have hS21 := CSt_FrM2 hS14 hF20
  refine di_istore (ls2 := [some (.retAddr 2), some (.ref 0), some (.ref 26), some (.ref 36), some (dI i), some (dI (spHasNote σ x1 x2).1), some (dI a24)]) la_1539 rfl rfl ?_
  refine dr_goto la_1541 rfl ?_
  refine dm_wk (ls2 := [some (.retAddr 2), some (.ref 0), some (.ref 26), some (.ref 36), some (dI i), none, none]) ⟨Or.inr rfl, Or.inr rfl, Or.inr rfl, Or.inr rfl, Or.inr rfl, Or.inl rfl, Or.inl rfl, trivial⟩ ?_
  refine dm_cew (ce2 := ce + 2000) (sl2 := sl + 60000) (by omega) (by omega) ?_
  exact K _ _ _ _ _ hI19 hS21 hM22 (by omega)
set_option maxHeartbeats 4000000 in
set_option maxRecDepth 100000 in
theorem lw_c29 (l : Launch) (hl : l.stackTraces = false) {L : Nat} {xs : Nat → Int32} (hL : L ≤ 384) {kc : Int} {h : dm_H} {B : Int} {σ : St} {th : Int} (hI : Inv kc kc h) (hS : CSt B σ h) (hM : MSt kc th σ h) {i : Int} (hi0 : 0 ≤ i) (hi6 : i + 6 ≤ L) (hB : 6 * B ≤ 20 * i) {ce sl : Nat} (hce : ce + 2000 ≤ 1200128) (hsl : sl + 60000 ≤ 5501098) (K : lw_K l L xs i (ce + 2000) (sl + 60000)) : dm_W (lw_E L xs) lw_PL l 329 420 1200128 5501098 1544 [some (.retAddr 2), some (.ref 0), some (.ref 26), some (.ref 36), some (dI i), none, none] [] h ce sl := by
  obtain ⟨x1, x1a, x1b, x1e⟩ := sv_x xs (i + 1)
  obtain ⟨x2, x2a, x2b, x2e⟩ := sv_x xs (i + 2)
  obtain ⟨x3, x3a, x3b, x3e⟩ := sv_x xs (i + 3)
  obtain ⟨x4, x4a, x4b, x4e⟩ := sv_x xs (i + 4)
  refine di_aload_n la_1544 rfl ?_
  refine dr_aload_n la_1545 rfl (Or.inr (Or.inr ⟨_, rfl⟩)) ?_
  refine dr_iload la_1546 rfl ?_
  refine di_const la_1548 ?_
  refine di_iadd la_1549 ?_
  refine dr_xldE la_1550 (by omega) (by omega) hL x1e ?_
  refine dr_aload_n la_1551 rfl (Or.inr (Or.inr ⟨_, rfl⟩)) ?_
  refine dr_iload la_1552 rfl ?_
  refine di_const la_1554 ?_
  refine di_iadd la_1555 ?_
  refine dr_xldE la_1556 (by omega) (by omega) hL x2e ?_
  refine dr_aload_n la_1557 rfl (Or.inr (Or.inr ⟨_, rfl⟩)) ?_
  refine dr_iload la_1558 rfl ?_
  refine di_const la_1560 ?_
  refine di_iadd la_1561 ?_
  refine dr_xldE la_1562 (by omega) (by omega) hL x3e ?_
  refine dr_aload_n la_1563 rfl (Or.inr (Or.inr ⟨_, rfl⟩)) ?_
  refine dr_iload la_1564 rfl ?_
  refine di_const la_1566 ?_
  refine di_iadd la_1567 ?_
  refine dr_xldE la_1568 (by omega) (by omega) hL x4e ?_
  refine di_aload_n la_1569 rfl ?_
  refine dr_statH la_1570 rfl (by decide +kernel) rfl (t_L_near l hl hI hS (by omega) (a1 := x1) (by omega) (by omega) (a2 := x2) (by omega) (by omega) (a3 := x3) (by omega) (by omega) (a4 := x4) (by omega) (by omega)) (by decide) (by omega) (by omega) (Nat.le_of_ble_eq_true rfl) kQLN (kQL (fun h11 hI12 hF13 hS14 hq16 ho17 => ?_))
  have hM15 := MSt_FL hM hF13
  refine di_istore (ls2 := [some (.retAddr 2), some (.ref 0), some (.ref 26), some (.ref 36), some (dI i), some (dI (spNear σ x1 x2 x3 x4).1), none]) la_1573 rfl rfl ?_
  refine di_aload_n la_1575 rfl ?_
  refine dr_aload_n la_1576 rfl (Or.inr (Or.inr ⟨_, rfl⟩)) ?_
  refine dr_iload la_1577 rfl ?_
  refine di_const la_1579 ?_
  refine di_iadd la_1580 ?_
  refine dr_xldE la_1581 (by omega) (by omega) hL x1e ?_
  refine dr_aload_n la_1582 rfl (Or.inr (Or.inr ⟨_, rfl⟩)) ?_
  refine dr_iload la_1583 rfl ?_
  refine di_const la_1585 ?_
  refine di_iadd la_1586 ?_
  refine dr_xldE la_1587 (by omega) (by omega) hL x2e ?_
  refine dr_aload_n la_1588 rfl (Or.inr (Or.inr ⟨_, rfl⟩)) ?_
  refine dr_iload la_1589 rfl ?_
  refine di_const la_1591 ?_
  refine di_iadd la_1592 ?_
  refine dr_xldE la_1593 (by omega) (by omega) hL x3e ?_
  refine dr_aload_n la_1594 rfl (Or.inr (Or.inr ⟨_, rfl⟩)) ?_
  refine dr_iload la_1595 rfl ?_
  refine di_const la_1597 ?_
  refine di_iadd la_1598 ?_
  refine dr_xldE la_1599 (by omega) (by omega) hL x4e ?_
  obtain ⟨nic23, c23, -⟩ := hM15.1
  refine dr_virt la_1600 rfl rfl rfl c23 (n_X8_near l hl hI12 hM15 (a1 := x1) (by omega) (by omega) (a2 := x2) (by omega) (by omega) (a3 := x3) (by omega) (by omega) (a4 := x4) (by omega) (by omega) ) (by decide) (by omega) (by omega) (Nat.le_of_ble_eq_true rfl) kQM9N (kQM9 (fun a24 h18 hI19 hF20 hM22 a24a a24b a24e => ?_))
  have hS21 := CSt_FrM2 hS14 hF20
  refine di_istore (ls2 := [some (.retAddr 2), some (.ref 0), some (.ref 26), some (.ref 36), some (dI i), some (dI (spNear σ x1 x2 x3 x4).1), some (dI a24)]) la_1603 rfl rfl ?_
  refine dr_goto la_1605 rfl ?_
  refine dm_wk (ls2 := [some (.retAddr 2), some (.ref 0), some (.ref 26), some (.ref 36), some (dI i), none, none]) ⟨Or.inr rfl, Or.inr rfl, Or.inr rfl, Or.inr rfl, Or.inr rfl, Or.inl rfl, Or.inl rfl, trivial⟩ ?_
  refine dm_cew (ce2 := ce + 2000) (sl2 := sl + 60000) (by omega) (by omega) ?_
  exact K _ _ _ _ _ hI19 hS21 hM22 (by omega)
set_option maxHeartbeats 4000000 in
set_option maxRecDepth 100000 in
theorem lw_c30 (l : Launch) (hl : l.stackTraces = false) {L : Nat} {xs : Nat → Int32} (hL : L ≤ 384) {kc : Int} {h : dm_H} {B : Int} {σ : St} {th : Int} (hI : Inv kc kc h) (hS : CSt B σ h) (hM : MSt kc th σ h) {i : Int} (hi0 : 0 ≤ i) (hi6 : i + 6 ≤ L) (hB : 6 * B ≤ 20 * i) {ce sl : Nat} (hce : ce + 2000 ≤ 1200128) (hsl : sl + 60000 ≤ 5501098) (K : lw_K l L xs i (ce + 2000) (sl + 60000)) : dm_W (lw_E L xs) lw_PL l 329 420 1200128 5501098 1608 [some (.retAddr 2), some (.ref 0), some (.ref 26), some (.ref 36), some (dI i), none, none] [] h ce sl := by
  obtain ⟨x1, x1a, x1b, x1e⟩ := sv_x xs (i + 1)
  obtain ⟨x2, x2a, x2b, x2e⟩ := sv_x xs (i + 2)
  obtain ⟨x3, x3a, x3b, x3e⟩ := sv_x xs (i + 3)
  obtain ⟨x4, x4a, x4b, x4e⟩ := sv_x xs (i + 4)
  refine di_aload_n la_1608 rfl ?_
  refine dr_aload_n la_1609 rfl (Or.inr (Or.inr ⟨_, rfl⟩)) ?_
  refine dr_iload la_1610 rfl ?_
  refine di_const la_1612 ?_
  refine di_iadd la_1613 ?_
  refine dr_xldE la_1614 (by omega) (by omega) hL x1e ?_
  refine dr_aload_n la_1615 rfl (Or.inr (Or.inr ⟨_, rfl⟩)) ?_
  refine dr_iload la_1616 rfl ?_
  refine di_const la_1618 ?_
  refine di_iadd la_1619 ?_
  refine dr_xldE la_1620 (by omega) (by omega) hL x2e ?_
  refine dr_aload_n la_1621 rfl (Or.inr (Or.inr ⟨_, rfl⟩)) ?_
  refine dr_iload la_1622 rfl ?_
  refine di_const la_1624 ?_
  refine di_iadd la_1625 ?_
  refine dr_xldE la_1626 (by omega) (by omega) hL x3e ?_
  refine dr_aload_n la_1627 rfl (Or.inr (Or.inr ⟨_, rfl⟩)) ?_
  refine dr_iload la_1628 rfl ?_
  refine di_const la_1630 ?_
  refine di_iadd la_1631 ?_
  refine dr_xldE la_1632 (by omega) (by omega) hL x4e ?_
  refine di_aload_n la_1633 rfl ?_
  refine dr_statH la_1634 rfl (by decide +kernel) rfl (t_L_many l hl hI hS (by omega) (a1 := x1) (by omega) (by omega) (a2 := x2) (by omega) (by omega) (a3 := x3) (by omega) (by omega) (a4 := x4) (by omega) (by omega)) (by decide) (by omega) (by omega) (Nat.le_of_ble_eq_true rfl) kQLN (kQL (fun h11 hI12 hF13 hS14 hq16 ho17 => ?_))
  have hM15 := MSt_FL hM hF13
  refine di_istore (ls2 := [some (.retAddr 2), some (.ref 0), some (.ref 26), some (.ref 36), some (dI i), some (dI (spMany σ x1 x2 x3 x4).1), none]) la_1637 rfl rfl ?_
  refine di_aload_n la_1639 rfl ?_
  refine dr_aload_n la_1640 rfl (Or.inr (Or.inr ⟨_, rfl⟩)) ?_
  refine dr_iload la_1641 rfl ?_
  refine di_const la_1643 ?_
  refine di_iadd la_1644 ?_
  refine dr_xldE la_1645 (by omega) (by omega) hL x1e ?_
  refine dr_aload_n la_1646 rfl (Or.inr (Or.inr ⟨_, rfl⟩)) ?_
  refine dr_iload la_1647 rfl ?_
  refine di_const la_1649 ?_
  refine di_iadd la_1650 ?_
  refine dr_xldE la_1651 (by omega) (by omega) hL x2e ?_
  refine dr_aload_n la_1652 rfl (Or.inr (Or.inr ⟨_, rfl⟩)) ?_
  refine dr_iload la_1653 rfl ?_
  refine di_const la_1655 ?_
  refine di_iadd la_1656 ?_
  refine dr_xldE la_1657 (by omega) (by omega) hL x3e ?_
  refine dr_aload_n la_1658 rfl (Or.inr (Or.inr ⟨_, rfl⟩)) ?_
  refine dr_iload la_1659 rfl ?_
  refine di_const la_1661 ?_
  refine di_iadd la_1662 ?_
  refine dr_xldE la_1663 (by omega) (by omega) hL x4e ?_
  obtain ⟨nic23, c23, -⟩ := hM15.1
  refine dr_virt la_1664 rfl rfl rfl c23 (n_X8_many l hl hI12 hM15 (a1 := x1) (by omega) (by omega) (a2 := x2) (by omega) (by omega) (a3 := x3) (by omega) (by omega) (a4 := x4) (by omega) (by omega) ) (by decide) (by omega) (by omega) (Nat.le_of_ble_eq_true rfl) kQM9N (kQM9 (fun a24 h18 hI19 hF20 hM22 a24a a24b a24e => ?_))
  have hS21 := CSt_FrM2 hS14 hF20
  refine di_istore (ls2 := [some (.retAddr 2), some (.ref 0), some (.ref 26), some (.ref 36), some (dI i), some (dI (spMany σ x1 x2 x3 x4).1), some (dI a24)]) la_1667 rfl rfl ?_
  refine dr_goto la_1669 rfl ?_
  refine dm_wk (ls2 := [some (.retAddr 2), some (.ref 0), some (.ref 26), some (.ref 36), some (dI i), none, none]) ⟨Or.inr rfl, Or.inr rfl, Or.inr rfl, Or.inr rfl, Or.inr rfl, Or.inl rfl, Or.inl rfl, trivial⟩ ?_
  refine dm_cew (ce2 := ce + 2000) (sl2 := sl + 60000) (by omega) (by omega) ?_
  exact K _ _ _ _ _ hI19 hS21 hM22 (by omega)
set_option maxHeartbeats 4000000 in
set_option maxRecDepth 100000 in
theorem lw_c31 (l : Launch) (hl : l.stackTraces = false) {L : Nat} {xs : Nat → Int32} (hL : L ≤ 384) {kc : Int} {h : dm_H} {B : Int} {σ : St} {th : Int} (hI : Inv kc kc h) (hS : CSt B σ h) (hM : MSt kc th σ h) {i : Int} (hi0 : 0 ≤ i) (hi6 : i + 6 ≤ L) (hB : 6 * B ≤ 20 * i) {ce sl : Nat} (hce : ce + 2000 ≤ 1200128) (hsl : sl + 60000 ≤ 5501098) (K : lw_K l L xs i (ce + 2000) (sl + 60000)) : dm_W (lw_E L xs) lw_PL l 329 420 1200128 5501098 1672 [some (.retAddr 2), some (.ref 0), some (.ref 26), some (.ref 36), some (dI i), none, none] [] h ce sl := by
  obtain ⟨x1, x1a, x1b, x1e⟩ := sv_x xs (i + 1)
  obtain ⟨x2, x2a, x2b, x2e⟩ := sv_x xs (i + 2)
  obtain ⟨x3, x3a, x3b, x3e⟩ := sv_x xs (i + 3)
  obtain ⟨x4, x4a, x4b, x4e⟩ := sv_x xs (i + 4)
  obtain ⟨x5, x5a, x5b, x5e⟩ := sv_x xs (i + 5)
  refine di_aload_n la_1672 rfl ?_
  refine dr_aload_n la_1673 rfl (Or.inr (Or.inr ⟨_, rfl⟩)) ?_
  refine dr_iload la_1674 rfl ?_
  refine di_const la_1676 ?_
  refine di_iadd la_1677 ?_
  refine dr_xldE la_1678 (by omega) (by omega) hL x1e ?_
  refine dr_aload_n la_1679 rfl (Or.inr (Or.inr ⟨_, rfl⟩)) ?_
  refine dr_iload la_1680 rfl ?_
  refine di_const la_1682 ?_
  refine di_iadd la_1683 ?_
  refine dr_xldE la_1684 (by omega) (by omega) hL x2e ?_
  refine dr_aload_n la_1685 rfl (Or.inr (Or.inr ⟨_, rfl⟩)) ?_
  refine dr_iload la_1686 rfl ?_
  refine di_const la_1688 ?_
  refine di_iadd la_1689 ?_
  refine dr_xldE la_1690 (by omega) (by omega) hL x3e ?_
  refine dr_aload_n la_1691 rfl (Or.inr (Or.inr ⟨_, rfl⟩)) ?_
  refine dr_iload la_1692 rfl ?_
  refine di_const la_1694 ?_
  refine di_iadd la_1695 ?_
  refine dr_xldE la_1696 (by omega) (by omega) hL x4e ?_
  refine dr_aload_n la_1697 rfl (Or.inr (Or.inr ⟨_, rfl⟩)) ?_
  refine dr_iload la_1698 rfl ?_
  refine di_const la_1700 ?_
  refine di_iadd la_1701 ?_
  refine dr_xldE la_1702 (by omega) (by omega) hL x5e ?_
  refine di_aload_n la_1703 rfl ?_
  refine dr_statH la_1704 rfl (by decide +kernel) rfl (t_L_between l hl hI hS (by omega) (a1 := x1) (by omega) (by omega) (a2 := x2) (by omega) (by omega) (a3 := x3) (by omega) (by omega) (a4 := x4) (by omega) (by omega) (a5 := x5) (by omega) (by omega)) (by decide) (by omega) (by omega) (Nat.le_of_ble_eq_true rfl) kQLN (kQL (fun h11 hI12 hF13 hS14 hq16 ho17 => ?_))
  have hM15 := MSt_FL hM hF13
  refine di_istore (ls2 := [some (.retAddr 2), some (.ref 0), some (.ref 26), some (.ref 36), some (dI i), some (dI (spBetween σ x1 x2 x3 x4 x5).1), none]) la_1707 rfl rfl ?_
  refine di_aload_n la_1709 rfl ?_
  refine dr_aload_n la_1710 rfl (Or.inr (Or.inr ⟨_, rfl⟩)) ?_
  refine dr_iload la_1711 rfl ?_
  refine di_const la_1713 ?_
  refine di_iadd la_1714 ?_
  refine dr_xldE la_1715 (by omega) (by omega) hL x1e ?_
  refine dr_aload_n la_1716 rfl (Or.inr (Or.inr ⟨_, rfl⟩)) ?_
  refine dr_iload la_1717 rfl ?_
  refine di_const la_1719 ?_
  refine di_iadd la_1720 ?_
  refine dr_xldE la_1721 (by omega) (by omega) hL x2e ?_
  refine dr_aload_n la_1722 rfl (Or.inr (Or.inr ⟨_, rfl⟩)) ?_
  refine dr_iload la_1723 rfl ?_
  refine di_const la_1725 ?_
  refine di_iadd la_1726 ?_
  refine dr_xldE la_1727 (by omega) (by omega) hL x3e ?_
  refine dr_aload_n la_1728 rfl (Or.inr (Or.inr ⟨_, rfl⟩)) ?_
  refine dr_iload la_1729 rfl ?_
  refine di_const la_1731 ?_
  refine di_iadd la_1732 ?_
  refine dr_xldE la_1733 (by omega) (by omega) hL x4e ?_
  refine dr_aload_n la_1734 rfl (Or.inr (Or.inr ⟨_, rfl⟩)) ?_
  refine dr_iload la_1735 rfl ?_
  refine di_const la_1737 ?_
  refine di_iadd la_1738 ?_
  refine dr_xldE la_1739 (by omega) (by omega) hL x5e ?_
  obtain ⟨nic23, c23, -⟩ := hM15.1
  refine dr_virt la_1740 rfl rfl rfl c23 (n_X8_between l hl hI12 hM15 (a1 := x1) (by omega) (by omega) (a2 := x2) (by omega) (by omega) (a3 := x3) (by omega) (by omega) (a4 := x4) (by omega) (by omega) (a5 := x5) (by omega) (by omega) ) (by decide) (by omega) (by omega) (Nat.le_of_ble_eq_true rfl) kQM9N (kQM9 (fun a24 h18 hI19 hF20 hM22 a24a a24b a24e => ?_))
  have hS21 := CSt_FrM2 hS14 hF20
  refine di_istore (ls2 := [some (.retAddr 2), some (.ref 0), some (.ref 26), some (.ref 36), some (dI i), some (dI (spBetween σ x1 x2 x3 x4 x5).1), some (dI a24)]) la_1743 rfl rfl ?_
  refine dr_goto la_1745 rfl ?_
  refine dm_wk (ls2 := [some (.retAddr 2), some (.ref 0), some (.ref 26), some (.ref 36), some (dI i), none, none]) ⟨Or.inr rfl, Or.inr rfl, Or.inr rfl, Or.inr rfl, Or.inr rfl, Or.inl rfl, Or.inl rfl, trivial⟩ ?_
  refine dm_cew (ce2 := ce + 2000) (sl2 := sl + 60000) (by omega) (by omega) ?_
  exact K _ _ _ _ _ hI19 hS21 hM22 (by omega)
