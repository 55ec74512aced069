set_option maxHeartbeats 4000000 in
set_option maxRecDepth 100000 in
theorem lw_c16 (l : Launch) (hl : l.stackTraces = false) {L : Nat} {xs : Nat → Int32} (hL : L ≤ 384) {kc : Int} {h : dm_H} (hI : Inv kc kc h) {i : Int} (hi0 : 0 ≤ i) (hi6 : i + 6 ≤ L) {ce sl : Nat} (hce : ce + 1000 ≤ 1200128) (hsl : sl + 60000 ≤ 5501098) (K : lw_K l L xs i (ce + 1000) (sl + 60000)) : dm_W (lw_E L xs) lw_PL l 329 420 1200128 5501098 1116 [some (.retAddr 2), some (.ref 0), some (.ref 26), some (.ref 36), some (dI (i)), none, none] [] h ce sl := by
  refine di_aload_n la_1116 rfl ?_
  refine dr_aload_n la_1117 rfl (Or.inr (Or.inr ⟨_, rfl⟩)) ?_
  refine dr_iload la_1118 rfl ?_
  refine di_const la_1120 ?_
  refine di_iadd la_1121 ?_
  refine dr_xld la_1122 (by omega) (by omega) hL (fun x1 x1a x1b => ?_)
  refine dr_aload_n la_1123 rfl (Or.inr (Or.inr ⟨_, rfl⟩)) ?_
  refine dr_iload la_1124 rfl ?_
  refine di_const la_1126 ?_
  refine di_iadd la_1127 ?_
  refine dr_xld la_1128 (by omega) (by omega) hL (fun x2 x2a x2b => ?_)
  refine di_aload_n la_1129 rfl ?_
  refine dr_statH la_1130 rfl (by decide +kernel) rfl (s_L_partTake l hl hI (a1 := x1) (by omega) (by omega) (a2 := x2) (by omega) (by omega)) (by decide) (by omega) (by omega) (Nat.le_of_ble_eq_true rfl) kNS (kIS (fun y6 h3 hI4 hE5 y6f y6a y6b => ?_))
  have hE7 := hE5
  refine di_istore (ls2 := [some (.retAddr 2), some (.ref 0), some (.ref 26), some (.ref 36), some (dI (i)), some (dI (y6)), none]) la_1133 rfl rfl ?_
  refine di_aload_n la_1135 rfl ?_
  refine dr_aload_n la_1136 rfl (Or.inr (Or.inr ⟨_, rfl⟩)) ?_
  refine dr_iload la_1137 rfl ?_
  refine di_const la_1139 ?_
  refine di_iadd la_1140 ?_
  refine dr_xld la_1141 (by omega) (by omega) hL (fun x8 x8a x8b => ?_)
  refine dr_aload_n la_1142 rfl (Or.inr (Or.inr ⟨_, rfl⟩)) ?_
  refine dr_iload la_1143 rfl ?_
  refine di_const la_1145 ?_
  refine di_iadd la_1146 ?_
  refine dr_xld la_1147 (by omega) (by omega) hL (fun x9 x9a x9b => ?_)
  obtain ⟨th_10, ni_13, pb_16, lo_19, hi_22, hb_25, ls_28, re_31, he_34, c11, c12, c14, c15, c17, c18, c20, c21, c23, c24, c26, c27, c29, c30, c32, c33, c35, hc36⟩ := I_md hI4
  have ho37 : he_34 = -1 ∨ (0 ≤ he_34 ∧ he_34 ≤ 9999 ∧ he_34 % 100 ≤ he_34 / 100) := c35
  refine dr_virt la_1148 rfl rfl rfl hc36 (s_X8_partTake l hl hI4 (a1 := x8) (by omega) (by omega) (a2 := x9) (by omega) (by omega)) (by decide) (by omega) (by omega) (Nat.le_of_ble_eq_true rfl) kNS (kIS (fun y41 h38 hI39 hE40 y41f y41a y41b => ?_))
  have hE42 := Ext_tr hE7 hE40
  refine di_istore (ls2 := [some (.retAddr 2), some (.ref 0), some (.ref 26), some (.ref 36), some (dI (i)), some (dI (y6)), some (dI (y41))]) la_1151 rfl rfl ?_
  refine dr_goto la_1153 rfl ?_
  refine dm_wk (ls2 := [some (.retAddr 2), some (.ref 0), some (.ref 26), some (.ref 36), some (dI (i)), none, none]) ⟨Or.inr rfl, Or.inr rfl, Or.inr rfl, Or.inr rfl, Or.inr rfl, Or.inl rfl, Or.inl rfl, trivial⟩ ?_
  refine dm_cew (ce2 := ce + 1000) (sl2 := sl + 60000) (by omega) (by omega) ?_
  exact K _ _ hI39
set_option maxHeartbeats 4000000 in
set_option maxRecDepth 100000 in
theorem lw_c17 (l : Launch) (hl : l.stackTraces = false) {L : Nat} {xs : Nat → Int32} (hL : L ≤ 384) {kc : Int} {h : dm_H} (hI : Inv kc kc h) {i : Int} (hi0 : 0 ≤ i) (hi6 : i + 6 ≤ L) {ce sl : Nat} (hce : ce + 1000 ≤ 1200128) (hsl : sl + 60000 ≤ 5501098) (K : lw_K l L xs i (ce + 1000) (sl + 60000)) : dm_W (lw_E L xs) lw_PL l 329 420 1200128 5501098 1156 [some (.retAddr 2), some (.ref 0), some (.ref 26), some (.ref 36), some (dI (i)), none, none] [] h ce sl := by
  refine di_aload_n la_1156 rfl ?_
  refine dr_aload_n la_1157 rfl (Or.inr (Or.inr ⟨_, rfl⟩)) ?_
  refine dr_iload la_1158 rfl ?_
  refine di_const la_1160 ?_
  refine di_iadd la_1161 ?_
  refine dr_xld la_1162 (by omega) (by omega) hL (fun x1 x1a x1b => ?_)
  refine di_if_eq la_1163 rfl (by omega) (by omega) (fun c2 => ?_) (fun c2 => ?_)
  · skip
    refine di_const la_1170 ?_
    refine di_aload_n la_1171 rfl ?_
    refine dr_statH la_1172 rfl (by decide +kernel) rfl (s_L_partDraw l hl hI (a1 := 0) (by omega) (by omega)) (by decide) (by omega) (by omega) (Nat.le_of_ble_eq_true rfl) kNS (kIS (fun y6 h3 hI4 hE5 y6f y6a y6b => ?_))
    have hE7 := hE5
    refine di_istore (ls2 := [some (.retAddr 2), some (.ref 0), some (.ref 26), some (.ref 36), some (dI (i)), some (dI (y6)), none]) la_1175 rfl rfl ?_
    refine di_aload_n la_1177 rfl ?_
    refine dr_aload_n la_1178 rfl (Or.inr (Or.inr ⟨_, rfl⟩)) ?_
    refine dr_iload la_1179 rfl ?_
    refine di_const la_1181 ?_
    refine di_iadd la_1182 ?_
    refine dr_xld la_1183 (by omega) (by omega) hL (fun x8 x8a x8b => ?_)
    refine di_if_eq la_1184 rfl (by omega) (by omega) (fun c9 => ?_) (fun c9 => ?_)
    · skip
      refine di_const la_1191 ?_
      obtain ⟨th_10, ni_13, pb_16, lo_19, hi_22, hb_25, ls_28, re_31, he_34, c11, c12, c14, c15, c17, c18, c20, c21, c23, c24, c26, c27, c29, c30, c32, c33, c35, hc36⟩ := I_md hI4
      have ho37 : he_34 = -1 ∨ (0 ≤ he_34 ∧ he_34 ≤ 9999 ∧ he_34 % 100 ≤ he_34 / 100) := c35
      refine dr_virt la_1192 rfl rfl rfl hc36 (s_X8_partDraw l hl hI4 (a1 := 0) (by omega) (by omega)) (by decide) (by omega) (by omega) (Nat.le_of_ble_eq_true rfl) kNS (kIS (fun y41 h38 hI39 hE40 y41f y41a y41b => ?_))
      have hE42 := Ext_tr hE7 hE40
      refine di_istore (ls2 := [some (.retAddr 2), some (.ref 0), some (.ref 26), some (.ref 36), some (dI (i)), some (dI (y6)), some (dI (y41))]) la_1195 rfl rfl ?_
      refine dr_goto la_1197 rfl ?_
      refine dm_wk (ls2 := [some (.retAddr 2), some (.ref 0), some (.ref 26), some (.ref 36), some (dI (i)), none, none]) ⟨Or.inr rfl, Or.inr rfl, Or.inr rfl, Or.inr rfl, Or.inr rfl, Or.inl rfl, Or.inl rfl, trivial⟩ ?_
      refine dm_cew (ce2 := ce + 1000) (sl2 := sl + 60000) (by omega) (by omega) ?_
      exact K _ _ hI39
    · skip
      refine di_const la_1187 ?_
      refine dr_goto la_1188 rfl ?_
      obtain ⟨th_43, ni_46, pb_49, lo_52, hi_55, hb_58, ls_61, re_64, he_67, c44, c45, c47, c48, c50, c51, c53, c54, c56, c57, c59, c60, c62, c63, c65, c66, c68, hc69⟩ := I_md hI4
      have ho70 : he_67 = -1 ∨ (0 ≤ he_67 ∧ he_67 ≤ 9999 ∧ he_67 % 100 ≤ he_67 / 100) := c68
      refine dr_virt la_1192 rfl rfl rfl hc69 (s_X8_partDraw l hl hI4 (a1 := 1) (by omega) (by omega)) (by decide) (by omega) (by omega) (Nat.le_of_ble_eq_true rfl) kNS (kIS (fun y74 h71 hI72 hE73 y74f y74a y74b => ?_))
      have hE75 := Ext_tr hE7 hE73
      refine di_istore (ls2 := [some (.retAddr 2), some (.ref 0), some (.ref 26), some (.ref 36), some (dI (i)), some (dI (y6)), some (dI (y74))]) la_1195 rfl rfl ?_
      refine dr_goto la_1197 rfl ?_
      refine dm_wk (ls2 := [some (.retAddr 2), some (.ref 0), some (.ref 26), some (.ref 36), some (dI (i)), none, none]) ⟨Or.inr rfl, Or.inr rfl, Or.inr rfl, Or.inr rfl, Or.inr rfl, Or.inl rfl, Or.inl rfl, trivial⟩ ?_
      refine dm_cew (ce2 := ce + 1000) (sl2 := sl + 60000) (by omega) (by omega) ?_
      exact K _ _ hI72
  · skip
    refine di_const la_1166 ?_
    refine dr_goto la_1167 rfl ?_
    refine di_aload_n la_1171 rfl ?_
    refine dr_statH la_1172 rfl (by decide +kernel) rfl (s_L_partDraw l hl hI (a1 := 1) (by omega) (by omega)) (by decide) (by omega) (by omega) (Nat.le_of_ble_eq_true rfl) kNS (kIS (fun y79 h76 hI77 hE78 y79f y79a y79b => ?_))
    have hE80 := hE78
    refine di_istore (ls2 := [some (.retAddr 2), some (.ref 0), some (.ref 26), some (.ref 36), some (dI (i)), some (dI (y79)), none]) la_1175 rfl rfl ?_
    refine di_aload_n la_1177 rfl ?_
    refine dr_aload_n la_1178 rfl (Or.inr (Or.inr ⟨_, rfl⟩)) ?_
    refine dr_iload la_1179 rfl ?_
    refine di_const la_1181 ?_
    refine di_iadd la_1182 ?_
    refine dr_xld la_1183 (by omega) (by omega) hL (fun x81 x81a x81b => ?_)
    refine di_if_eq la_1184 rfl (by omega) (by omega) (fun c82 => ?_) (fun c82 => ?_)
    · skip
      refine di_const la_1191 ?_
      obtain ⟨th_83, ni_86, pb_89, lo_92, hi_95, hb_98, ls_101, re_104, he_107, c84, c85, c87, c88, c90, c91, c93, c94, c96, c97, c99, c100, c102, c103, c105, c106, c108, hc109⟩ := I_md hI77
      have ho110 : he_107 = -1 ∨ (0 ≤ he_107 ∧ he_107 ≤ 9999 ∧ he_107 % 100 ≤ he_107 / 100) := c108
      refine dr_virt la_1192 rfl rfl rfl hc109 (s_X8_partDraw l hl hI77 (a1 := 0) (by omega) (by omega)) (by decide) (by omega) (by omega) (Nat.le_of_ble_eq_true rfl) kNS (kIS (fun y114 h111 hI112 hE113 y114f y114a y114b => ?_))
      have hE115 := Ext_tr hE80 hE113
      refine di_istore (ls2 := [some (.retAddr 2), some (.ref 0), some (.ref 26), some (.ref 36), some (dI (i)), some (dI (y79)), some (dI (y114))]) la_1195 rfl rfl ?_
      refine dr_goto la_1197 rfl ?_
      refine dm_wk (ls2 := [some (.retAddr 2), some (.ref 0), some (.ref 26), some (.ref 36), some (dI (i)), none, none]) ⟨Or.inr rfl, Or.inr rfl, Or.inr rfl, Or.inr rfl, Or.inr rfl, Or.inl rfl, Or.inl rfl, trivial⟩ ?_
      refine dm_cew (ce2 := ce + 1000) (sl2 := sl + 60000) (by omega) (by omega) ?_
      exact K _ _ hI112
    · skip
      refine di_const la_1187 ?_
      refine dr_goto la_1188 rfl ?_
      obtain ⟨th_116, ni_119, pb_122, lo_125, hi_128, hb_131, ls_134, re_137, he_140, c117, c118, c120, c121, c123, c124, c126, c127, c129, c130, c132, c133, c135, c136, c138, c139, c141, hc142⟩ := I_md hI77
      have ho143 : he_140 = -1 ∨ (0 ≤ he_140 ∧ he_140 ≤ 9999 ∧ he_140 % 100 ≤ he_140 / 100) := c141
      refine dr_virt la_1192 rfl rfl rfl hc142 (s_X8_partDraw l hl hI77 (a1 := 1) (by omega) (by omega)) (by decide) (by omega) (by omega) (Nat.le_of_ble_eq_true rfl) kNS (kIS (fun y147 h144 hI145 hE146 y147f y147a y147b => ?_))
      have hE148 := Ext_tr hE80 hE146
      refine di_istore (ls2 := [some (.retAddr 2), some (.ref 0), some (.ref 26), some (.ref 36), some (dI (i)), some (dI (y79)), some (dI (y147))]) la_1195 rfl rfl ?_
      refine dr_goto la_1197 rfl ?_
      refine dm_wk (ls2 := [some (.retAddr 2), some (.ref 0), some (.ref 26), some (.ref 36), some (dI (i)), none, none]) ⟨Or.inr rfl, Or.inr rfl, Or.inr rfl, Or.inr rfl, Or.inr rfl, Or.inl rfl, Or.inl rfl, trivial⟩ ?_
      refine dm_cew (ce2 := ce + 1000) (sl2 := sl + 60000) (by omega) (by omega) ?_
      exact K _ _ hI145
set_option maxHeartbeats 4000000 in
set_option maxRecDepth 100000 in
theorem lw_c18 (l : Launch) (hl : l.stackTraces = false) {L : Nat} {xs : Nat → Int32} (hL : L ≤ 384) {kc : Int} {h : dm_H} (hI : Inv kc kc h) {i : Int} (hi0 : 0 ≤ i) (hi6 : i + 6 ≤ L) {ce sl : Nat} (hce : ce + 1000 ≤ 1200128) (hsl : sl + 60000 ≤ 5501098) (K : lw_K l L xs i (ce + 1000) (sl + 60000)) : dm_W (lw_E L xs) lw_PL l 329 420 1200128 5501098 1200 [some (.retAddr 2), some (.ref 0), some (.ref 26), some (.ref 36), some (dI (i)), none, none] [] h ce sl := by
  refine di_aload_n la_1200 rfl ?_
  refine di_aload_n la_1201 rfl ?_
  refine dr_statH la_1202 rfl (by decide +kernel) rfl (s_L_partClear l hl hI ) (by decide) (by omega) (by omega) (Nat.le_of_ble_eq_true rfl) kNS (kIS (fun y4 h1 hI2 hE3 y4f y4a y4b => ?_))
  have hE5 := hE3
  refine di_istore (ls2 := [some (.retAddr 2), some (.ref 0), some (.ref 26), some (.ref 36), some (dI (i)), some (dI (y4)), none]) la_1205 rfl rfl ?_
  refine di_aload_n la_1207 rfl ?_
  obtain ⟨th_6, ni_9, pb_12, lo_15, hi_18, hb_21, ls_24, re_27, he_30, c7, c8, c10, c11, c13, c14, c16, c17, c19, c20, c22, c23, c25, c26, c28, c29, c31, hc32⟩ := I_md hI2
  have ho33 : he_30 = -1 ∨ (0 ≤ he_30 ∧ he_30 ≤ 9999 ∧ he_30 % 100 ≤ he_30 / 100) := c31
  refine dr_virt la_1208 rfl rfl rfl hc32 (s_X8_partClear l hl hI2 ) (by decide) (by omega) (by omega) (Nat.le_of_ble_eq_true rfl) kNS (kIS (fun y37 h34 hI35 hE36 y37f y37a y37b => ?_))
  have hE38 := Ext_tr hE5 hE36
  refine di_istore (ls2 := [some (.retAddr 2), some (.ref 0), some (.ref 26), some (.ref 36), some (dI (i)), some (dI (y4)), some (dI (y37))]) la_1211 rfl rfl ?_
  refine dr_goto la_1213 rfl ?_
  refine dm_wk (ls2 := [some (.retAddr 2), some (.ref 0), some (.ref 26), some (.ref 36), some (dI (i)), none, none]) ⟨Or.inr rfl, Or.inr rfl, Or.inr rfl, Or.inr rfl, Or.inr rfl, Or.inl rfl, Or.inl rfl, trivial⟩ ?_
  refine dm_cew (ce2 := ce + 1000) (sl2 := sl + 60000) (by omega) (by omega) ?_
  exact K _ _ hI35
set_option maxHeartbeats 4000000 in
set_option maxRecDepth 100000 in
theorem lw_c19 (l : Launch) (hl : l.stackTraces = false) {L : Nat} {xs : Nat → Int32} (hL : L ≤ 384) {kc : Int} {h : dm_H} (hI : Inv kc kc h) {i : Int} (hi0 : 0 ≤ i) (hi6 : i + 6 ≤ L) {ce sl : Nat} (hce : ce + 1000 ≤ 1200128) (hsl : sl + 60000 ≤ 5501098) (K : lw_K l L xs i (ce + 1000) (sl + 60000)) : dm_W (lw_E L xs) lw_PL l 329 420 1200128 5501098 1216 [some (.retAddr 2), some (.ref 0), some (.ref 26), some (.ref 36), some (dI (i)), none, none] [] h ce sl := by
  refine di_aload_n la_1216 rfl ?_
  refine dr_aload_n la_1217 rfl (Or.inr (Or.inr ⟨_, rfl⟩)) ?_
  refine dr_iload la_1218 rfl ?_
  refine di_const la_1220 ?_
  refine di_iadd la_1221 ?_
  refine dr_xld la_1222 (by omega) (by omega) hL (fun x1 x1a x1b => ?_)
  refine di_aload_n la_1223 rfl ?_
  refine dr_statH la_1224 rfl (by decide +kernel) rfl (s_L_ofPart l hl hI (a1 := x1) (by omega) (by omega)) (by decide) (by omega) (by omega) (Nat.le_of_ble_eq_true rfl) kNS (kIS (fun y5 h2 hI3 hE4 y5f y5a y5b => ?_))
  have hE6 := hE4
  refine di_istore (ls2 := [some (.retAddr 2), some (.ref 0), some (.ref 26), some (.ref 36), some (dI (i)), some (dI (y5)), none]) la_1227 rfl rfl ?_
  refine di_aload_n la_1229 rfl ?_
  refine dr_aload_n la_1230 rfl (Or.inr (Or.inr ⟨_, rfl⟩)) ?_
  refine dr_iload la_1231 rfl ?_
  refine di_const la_1233 ?_
  refine di_iadd la_1234 ?_
  refine dr_xld la_1235 (by omega) (by omega) hL (fun x7 x7a x7b => ?_)
  obtain ⟨th_8, ni_11, pb_14, lo_17, hi_20, hb_23, ls_26, re_29, he_32, c9, c10, c12, c13, c15, c16, c18, c19, c21, c22, c24, c25, c27, c28, c30, c31, c33, hc34⟩ := I_md hI3
  have ho35 : he_32 = -1 ∨ (0 ≤ he_32 ∧ he_32 ≤ 9999 ∧ he_32 % 100 ≤ he_32 / 100) := c33
  refine dr_virt la_1236 rfl rfl rfl hc34 (s_X8_ofPart l hl hI3 (a1 := x7) (by omega) (by omega)) (by decide) (by omega) (by omega) (Nat.le_of_ble_eq_true rfl) kNS (kIS (fun y39 h36 hI37 hE38 y39f y39a y39b => ?_))
  have hE40 := Ext_tr hE6 hE38
  refine di_istore (ls2 := [some (.retAddr 2), some (.ref 0), some (.ref 26), some (.ref 36), some (dI (i)), some (dI (y5)), some (dI (y39))]) la_1239 rfl rfl ?_
  refine dr_goto la_1241 rfl ?_
  refine dm_wk (ls2 := [some (.retAddr 2), some (.ref 0), some (.ref 26), some (.ref 36), some (dI (i)), none, none]) ⟨Or.inr rfl, Or.inr rfl, Or.inr rfl, Or.inr rfl, Or.inr rfl, Or.inl rfl, Or.inl rfl, trivial⟩ ?_
  refine dm_cew (ce2 := ce + 1000) (sl2 := sl + 60000) (by omega) (by omega) ?_
  exact K _ _ hI37
set_option maxHeartbeats 4000000 in
set_option maxRecDepth 100000 in
theorem lw_c20 (l : Launch) (hl : l.stackTraces = false) {L : Nat} {xs : Nat → Int32} (hL : L ≤ 384) {kc : Int} {h : dm_H} (hI : Inv kc kc h) {i : Int} (hi0 : 0 ≤ i) (hi6 : i + 6 ≤ L) {ce sl : Nat} (hce : ce + 1000 ≤ 1200128) (hsl : sl + 60000 ≤ 5501098) (K : lw_K l L xs i (ce + 1000) (sl + 60000)) : dm_W (lw_E L xs) lw_PL l 329 420 1200128 5501098 1244 [some (.retAddr 2), some (.ref 0), some (.ref 26), some (.ref 36), some (dI (i)), none, none] [] h ce sl := by
  refine di_aload_n la_1244 rfl ?_
  refine di_aload_n la_1245 rfl ?_
  refine dr_statH la_1246 rfl (by decide +kernel) rfl (s_L_partText l hl hI ) (by decide) (by omega) (by omega) (Nat.le_of_ble_eq_true rfl) kNS (kIS (fun y4 h1 hI2 hE3 y4f y4a y4b => ?_))
  have hE5 := hE3
  refine di_istore (ls2 := [some (.retAddr 2), some (.ref 0), some (.ref 26), some (.ref 36), some (dI (i)), some (dI (y4)), none]) la_1249 rfl rfl ?_
  refine di_aload_n la_1251 rfl ?_
  obtain ⟨th_6, ni_9, pb_12, lo_15, hi_18, hb_21, ls_24, re_27, he_30, c7, c8, c10, c11, c13, c14, c16, c17, c19, c20, c22, c23, c25, c26, c28, c29, c31, hc32⟩ := I_md hI2
  have ho33 : he_30 = -1 ∨ (0 ≤ he_30 ∧ he_30 ≤ 9999 ∧ he_30 % 100 ≤ he_30 / 100) := c31
  refine dr_virt la_1252 rfl rfl rfl hc32 (s_X8_partText l hl hI2 ) (by decide) (by omega) (by omega) (Nat.le_of_ble_eq_true rfl) kNS (kOS (fun o37 h34 hI35 hE36 ho37 => ?_))
  have hE38 := Ext_tr hE5 hE36
  refine dr_astoreU la_1255 rfl ho37 ?_
  show dm_W (lw_E L xs) lw_PL l 329 420 1200128 5501098 1257 [some (.retAddr 2), some (.ref 0), some (.ref 26), some (.ref 36), some (dI (i)), some (dI (y4)), some (o37)] [] h34 ((ce + 59) + 58) ((sl + 22030) + 22024)
  clear ho37
  refine dr_goto la_1257 rfl ?_
  refine dm_wk (ls2 := [some (.retAddr 2), some (.ref 0), some (.ref 26), some (.ref 36), some (dI (i)), none, none]) ⟨Or.inr rfl, Or.inr rfl, Or.inr rfl, Or.inr rfl, Or.inr rfl, Or.inl rfl, Or.inl rfl, trivial⟩ ?_
  refine dm_cew (ce2 := ce + 1000) (sl2 := sl + 60000) (by omega) (by omega) ?_
  exact K _ _ hI35
set_option maxHeartbeats 4000000 in
set_option maxRecDepth 100000 in
theorem lw_c21 (l : Launch) (hl : l.stackTraces = false) {L : Nat} {xs : Nat → Int32} (hL : L ≤ 384) {kc : Int} {h : dm_H} (hI : Inv kc kc h) {i : Int} (hi0 : 0 ≤ i) (hi6 : i + 6 ≤ L) {ce sl : Nat} (hce : ce + 1000 ≤ 1200128) (hsl : sl + 60000 ≤ 5501098) (K : lw_K l L xs i (ce + 1000) (sl + 60000)) : dm_W (lw_E L xs) lw_PL l 329 420 1200128 5501098 1260 [some (.retAddr 2), some (.ref 0), some (.ref 26), some (.ref 36), some (dI (i)), none, none] [] h ce sl := by
  refine di_aload_n la_1260 rfl ?_
  refine dr_aload_n la_1261 rfl (Or.inr (Or.inr ⟨_, rfl⟩)) ?_
  refine dr_iload la_1262 rfl ?_
  refine di_const la_1264 ?_
  refine di_iadd la_1265 ?_
  refine dr_xld la_1266 (by omega) (by omega) hL (fun x1 x1a x1b => ?_)
  refine di_aload_n la_1267 rfl ?_
  refine dr_statH la_1268 rfl (by decide +kernel) rfl (s_L_hand l hl hI (a1 := x1) (by omega) (by omega)) (by decide) (by omega) (by omega) (Nat.le_of_ble_eq_true rfl) kNS (kIS (fun y5 h2 hI3 hE4 y5f y5a y5b => ?_))
  have hE6 := hE4
  refine di_istore (ls2 := [some (.retAddr 2), some (.ref 0), some (.ref 26), some (.ref 36), some (dI (i)), some (dI (y5)), none]) la_1271 rfl rfl ?_
  refine di_aload_n la_1273 rfl ?_
  refine dr_aload_n la_1274 rfl (Or.inr (Or.inr ⟨_, rfl⟩)) ?_
  refine dr_iload la_1275 rfl ?_
  refine di_const la_1277 ?_
  refine di_iadd la_1278 ?_
  refine dr_xld la_1279 (by omega) (by omega) hL (fun x7 x7a x7b => ?_)
  obtain ⟨th_8, ni_11, pb_14, lo_17, hi_20, hb_23, ls_26, re_29, he_32, c9, c10, c12, c13, c15, c16, c18, c19, c21, c22, c24, c25, c27, c28, c30, c31, c33, hc34⟩ := I_md hI3
  have ho35 : he_32 = -1 ∨ (0 ≤ he_32 ∧ he_32 ≤ 9999 ∧ he_32 % 100 ≤ he_32 / 100) := c33
  refine dr_virt la_1280 rfl rfl rfl hc34 (s_X8_hand l hl hI3 (a1 := x7) (by omega) (by omega)) (by decide) (by omega) (by omega) (Nat.le_of_ble_eq_true rfl) kNS (kIS (fun y39 h36 hI37 hE38 y39f y39a y39b => ?_))
  have hE40 := Ext_tr hE6 hE38
  refine di_istore (ls2 := [some (.retAddr 2), some (.ref 0), some (.ref 26), some (.ref 36), some (dI (i)), some (dI (y5)), some (dI (y39))]) la_1283 rfl rfl ?_
  refine dr_goto la_1285 rfl ?_
  refine dm_wk (ls2 := [some (.retAddr 2), some (.ref 0), some (.ref 26), some (.ref 36), some (dI (i)), none, none]) ⟨Or.inr rfl, Or.inr rfl, Or.inr rfl, Or.inr rfl, Or.inr rfl, Or.inl rfl, Or.inl rfl, trivial⟩ ?_
  refine dm_cew (ce2 := ce + 1000) (sl2 := sl + 60000) (by omega) (by omega) ?_
  exact K _ _ hI37
set_option maxHeartbeats 4000000 in
set_option maxRecDepth 100000 in
theorem lw_c22 (l : Launch) (hl : l.stackTraces = false) {L : Nat} {xs : Nat → Int32} (hL : L ≤ 384) {kc : Int} {h : dm_H} (hI : Inv kc kc h) {i : Int} (hi0 : 0 ≤ i) (hi6 : i + 6 ≤ L) {ce sl : Nat} (hce : ce + 1000 ≤ 1200128) (hsl : sl + 60000 ≤ 5501098) (K : lw_K l L xs i (ce + 1000) (sl + 60000)) : dm_W (lw_E L xs) lw_PL l 329 420 1200128 5501098 1288 [some (.retAddr 2), some (.ref 0), some (.ref 26), some (.ref 36), some (dI (i)), none, none] [] h ce sl := by
  refine di_aload_n la_1288 rfl ?_
  refine di_aload_n la_1289 rfl ?_
  refine dr_statH la_1290 rfl (by decide +kernel) rfl (s_L_next l hl hI ) (by decide) (by omega) (by omega) (Nat.le_of_ble_eq_true rfl) kNS (kIS (fun y4 h1 hI2 hE3 y4f y4a y4b => ?_))
  have hE5 := hE3
  refine di_istore (ls2 := [some (.retAddr 2), some (.ref 0), some (.ref 26), some (.ref 36), some (dI (i)), some (dI (y4)), none]) la_1293 rfl rfl ?_
  refine di_aload_n la_1295 rfl ?_
  obtain ⟨th_6, ni_9, pb_12, lo_15, hi_18, hb_21, ls_24, re_27, he_30, c7, c8, c10, c11, c13, c14, c16, c17, c19, c20, c22, c23, c25, c26, c28, c29, c31, hc32⟩ := I_md hI2
  have ho33 : he_30 = -1 ∨ (0 ≤ he_30 ∧ he_30 ≤ 9999 ∧ he_30 % 100 ≤ he_30 / 100) := c31
  refine dr_virt la_1296 rfl rfl rfl hc32 (s_X8_next l hl hI2 ) (by decide) (by omega) (by omega) (Nat.le_of_ble_eq_true rfl) kNS (kIS (fun y37 h34 hI35 hE36 y37f y37a y37b => ?_))
  have hE38 := Ext_tr hE5 hE36
  refine di_istore (ls2 := [some (.retAddr 2), some (.ref 0), some (.ref 26), some (.ref 36), some (dI (i)), some (dI (y4)), some (dI (y37))]) la_1299 rfl rfl ?_
  refine dr_goto la_1301 rfl ?_
  refine dm_wk (ls2 := [some (.retAddr 2), some (.ref 0), some (.ref 26), some (.ref 36), some (dI (i)), none, none]) ⟨Or.inr rfl, Or.inr rfl, Or.inr rfl, Or.inr rfl, Or.inr rfl, Or.inl rfl, Or.inl rfl, trivial⟩ ?_
  refine dm_cew (ce2 := ce + 1000) (sl2 := sl + 60000) (by omega) (by omega) ?_
  exact K _ _ hI35
set_option maxHeartbeats 4000000 in
set_option maxRecDepth 100000 in
theorem lw_c23 (l : Launch) (hl : l.stackTraces = false) {L : Nat} {xs : Nat → Int32} (hL : L ≤ 384) {kc : Int} {h : dm_H} (hI : Inv kc kc h) {i : Int} (hi0 : 0 ≤ i) (hi6 : i + 6 ≤ L) {ce sl : Nat} (hce : ce + 1000 ≤ 1200128) (hsl : sl + 60000 ≤ 5501098) (K : lw_K l L xs i (ce + 1000) (sl + 60000)) : dm_W (lw_E L xs) lw_PL l 329 420 1200128 5501098 1304 [some (.retAddr 2), some (.ref 0), some (.ref 26), some (.ref 36), some (dI (i)), none, none] [] h ce sl := by
  refine di_aload_n la_1304 rfl ?_
  refine dr_aload_n la_1305 rfl (Or.inr (Or.inr ⟨_, rfl⟩)) ?_
  refine dr_iload la_1306 rfl ?_
  refine di_const la_1308 ?_
  refine di_iadd la_1309 ?_
  refine dr_xld la_1310 (by omega) (by omega) hL (fun x1 x1a x1b => ?_)
  refine di_aload_n la_1311 rfl ?_
  refine dr_statH la_1312 rfl (by decide +kernel) rfl (s_L_renote l hl hI (a1 := x1) (by omega) (by omega)) (by decide) (by omega) (by omega) (Nat.le_of_ble_eq_true rfl) kNS (kIS (fun y5 h2 hI3 hE4 y5f y5a y5b => ?_))
  have hE6 := hE4
  refine di_istore (ls2 := [some (.retAddr 2), some (.ref 0), some (.ref 26), some (.ref 36), some (dI (i)), some (dI (y5)), none]) la_1315 rfl rfl ?_
  refine di_aload_n la_1317 rfl ?_
  refine dr_aload_n la_1318 rfl (Or.inr (Or.inr ⟨_, rfl⟩)) ?_
  refine dr_iload la_1319 rfl ?_
  refine di_const la_1321 ?_
  refine di_iadd la_1322 ?_
  refine dr_xld la_1323 (by omega) (by omega) hL (fun x7 x7a x7b => ?_)
  obtain ⟨th_8, ni_11, pb_14, lo_17, hi_20, hb_23, ls_26, re_29, he_32, c9, c10, c12, c13, c15, c16, c18, c19, c21, c22, c24, c25, c27, c28, c30, c31, c33, hc34⟩ := I_md hI3
  have ho35 : he_32 = -1 ∨ (0 ≤ he_32 ∧ he_32 ≤ 9999 ∧ he_32 % 100 ≤ he_32 / 100) := c33
  refine dr_virt la_1324 rfl rfl rfl hc34 (s_X8_renote l hl hI3 (a1 := x7) (by omega) (by omega)) (by decide) (by omega) (by omega) (Nat.le_of_ble_eq_true rfl) kNS (kIS (fun y39 h36 hI37 hE38 y39f y39a y39b => ?_))
  have hE40 := Ext_tr hE6 hE38
  refine di_istore (ls2 := [some (.retAddr 2), some (.ref 0), some (.ref 26), some (.ref 36), some (dI (i)), some (dI (y5)), some (dI (y39))]) la_1327 rfl rfl ?_
  refine dr_goto la_1329 rfl ?_
  refine dm_wk (ls2 := [some (.retAddr 2), some (.ref 0), some (.ref 26), some (.ref 36), some (dI (i)), none, none]) ⟨Or.inr rfl, Or.inr rfl, Or.inr rfl, Or.inr rfl, Or.inr rfl, Or.inl rfl, Or.inl rfl, trivial⟩ ?_
  refine dm_cew (ce2 := ce + 1000) (sl2 := sl + 60000) (by omega) (by omega) ?_
  exact K _ _ hI37
set_option maxHeartbeats 4000000 in
set_option maxRecDepth 100000 in
theorem lw_c24 (l : Launch) (hl : l.stackTraces = false) {L : Nat} {xs : Nat → Int32} (hL : L ≤ 384) {kc : Int} {h : dm_H} (hI : Inv kc kc h) {i : Int} (hi0 : 0 ≤ i) (hi6 : i + 6 ≤ L) {ce sl : Nat} (hce : ce + 1000 ≤ 1200128) (hsl : sl + 60000 ≤ 5501098) (K : lw_K l L xs i (ce + 1000) (sl + 60000)) : dm_W (lw_E L xs) lw_PL l 329 420 1200128 5501098 1332 [some (.retAddr 2), some (.ref 0), some (.ref 26), some (.ref 36), some (dI (i)), none, none] [] h ce sl := by
  refine di_aload_n la_1332 rfl ?_
  refine di_aload_n la_1333 rfl ?_
  refine dr_statH la_1334 rfl (by decide +kernel) rfl (s_L_takeOut l hl hI ) (by decide) (by omega) (by omega) (Nat.le_of_ble_eq_true rfl) kNS (kIS (fun y4 h1 hI2 hE3 y4f y4a y4b => ?_))
  have hE5 := hE3
  refine di_istore (ls2 := [some (.retAddr 2), some (.ref 0), some (.ref 26), some (.ref 36), some (dI (i)), some (dI (y4)), none]) la_1337 rfl rfl ?_
  refine di_aload_n la_1339 rfl ?_
  obtain ⟨th_6, ni_9, pb_12, lo_15, hi_18, hb_21, ls_24, re_27, he_30, c7, c8, c10, c11, c13, c14, c16, c17, c19, c20, c22, c23, c25, c26, c28, c29, c31, hc32⟩ := I_md hI2
  have ho33 : he_30 = -1 ∨ (0 ≤ he_30 ∧ he_30 ≤ 9999 ∧ he_30 % 100 ≤ he_30 / 100) := c31
  refine dr_virt la_1340 rfl rfl rfl hc32 (s_X8_takeOut l hl hI2 ) (by decide) (by omega) (by omega) (Nat.le_of_ble_eq_true rfl) kNS (kIS (fun y37 h34 hI35 hE36 y37f y37a y37b => ?_))
  have hE38 := Ext_tr hE5 hE36
  refine di_istore (ls2 := [some (.retAddr 2), some (.ref 0), some (.ref 26), some (.ref 36), some (dI (i)), some (dI (y4)), some (dI (y37))]) la_1343 rfl rfl ?_
  refine dr_goto la_1345 rfl ?_
  refine dm_wk (ls2 := [some (.retAddr 2), some (.ref 0), some (.ref 26), some (.ref 36), some (dI (i)), none, none]) ⟨Or.inr rfl, Or.inr rfl, Or.inr rfl, Or.inr rfl, Or.inr rfl, Or.inl rfl, Or.inl rfl, trivial⟩ ?_
  refine dm_cew (ce2 := ce + 1000) (sl2 := sl + 60000) (by omega) (by omega) ?_
  exact K _ _ hI35
set_option maxHeartbeats 4000000 in
set_option maxRecDepth 100000 in
theorem lw_c25 (l : Launch) (hl : l.stackTraces = false) {L : Nat} {xs : Nat → Int32} (hL : L ≤ 384) {kc : Int} {h : dm_H} (hI : Inv kc kc h) {i : Int} (hi0 : 0 ≤ i) (hi6 : i + 6 ≤ L) {ce sl : Nat} (hce : ce + 1000 ≤ 1200128) (hsl : sl + 60000 ≤ 5501098) (K : lw_K l L xs i (ce + 1000) (sl + 60000)) : dm_W (lw_E L xs) lw_PL l 329 420 1200128 5501098 1348 [some (.retAddr 2), some (.ref 0), some (.ref 26), some (.ref 36), some (dI (i)), none, none] [] h ce sl := by
  refine di_aload_n la_1348 rfl ?_
  refine dr_aload_n la_1349 rfl (Or.inr (Or.inr ⟨_, rfl⟩)) ?_
  refine dr_iload la_1350 rfl ?_
  refine di_const la_1352 ?_
  refine di_iadd la_1353 ?_
  refine dr_xld la_1354 (by omega) (by omega) hL (fun x1 x1a x1b => ?_)
  refine dr_aload_n la_1355 rfl (Or.inr (Or.inr ⟨_, rfl⟩)) ?_
  refine dr_iload la_1356 rfl ?_
  refine di_const la_1358 ?_
  refine di_iadd la_1359 ?_
  refine dr_xld la_1360 (by omega) (by omega) hL (fun x2 x2a x2b => ?_)
  refine di_aload_n la_1361 rfl ?_
  refine dr_statH la_1362 rfl (by decide +kernel) rfl (s_L_ofBook l hl hI (a1 := x1) (by omega) (by omega) (a2 := x2) (by omega) (by omega)) (by decide) (by omega) (by omega) (Nat.le_of_ble_eq_true rfl) kNS (kIS (fun y6 h3 hI4 hE5 y6f y6a y6b => ?_))
  have hE7 := hE5
  refine di_istore (ls2 := [some (.retAddr 2), some (.ref 0), some (.ref 26), some (.ref 36), some (dI (i)), some (dI (y6)), none]) la_1365 rfl rfl ?_
  refine di_aload_n la_1367 rfl ?_
  refine dr_aload_n la_1368 rfl (Or.inr (Or.inr ⟨_, rfl⟩)) ?_
  refine dr_iload la_1369 rfl ?_
  refine di_const la_1371 ?_
  refine di_iadd la_1372 ?_
  refine dr_xld la_1373 (by omega) (by omega) hL (fun x8 x8a x8b => ?_)
  refine dr_aload_n la_1374 rfl (Or.inr (Or.inr ⟨_, rfl⟩)) ?_
  refine dr_iload la_1375 rfl ?_
  refine di_const la_1377 ?_
  refine di_iadd la_1378 ?_
  refine dr_xld la_1379 (by omega) (by omega) hL (fun x9 x9a x9b => ?_)
  obtain ⟨th_10, ni_13, pb_16, lo_19, hi_22, hb_25, ls_28, re_31, he_34, c11, c12, c14, c15, c17, c18, c20, c21, c23, c24, c26, c27, c29, c30, c32, c33, c35, hc36⟩ := I_md hI4
  have ho37 : he_34 = -1 ∨ (0 ≤ he_34 ∧ he_34 ≤ 9999 ∧ he_34 % 100 ≤ he_34 / 100) := c35
  refine dr_virt la_1380 rfl rfl rfl hc36 (s_X8_ofBook l hl hI4 (a1 := x8) (by omega) (by omega) (a2 := x9) (by omega) (by omega)) (by decide) (by omega) (by omega) (Nat.le_of_ble_eq_true rfl) kNS (kIS (fun y41 h38 hI39 hE40 y41f y41a y41b => ?_))
  have hE42 := Ext_tr hE7 hE40
  refine di_istore (ls2 := [some (.retAddr 2), some (.ref 0), some (.ref 26), some (.ref 36), some (dI (i)), some (dI (y6)), some (dI (y41))]) la_1383 rfl rfl ?_
  refine dr_goto la_1385 rfl ?_
  refine dm_wk (ls2 := [some (.retAddr 2), some (.ref 0), some (.ref 26), some (.ref 36), some (dI (i)), none, none]) ⟨Or.inr rfl, Or.inr rfl, Or.inr rfl, Or.inr rfl, Or.inr rfl, Or.inl rfl, Or.inl rfl, trivial⟩ ?_
  refine dm_cew (ce2 := ce + 1000) (sl2 := sl + 60000) (by omega) (by omega) ?_
  exact K _ _ hI39
set_option maxHeartbeats 4000000 in
set_option maxRecDepth 100000 in
theorem lw_c26 (l : Launch) (hl : l.stackTraces = false) {L : Nat} {xs : Nat → Int32} (hL : L ≤ 384) {kc : Int} {h : dm_H} (hI : Inv kc kc h) {i : Int} (hi0 : 0 ≤ i) (hi6 : i + 6 ≤ L) {ce sl : Nat} (hce : ce + 1000 ≤ 1200128) (hsl : sl + 60000 ≤ 5501098) (K : lw_K l L xs i (ce + 1000) (sl + 60000)) : dm_W (lw_E L xs) lw_PL l 329 420 1200128 5501098 1388 [some (.retAddr 2), some (.ref 0), some (.ref 26), some (.ref 36), some (dI (i)), none, none] [] h ce sl := by
  refine di_aload_n la_1388 rfl ?_
  refine dr_aload_n la_1389 rfl (Or.inr (Or.inr ⟨_, rfl⟩)) ?_
  refine dr_iload la_1390 rfl ?_
  refine di_const la_1392 ?_
  refine di_iadd la_1393 ?_
  refine dr_xld la_1394 (by omega) (by omega) hL (fun x1 x1a x1b => ?_)
  refine dr_aload_n la_1395 rfl (Or.inr (Or.inr ⟨_, rfl⟩)) ?_
  refine dr_iload la_1396 rfl ?_
  refine di_const la_1398 ?_
  refine di_iadd la_1399 ?_
  refine dr_xld la_1400 (by omega) (by omega) hL (fun x2 x2a x2b => ?_)
  refine dr_aload_n la_1401 rfl (Or.inr (Or.inr ⟨_, rfl⟩)) ?_
  refine dr_iload la_1402 rfl ?_
  refine di_const la_1404 ?_
  refine di_iadd la_1405 ?_
  refine dr_xld la_1406 (by omega) (by omega) hL (fun x3 x3a x3b => ?_)
  refine dr_aload_n la_1407 rfl (Or.inr (Or.inr ⟨_, rfl⟩)) ?_
  refine dr_iload la_1408 rfl ?_
  refine di_const la_1410 ?_
  refine di_iadd la_1411 ?_
  refine dr_xld la_1412 (by omega) (by omega) hL (fun x4 x4a x4b => ?_)
  refine di_aload_n la_1413 rfl ?_
  refine dr_statH la_1414 rfl (by decide +kernel) rfl (s_L_noteOf l hl hI (a1 := x1) (by omega) (by omega) (a2 := x2) (by omega) (by omega) (a3 := x3) (by omega) (by omega) (a4 := x4) (by omega) (by omega)) (by decide) (by omega) (by omega) (Nat.le_of_ble_eq_true rfl) kNS (kIS (fun y8 h5 hI6 hE7 y8f y8a y8b => ?_))
  have hE9 := hE7
  refine di_istore (ls2 := [some (.retAddr 2), some (.ref 0), some (.ref 26), some (.ref 36), some (dI (i)), some (dI (y8)), none]) la_1417 rfl rfl ?_
  refine di_aload_n la_1419 rfl ?_
  refine dr_aload_n la_1420 rfl (Or.inr (Or.inr ⟨_, rfl⟩)) ?_
  refine dr_iload la_1421 rfl ?_
  refine di_const la_1423 ?_
  refine di_iadd la_1424 ?_
  refine dr_xld la_1425 (by omega) (by omega) hL (fun x10 x10a x10b => ?_)
  refine dr_aload_n la_1426 rfl (Or.inr (Or.inr ⟨_, rfl⟩)) ?_
  refine dr_iload la_1427 rfl ?_
  refine di_const la_1429 ?_
  refine di_iadd la_1430 ?_
  refine dr_xld la_1431 (by omega) (by omega) hL (fun x11 x11a x11b => ?_)
  refine dr_aload_n la_1432 rfl (Or.inr (Or.inr ⟨_, rfl⟩)) ?_
  refine dr_iload la_1433 rfl ?_
  refine di_const la_1435 ?_
  refine di_iadd la_1436 ?_
  refine dr_xld la_1437 (by omega) (by omega) hL (fun x12 x12a x12b => ?_)
  refine dr_aload_n la_1438 rfl (Or.inr (Or.inr ⟨_, rfl⟩)) ?_
  refine dr_iload la_1439 rfl ?_
  refine di_const la_1441 ?_
  refine di_iadd la_1442 ?_
  refine dr_xld la_1443 (by omega) (by omega) hL (fun x13 x13a x13b => ?_)
  obtain ⟨th_14, ni_17, pb_20, lo_23, hi_26, hb_29, ls_32, re_35, he_38, c15, c16, c18, c19, c21, c22, c24, c25, c27, c28, c30, c31, c33, c34, c36, c37, c39, hc40⟩ := I_md hI6
  have ho41 : he_38 = -1 ∨ (0 ≤ he_38 ∧ he_38 ≤ 9999 ∧ he_38 % 100 ≤ he_38 / 100) := c39
  refine dr_virt la_1444 rfl rfl rfl hc40 (s_X8_noteOf l hl hI6 (a1 := x10) (by omega) (by omega) (a2 := x11) (by omega) (by omega) (a3 := x12) (by omega) (by omega) (a4 := x13) (by omega) (by omega)) (by decide) (by omega) (by omega) (Nat.le_of_ble_eq_true rfl) kNS (kIS (fun y45 h42 hI43 hE44 y45f y45a y45b => ?_))
  have hE46 := Ext_tr hE9 hE44
  refine di_istore (ls2 := [some (.retAddr 2), some (.ref 0), some (.ref 26), some (.ref 36), some (dI (i)), some (dI (y8)), some (dI (y45))]) la_1447 rfl rfl ?_
  refine dr_goto la_1449 rfl ?_
  refine dm_wk (ls2 := [some (.retAddr 2), some (.ref 0), some (.ref 26), some (.ref 36), some (dI (i)), none, none]) ⟨Or.inr rfl, Or.inr rfl, Or.inr rfl, Or.inr rfl, Or.inr rfl, Or.inl rfl, Or.inl rfl, trivial⟩ ?_
  refine dm_cew (ce2 := ce + 1000) (sl2 := sl + 60000) (by omega) (by omega) ?_
  exact K _ _ hI43
set_option maxHeartbeats 4000000 in
set_option maxRecDepth 100000 in
theorem lw_c27 (l : Launch) (hl : l.stackTraces = false) {L : Nat} {xs : Nat → Int32} (hL : L ≤ 384) {kc : Int} {h : dm_H} (hI : Inv kc kc h) {i : Int} (hi0 : 0 ≤ i) (hi6 : i + 6 ≤ L) {ce sl : Nat} (hce : ce + 1000 ≤ 1200128) (hsl : sl + 60000 ≤ 5501098) (K : lw_K l L xs i (ce + 1000) (sl + 60000)) : dm_W (lw_E L xs) lw_PL l 329 420 1200128 5501098 1452 [some (.retAddr 2), some (.ref 0), some (.ref 26), some (.ref 36), some (dI (i)), none, none] [] h ce sl := by
  refine di_aload_n la_1452 rfl ?_
  refine dr_aload_n la_1453 rfl (Or.inr (Or.inr ⟨_, rfl⟩)) ?_
  refine dr_iload la_1454 rfl ?_
  refine di_const la_1456 ?_
  refine di_iadd la_1457 ?_
  refine dr_xld la_1458 (by omega) (by omega) hL (fun x1 x1a x1b => ?_)
  refine dr_aload_n la_1459 rfl (Or.inr (Or.inr ⟨_, rfl⟩)) ?_
  refine dr_iload la_1460 rfl ?_
  refine di_const la_1462 ?_
  refine di_iadd la_1463 ?_
  refine dr_xld la_1464 (by omega) (by omega) hL (fun x2 x2a x2b => ?_)
  refine dr_aload_n la_1465 rfl (Or.inr (Or.inr ⟨_, rfl⟩)) ?_
  refine dr_iload la_1466 rfl ?_
  refine di_const la_1468 ?_
  refine di_iadd la_1469 ?_
  refine dr_xld la_1470 (by omega) (by omega) hL (fun x3 x3a x3b => ?_)
  refine di_aload_n la_1471 rfl ?_
  refine dr_statH la_1472 rfl (by decide +kernel) rfl (s_L_has l hl hI (a1 := x1) (by omega) (by omega) (a2 := x2) (by omega) (by omega) (a3 := x3) (by omega) (by omega)) (by decide) (by omega) (by omega) (Nat.le_of_ble_eq_true rfl) kNS (kIS (fun y7 h4 hI5 hE6 y7f y7a y7b => ?_))
  have hE8 := hE6
  refine di_istore (ls2 := [some (.retAddr 2), some (.ref 0), some (.ref 26), some (.ref 36), some (dI (i)), some (dI (y7)), none]) la_1475 rfl rfl ?_
  refine di_aload_n la_1477 rfl ?_
  refine dr_aload_n la_1478 rfl (Or.inr (Or.inr ⟨_, rfl⟩)) ?_
  refine dr_iload la_1479 rfl ?_
  refine di_const la_1481 ?_
  refine di_iadd la_1482 ?_
  refine dr_xld la_1483 (by omega) (by omega) hL (fun x9 x9a x9b => ?_)
  refine dr_aload_n la_1484 rfl (Or.inr (Or.inr ⟨_, rfl⟩)) ?_
  refine dr_iload la_1485 rfl ?_
  refine di_const la_1487 ?_
  refine di_iadd la_1488 ?_
  refine dr_xld la_1489 (by omega) (by omega) hL (fun x10 x10a x10b => ?_)
  refine dr_aload_n la_1490 rfl (Or.inr (Or.inr ⟨_, rfl⟩)) ?_
  refine dr_iload la_1491 rfl ?_
  refine di_const la_1493 ?_
  refine di_iadd la_1494 ?_
  refine dr_xld la_1495 (by omega) (by omega) hL (fun x11 x11a x11b => ?_)
  obtain ⟨th_12, ni_15, pb_18, lo_21, hi_24, hb_27, ls_30, re_33, he_36, c13, c14, c16, c17, c19, c20, c22, c23, c25, c26, c28, c29, c31, c32, c34, c35, c37, hc38⟩ := I_md hI5
  have ho39 : he_36 = -1 ∨ (0 ≤ he_36 ∧ he_36 ≤ 9999 ∧ he_36 % 100 ≤ he_36 / 100) := c37
  refine dr_virt la_1496 rfl rfl rfl hc38 (s_X8_has l hl hI5 (a1 := x9) (by omega) (by omega) (a2 := x10) (by omega) (by omega) (a3 := x11) (by omega) (by omega)) (by decide) (by omega) (by omega) (Nat.le_of_ble_eq_true rfl) kNS (kIS (fun y43 h40 hI41 hE42 y43f y43a y43b => ?_))
  have hE44 := Ext_tr hE8 hE42
  have y43g : 0 ≤ y43 ∧ y43 ≤ 1 := y43f
  refine di_istore (ls2 := [some (.retAddr 2), some (.ref 0), some (.ref 26), some (.ref 36), some (dI (i)), some (dI (y7)), some (dI (y43))]) la_1499 rfl rfl ?_
  refine dr_goto la_1501 rfl ?_
  refine dm_wk (ls2 := [some (.retAddr 2), some (.ref 0), some (.ref 26), some (.ref 36), some (dI (i)), none, none]) ⟨Or.inr rfl, Or.inr rfl, Or.inr rfl, Or.inr rfl, Or.inr rfl, Or.inl rfl, Or.inl rfl, trivial⟩ ?_
  refine dm_cew (ce2 := ce + 1000) (sl2 := sl + 60000) (by omega) (by omega) ?_
  exact K _ _ hI41
set_option maxHeartbeats 4000000 in
set_option maxRecDepth 100000 in
theorem lw_c28 (l : Launch) (hl : l.stackTraces = false) {L : Nat} {xs : Nat → Int32} (hL : L ≤ 384) {kc : Int} {h : dm_H} (hI : Inv kc kc h) {i : Int} (hi0 : 0 ≤ i) (hi6 : i + 6 ≤ L) {ce sl : Nat} (hce : ce + 1000 ≤ 1200128) (hsl : sl + 60000 ≤ 5501098) (K : lw_K l L xs i (ce + 1000) (sl + 60000)) : dm_W (lw_E L xs) lw_PL l 329 420 1200128 5501098 1504 [some (.retAddr 2), some (.ref 0), some (.ref 26), some (.ref 36), some (dI (i)), none, none] [] h ce sl := by
  refine di_aload_n la_1504 rfl ?_
  refine dr_aload_n la_1505 rfl (Or.inr (Or.inr ⟨_, rfl⟩)) ?_
  refine dr_iload la_1506 rfl ?_
  refine di_const la_1508 ?_
  refine di_iadd la_1509 ?_
  refine dr_xld la_1510 (by omega) (by omega) hL (fun x1 x1a x1b => ?_)
  refine dr_aload_n la_1511 rfl (Or.inr (Or.inr ⟨_, rfl⟩)) ?_
  refine dr_iload la_1512 rfl ?_
  refine di_const la_1514 ?_
  refine di_iadd la_1515 ?_
  refine dr_xld la_1516 (by omega) (by omega) hL (fun x2 x2a x2b => ?_)
  refine di_aload_n la_1517 rfl ?_
  refine dr_statH la_1518 rfl (by decide +kernel) rfl (s_L_hasNote l hl hI (a1 := x1) (by omega) (by omega) (a2 := x2) (by omega) (by omega)) (by decide) (by omega) (by omega) (Nat.le_of_ble_eq_true rfl) kNS (kIS (fun y6 h3 hI4 hE5 y6f y6a y6b => ?_))
  have hE7 := hE5
  refine di_istore (ls2 := [some (.retAddr 2), some (.ref 0), some (.ref 26), some (.ref 36), some (dI (i)), some (dI (y6)), none]) la_1521 rfl rfl ?_
  refine di_aload_n la_1523 rfl ?_
  refine dr_aload_n la_1524 rfl (Or.inr (Or.inr ⟨_, rfl⟩)) ?_
  refine dr_iload la_1525 rfl ?_
  refine di_const la_1527 ?_
  refine di_iadd la_1528 ?_
  refine dr_xld la_1529 (by omega) (by omega) hL (fun x8 x8a x8b => ?_)
  refine dr_aload_n la_1530 rfl (Or.inr (Or.inr ⟨_, rfl⟩)) ?_
  refine dr_iload la_1531 rfl ?_
  refine di_const la_1533 ?_
  refine di_iadd la_1534 ?_
  refine dr_xld la_1535 (by omega) (by omega) hL (fun x9 x9a x9b => ?_)
  obtain ⟨th_10, ni_13, pb_16, lo_19, hi_22, hb_25, ls_28, re_31, he_34, c11, c12, c14, c15, c17, c18, c20, c21, c23, c24, c26, c27, c29, c30, c32, c33, c35, hc36⟩ := I_md hI4
  have ho37 : he_34 = -1 ∨ (0 ≤ he_34 ∧ he_34 ≤ 9999 ∧ he_34 % 100 ≤ he_34 / 100) := c35
  refine dr_virt la_1536 rfl rfl rfl hc36 (s_X8_hasNote l hl hI4 (a1 := x8) (by omega) (by omega) (a2 := x9) (by omega) (by omega)) (by decide) (by omega) (by omega) (Nat.le_of_ble_eq_true rfl) kNS (kIS (fun y41 h38 hI39 hE40 y41f y41a y41b => ?_))
  have hE42 := Ext_tr hE7 hE40
  have y41g : 0 ≤ y41 ∧ y41 ≤ 1 := y41f
  refine di_istore (ls2 := [some (.retAddr 2), some (.ref 0), some (.ref 26), some (.ref 36), some (dI (i)), some (dI (y6)), some (dI (y41))]) la_1539 rfl rfl ?_
  refine dr_goto la_1541 rfl ?_
  refine dm_wk (ls2 := [some (.retAddr 2), some (.ref 0), some (.ref 26), some (.ref 36), some (dI (i)), none, none]) ⟨Or.inr rfl, Or.inr rfl, Or.inr rfl, Or.inr rfl, Or.inr rfl, Or.inl rfl, Or.inl rfl, trivial⟩ ?_
  refine dm_cew (ce2 := ce + 1000) (sl2 := sl + 60000) (by omega) (by omega) ?_
  exact K _ _ hI39
set_option maxHeartbeats 4000000 in
set_option maxRecDepth 100000 in
theorem lw_c29 (l : Launch) (hl : l.stackTraces = false) {L : Nat} {xs : Nat → Int32} (hL : L ≤ 384) {kc : Int} {h : dm_H} (hI : Inv kc kc h) {i : Int} (hi0 : 0 ≤ i) (hi6 : i + 6 ≤ L) {ce sl : Nat} (hce : ce + 1000 ≤ 1200128) (hsl : sl + 60000 ≤ 5501098) (K : lw_K l L xs i (ce + 1000) (sl + 60000)) : dm_W (lw_E L xs) lw_PL l 329 420 1200128 5501098 1544 [some (.retAddr 2), some (.ref 0), some (.ref 26), some (.ref 36), some (dI (i)), none, none] [] h ce sl := by
  refine di_aload_n la_1544 rfl ?_
  refine dr_aload_n la_1545 rfl (Or.inr (Or.inr ⟨_, rfl⟩)) ?_
  refine dr_iload la_1546 rfl ?_
  refine di_const la_1548 ?_
  refine di_iadd la_1549 ?_
  refine dr_xld la_1550 (by omega) (by omega) hL (fun x1 x1a x1b => ?_)
  refine dr_aload_n la_1551 rfl (Or.inr (Or.inr ⟨_, rfl⟩)) ?_
  refine dr_iload la_1552 rfl ?_
  refine di_const la_1554 ?_
  refine di_iadd la_1555 ?_
  refine dr_xld la_1556 (by omega) (by omega) hL (fun x2 x2a x2b => ?_)
  refine dr_aload_n la_1557 rfl (Or.inr (Or.inr ⟨_, rfl⟩)) ?_
  refine dr_iload la_1558 rfl ?_
  refine di_const la_1560 ?_
  refine di_iadd la_1561 ?_
  refine dr_xld la_1562 (by omega) (by omega) hL (fun x3 x3a x3b => ?_)
  refine dr_aload_n la_1563 rfl (Or.inr (Or.inr ⟨_, rfl⟩)) ?_
  refine dr_iload la_1564 rfl ?_
  refine di_const la_1566 ?_
  refine di_iadd la_1567 ?_
  refine dr_xld la_1568 (by omega) (by omega) hL (fun x4 x4a x4b => ?_)
  refine di_aload_n la_1569 rfl ?_
  refine dr_statH la_1570 rfl (by decide +kernel) rfl (s_L_near l hl hI (a1 := x1) (by omega) (by omega) (a2 := x2) (by omega) (by omega) (a3 := x3) (by omega) (by omega) (a4 := x4) (by omega) (by omega)) (by decide) (by omega) (by omega) (Nat.le_of_ble_eq_true rfl) kNS (kIS (fun y8 h5 hI6 hE7 y8f y8a y8b => ?_))
  have hE9 := hE7
  refine di_istore (ls2 := [some (.retAddr 2), some (.ref 0), some (.ref 26), some (.ref 36), some (dI (i)), some (dI (y8)), none]) la_1573 rfl rfl ?_
  refine di_aload_n la_1575 rfl ?_
  refine dr_aload_n la_1576 rfl (Or.inr (Or.inr ⟨_, rfl⟩)) ?_
  refine dr_iload la_1577 rfl ?_
  refine di_const la_1579 ?_
  refine di_iadd la_1580 ?_
  refine dr_xld la_1581 (by omega) (by omega) hL (fun x10 x10a x10b => ?_)
  refine dr_aload_n la_1582 rfl (Or.inr (Or.inr ⟨_, rfl⟩)) ?_
  refine dr_iload la_1583 rfl ?_
  refine di_const la_1585 ?_
  refine di_iadd la_1586 ?_
  refine dr_xld la_1587 (by omega) (by omega) hL (fun x11 x11a x11b => ?_)
  refine dr_aload_n la_1588 rfl (Or.inr (Or.inr ⟨_, rfl⟩)) ?_
  refine dr_iload la_1589 rfl ?_
  refine di_const la_1591 ?_
  refine di_iadd la_1592 ?_
  refine dr_xld la_1593 (by omega) (by omega) hL (fun x12 x12a x12b => ?_)
  refine dr_aload_n la_1594 rfl (Or.inr (Or.inr ⟨_, rfl⟩)) ?_
  refine dr_iload la_1595 rfl ?_
  refine di_const la_1597 ?_
  refine di_iadd la_1598 ?_
  refine dr_xld la_1599 (by omega) (by omega) hL (fun x13 x13a x13b => ?_)
  obtain ⟨th_14, ni_17, pb_20, lo_23, hi_26, hb_29, ls_32, re_35, he_38, c15, c16, c18, c19, c21, c22, c24, c25, c27, c28, c30, c31, c33, c34, c36, c37, c39, hc40⟩ := I_md hI6
  have ho41 : he_38 = -1 ∨ (0 ≤ he_38 ∧ he_38 ≤ 9999 ∧ he_38 % 100 ≤ he_38 / 100) := c39
  refine dr_virt la_1600 rfl rfl rfl hc40 (s_X8_near l hl hI6 (a1 := x10) (by omega) (by omega) (a2 := x11) (by omega) (by omega) (a3 := x12) (by omega) (by omega) (a4 := x13) (by omega) (by omega)) (by decide) (by omega) (by omega) (Nat.le_of_ble_eq_true rfl) kNS (kIS (fun y45 h42 hI43 hE44 y45f y45a y45b => ?_))
  have hE46 := Ext_tr hE9 hE44
  refine di_istore (ls2 := [some (.retAddr 2), some (.ref 0), some (.ref 26), some (.ref 36), some (dI (i)), some (dI (y8)), some (dI (y45))]) la_1603 rfl rfl ?_
  refine dr_goto la_1605 rfl ?_
  refine dm_wk (ls2 := [some (.retAddr 2), some (.ref 0), some (.ref 26), some (.ref 36), some (dI (i)), none, none]) ⟨Or.inr rfl, Or.inr rfl, Or.inr rfl, Or.inr rfl, Or.inr rfl, Or.inl rfl, Or.inl rfl, trivial⟩ ?_
  refine dm_cew (ce2 := ce + 1000) (sl2 := sl + 60000) (by omega) (by omega) ?_
  exact K _ _ hI43
set_option maxHeartbeats 4000000 in
set_option maxRecDepth 100000 in
theorem lw_c30 (l : Launch) (hl : l.stackTraces = false) {L : Nat} {xs : Nat → Int32} (hL : L ≤ 384) {kc : Int} {h : dm_H} (hI : Inv kc kc h) {i : Int} (hi0 : 0 ≤ i) (hi6 : i + 6 ≤ L) {ce sl : Nat} (hce : ce + 1000 ≤ 1200128) (hsl : sl + 60000 ≤ 5501098) (K : lw_K l L xs i (ce + 1000) (sl + 60000)) : dm_W (lw_E L xs) lw_PL l 329 420 1200128 5501098 1608 [some (.retAddr 2), some (.ref 0), some (.ref 26), some (.ref 36), some (dI (i)), none, none] [] h ce sl := by
  refine di_aload_n la_1608 rfl ?_
  refine dr_aload_n la_1609 rfl (Or.inr (Or.inr ⟨_, rfl⟩)) ?_
  refine dr_iload la_1610 rfl ?_
  refine di_const la_1612 ?_
  refine di_iadd la_1613 ?_
  refine dr_xld la_1614 (by omega) (by omega) hL (fun x1 x1a x1b => ?_)
  refine dr_aload_n la_1615 rfl (Or.inr (Or.inr ⟨_, rfl⟩)) ?_
  refine dr_iload la_1616 rfl ?_
  refine di_const la_1618 ?_
  refine di_iadd la_1619 ?_
  refine dr_xld la_1620 (by omega) (by omega) hL (fun x2 x2a x2b => ?_)
  refine dr_aload_n la_1621 rfl (Or.inr (Or.inr ⟨_, rfl⟩)) ?_
  refine dr_iload la_1622 rfl ?_
  refine di_const la_1624 ?_
  refine di_iadd la_1625 ?_
  refine dr_xld la_1626 (by omega) (by omega) hL (fun x3 x3a x3b => ?_)
  refine dr_aload_n la_1627 rfl (Or.inr (Or.inr ⟨_, rfl⟩)) ?_
  refine dr_iload la_1628 rfl ?_
  refine di_const la_1630 ?_
  refine di_iadd la_1631 ?_
  refine dr_xld la_1632 (by omega) (by omega) hL (fun x4 x4a x4b => ?_)
  refine di_aload_n la_1633 rfl ?_
  refine dr_statH la_1634 rfl (by decide +kernel) rfl (s_L_many l hl hI (a1 := x1) (by omega) (by omega) (a2 := x2) (by omega) (by omega) (a3 := x3) (by omega) (by omega) (a4 := x4) (by omega) (by omega)) (by decide) (by omega) (by omega) (Nat.le_of_ble_eq_true rfl) kNS (kIS (fun y8 h5 hI6 hE7 y8f y8a y8b => ?_))
  have hE9 := hE7
  refine di_istore (ls2 := [some (.retAddr 2), some (.ref 0), some (.ref 26), some (.ref 36), some (dI (i)), some (dI (y8)), none]) la_1637 rfl rfl ?_
  refine di_aload_n la_1639 rfl ?_
  refine dr_aload_n la_1640 rfl (Or.inr (Or.inr ⟨_, rfl⟩)) ?_
  refine dr_iload la_1641 rfl ?_
  refine di_const la_1643 ?_
  refine di_iadd la_1644 ?_
  refine dr_xld la_1645 (by omega) (by omega) hL (fun x10 x10a x10b => ?_)
  refine dr_aload_n la_1646 rfl (Or.inr (Or.inr ⟨_, rfl⟩)) ?_
  refine dr_iload la_1647 rfl ?_
  refine di_const la_1649 ?_
  refine di_iadd la_1650 ?_
  refine dr_xld la_1651 (by omega) (by omega) hL (fun x11 x11a x11b => ?_)
  refine dr_aload_n la_1652 rfl (Or.inr (Or.inr ⟨_, rfl⟩)) ?_
  refine dr_iload la_1653 rfl ?_
  refine di_const la_1655 ?_
  refine di_iadd la_1656 ?_
  refine dr_xld la_1657 (by omega) (by omega) hL (fun x12 x12a x12b => ?_)
  refine dr_aload_n la_1658 rfl (Or.inr (Or.inr ⟨_, rfl⟩)) ?_
  refine dr_iload la_1659 rfl ?_
  refine di_const la_1661 ?_
  refine di_iadd la_1662 ?_
  refine dr_xld la_1663 (by omega) (by omega) hL (fun x13 x13a x13b => ?_)
  obtain ⟨th_14, ni_17, pb_20, lo_23, hi_26, hb_29, ls_32, re_35, he_38, c15, c16, c18, c19, c21, c22, c24, c25, c27, c28, c30, c31, c33, c34, c36, c37, c39, hc40⟩ := I_md hI6
  have ho41 : he_38 = -1 ∨ (0 ≤ he_38 ∧ he_38 ≤ 9999 ∧ he_38 % 100 ≤ he_38 / 100) := c39
  refine dr_virt la_1664 rfl rfl rfl hc40 (s_X8_many l hl hI6 (a1 := x10) (by omega) (by omega) (a2 := x11) (by omega) (by omega) (a3 := x12) (by omega) (by omega) (a4 := x13) (by omega) (by omega)) (by decide) (by omega) (by omega) (Nat.le_of_ble_eq_true rfl) kNS (kIS (fun y45 h42 hI43 hE44 y45f y45a y45b => ?_))
  have hE46 := Ext_tr hE9 hE44
  refine di_istore (ls2 := [some (.retAddr 2), some (.ref 0), some (.ref 26), some (.ref 36), some (dI (i)), some (dI (y8)), some (dI (y45))]) la_1667 rfl rfl ?_
  refine dr_goto la_1669 rfl ?_
  refine dm_wk (ls2 := [some (.retAddr 2), some (.ref 0), some (.ref 26), some (.ref 36), some (dI (i)), none, none]) ⟨Or.inr rfl, Or.inr rfl, Or.inr rfl, Or.inr rfl, Or.inr rfl, Or.inl rfl, Or.inl rfl, trivial⟩ ?_
  refine dm_cew (ce2 := ce + 1000) (sl2 := sl + 60000) (by omega) (by omega) ?_
  exact K _ _ hI43
set_option maxHeartbeats 4000000 in
set_option maxRecDepth 100000 in
theorem lw_c31 (l : Launch) (hl : l.stackTraces = false) {L : Nat} {xs : Nat → Int32} (hL : L ≤ 384) {kc : Int} {h : dm_H} (hI : Inv kc kc h) {i : Int} (hi0 : 0 ≤ i) (hi6 : i + 6 ≤ L) {ce sl : Nat} (hce : ce + 1000 ≤ 1200128) (hsl : sl + 60000 ≤ 5501098) (K : lw_K l L xs i (ce + 1000) (sl + 60000)) : dm_W (lw_E L xs) lw_PL l 329 420 1200128 5501098 1672 [some (.retAddr 2), some (.ref 0), some (.ref 26), some (.ref 36), some (dI (i)), none, none] [] h ce sl := by
  refine di_aload_n la_1672 rfl ?_
  refine dr_aload_n la_1673 rfl (Or.inr (Or.inr ⟨_, rfl⟩)) ?_
  refine dr_iload la_1674 rfl ?_
  refine di_const la_1676 ?_
  refine di_iadd la_1677 ?_
  refine dr_xld la_1678 (by omega) (by omega) hL (fun x1 x1a x1b => ?_)
  refine dr_aload_n la_1679 rfl (Or.inr (Or.inr ⟨_, rfl⟩)) ?_
  refine dr_iload la_1680 rfl ?_
  refine di_const la_1682 ?_
  refine di_iadd la_1683 ?_
  refine dr_xld la_1684 (by omega) (by omega) hL (fun x2 x2a x2b => ?_)
  refine dr_aload_n la_1685 rfl (Or.inr (Or.inr ⟨_, rfl⟩)) ?_
  refine dr_iload la_1686 rfl ?_
  refine di_const la_1688 ?_
  refine di_iadd la_1689 ?_
  refine dr_xld la_1690 (by omega) (by omega) hL (fun x3 x3a x3b => ?_)
  refine dr_aload_n la_1691 rfl (Or.inr (Or.inr ⟨_, rfl⟩)) ?_
  refine dr_iload la_1692 rfl ?_
  refine di_const la_1694 ?_
  refine di_iadd la_1695 ?_
  refine dr_xld la_1696 (by omega) (by omega) hL (fun x4 x4a x4b => ?_)
  refine dr_aload_n la_1697 rfl (Or.inr (Or.inr ⟨_, rfl⟩)) ?_
  refine dr_iload la_1698 rfl ?_
  refine di_const la_1700 ?_
  refine di_iadd la_1701 ?_
  refine dr_xld la_1702 (by omega) (by omega) hL (fun x5 x5a x5b => ?_)
  refine di_aload_n la_1703 rfl ?_
  refine dr_statH la_1704 rfl (by decide +kernel) rfl (s_L_between l hl hI (a1 := x1) (by omega) (by omega) (a2 := x2) (by omega) (by omega) (a3 := x3) (by omega) (by omega) (a4 := x4) (by omega) (by omega) (a5 := x5) (by omega) (by omega)) (by decide) (by omega) (by omega) (Nat.le_of_ble_eq_true rfl) kNS (kIS (fun y9 h6 hI7 hE8 y9f y9a y9b => ?_))
  have hE10 := hE8
  refine di_istore (ls2 := [some (.retAddr 2), some (.ref 0), some (.ref 26), some (.ref 36), some (dI (i)), some (dI (y9)), none]) la_1707 rfl rfl ?_
  refine di_aload_n la_1709 rfl ?_
  refine dr_aload_n la_1710 rfl (Or.inr (Or.inr ⟨_, rfl⟩)) ?_
  refine dr_iload la_1711 rfl ?_
  refine di_const la_1713 ?_
  refine di_iadd la_1714 ?_
  refine dr_xld la_1715 (by omega) (by omega) hL (fun x11 x11a x11b => ?_)
  refine dr_aload_n la_1716 rfl (Or.inr (Or.inr ⟨_, rfl⟩)) ?_
  refine dr_iload la_1717 rfl ?_
  refine di_const la_1719 ?_
  refine di_iadd la_1720 ?_
  refine dr_xld la_1721 (by omega) (by omega) hL (fun x12 x12a x12b => ?_)
  refine dr_aload_n la_1722 rfl (Or.inr (Or.inr ⟨_, rfl⟩)) ?_
  refine dr_iload la_1723 rfl ?_
  refine di_const la_1725 ?_
  refine di_iadd la_1726 ?_
  refine dr_xld la_1727 (by omega) (by omega) hL (fun x13 x13a x13b => ?_)
  refine dr_aload_n la_1728 rfl (Or.inr (Or.inr ⟨_, rfl⟩)) ?_
  refine dr_iload la_1729 rfl ?_
  refine di_const la_1731 ?_
  refine di_iadd la_1732 ?_
  refine dr_xld la_1733 (by omega) (by omega) hL (fun x14 x14a x14b => ?_)
  refine dr_aload_n la_1734 rfl (Or.inr (Or.inr ⟨_, rfl⟩)) ?_
  refine dr_iload la_1735 rfl ?_
  refine di_const la_1737 ?_
  refine di_iadd la_1738 ?_
  refine dr_xld la_1739 (by omega) (by omega) hL (fun x15 x15a x15b => ?_)
  obtain ⟨th_16, ni_19, pb_22, lo_25, hi_28, hb_31, ls_34, re_37, he_40, c17, c18, c20, c21, c23, c24, c26, c27, c29, c30, c32, c33, c35, c36, c38, c39, c41, hc42⟩ := I_md hI7
  have ho43 : he_40 = -1 ∨ (0 ≤ he_40 ∧ he_40 ≤ 9999 ∧ he_40 % 100 ≤ he_40 / 100) := c41
  refine dr_virt la_1740 rfl rfl rfl hc42 (s_X8_between l hl hI7 (a1 := x11) (by omega) (by omega) (a2 := x12) (by omega) (by omega) (a3 := x13) (by omega) (by omega) (a4 := x14) (by omega) (by omega) (a5 := x15) (by omega) (by omega)) (by decide) (by omega) (by omega) (Nat.le_of_ble_eq_true rfl) kNS (kIS (fun y47 h44 hI45 hE46 y47f y47a y47b => ?_))
  have hE48 := Ext_tr hE10 hE46
  refine di_istore (ls2 := [some (.retAddr 2), some (.ref 0), some (.ref 26), some (.ref 36), some (dI (i)), some (dI (y9)), some (dI (y47))]) la_1743 rfl rfl ?_
  refine dr_goto la_1745 rfl ?_
  refine dm_wk (ls2 := [some (.retAddr 2), some (.ref 0), some (.ref 26), some (.ref 36), some (dI (i)), none, none]) ⟨Or.inr rfl, Or.inr rfl, Or.inr rfl, Or.inr rfl, Or.inr rfl, Or.inl rfl, Or.inl rfl, trivial⟩ ?_
  refine dm_cew (ce2 := ce + 1000) (sl2 := sl + 60000) (by omega) (by omega) ?_
  exact K _ _ hI45
