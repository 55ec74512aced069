set_option maxHeartbeats 4000000 in
set_option maxRecDepth 100000 in
/-- Earlyends$Book.tell -/
theorem s_X0_tell (l : Launch) (hl : l.stackTraces = false) {kc km : Int} {h : dm_H} (hI : Inv kc km h) {b0 : Nat} (hb0 : isBk b0) {a1 : Int} (h1a : 0 ≤ a1) (h1b : a1 ≤ 8) {a2 : Int} (h2a : 0 ≤ a2) (h2b : a2 ≤ 8) {a3 : Int} (h3a : 0 ≤ a3) (h3b : a3 ≤ 1) : dm_M l 19 7 58 22024 [.ref b0, dI (a1), dI (a2), dI (a3)] h (QA h (fun v _ => ∃ p : Nat, v = some (.ref p))) := by
  refine dm_M_of dk_19 hl rfl (Nat.le_of_ble_eq_true rfl) ?_
  show dm_W (fun _ _ _ => True) (dm_P (QA h (fun v _ => ∃ p : Nat, v = some (.ref p))) 58 22024) l 19 7 58 22024 0 [some (.ref b0), some (dI (a1)), some (dI (a2)), some (dI (a3)), none, none, none] [] h 0 0
  have l37 := Inv_len hI
  skip
  refine pno (fs := [.null, dI 0, dI 0, dI 0]) rfl rfl (by omega) (by show _ + 4 ≤ _; omega) (fun h1 hA2 lt3 hc4 => ?_)
  refine dm_cew (ce2 := 1) (sl2 := 4) (by omega) (by show _ + 4 ≤ _; omega) ?_
  have hI5 := App_Inv hA2 hI
  have hE6 := App_Ext hA2
  have hA7 := hA2
  refine dr_dup rfl rfl ?_
  have le8 := hA7.1
  refine dr_init rfl rfl rfl rfl rfl (s_J4_init_da8c8 l hl (h0 := h) hA7 (q := (List.length h)) (by omega) hc4) kQTn (by decide) (by omega) (by omega) (Nat.le_of_ble_eq_true rfl) (kQT0 (fun h9 hA10 le11 b12 vs13 ht14 ht15 ht16 ht17 ht18 ht19 ht20 => ?_))
  have hI21 := App_Inv hA10 hI
  have hE22 := App_Ext hA10
  clear le8
  refine di_astore (ls2 := [some (.ref b0), some (dI (a1)), some (dI (a2)), some (dI (a3)), some (.ref ((List.length h))), none, none]) rfl rfl rfl ?_
  refine di_const rfl ?_
  refine di_istore (ls2 := [some (.ref b0), some (dI (a1)), some (dI (a2)), some (dI (a3)), some (.ref ((List.length h))), some (dI (0)), none]) rfl rfl rfl ?_
  have L24 : ∀ (n : Nat) (i23 : Int) (cn25 : Nat) (sn26 : Nat) (h27 : dm_H) (b30 : Nat) (vs31 : List Value) (n32 : Int), (8 - i23).toNat < n → 0 ≤ i23 → i23 ≤ 8 → cn25 + 6 * (8 - i23).toNat ≤ 2 + 54 → sn26 + 2400 * (8 - i23).toNat ≤ 20 + 21600 → Inv kc km h27 → Ext h h27 → App h h27 → h.length ≤ b30 → b30 ≠ (List.length h) → h27[(List.length h)]? = some (1, [.ref b30, dI 0, dI 0, dI n32]) → h27[b30]? = some (21, vs31) → 0 ≤ n32 → n32 ≤ 18 * i23 → n32 ≤ vs31.length → (vs31.length : Int) ≤ 400 → dm_W (fun _ _ _ => True) (dm_P (QA h (fun v _ => ∃ p : Nat, v = some (.ref p))) 58 22024) l 19 7 58 22024 12 [some (.ref b0), some (dI (a1)), some (dI (a2)), some (dI (a3)), some (.ref ((List.length h))), some (dI (i23)), none] [] h27 cn25 sn26 := by
    intro n
    induction n with
    | zero => intro i23 cn25 sn26 h27 b30 vs31 n32 hm; exact absurd hm (Nat.not_lt_zero _)
    | succ n ih =>
      intro i23 cn25 sn26 h27 b30 vs31 n32 hm45 hb43 hb44 hc946 hs947 hI28 hE29 hA42 hs33 hs34 hs35 hs36 hs37 hs38 hs39 hs40
      have ihL24 := ih
      clear ih
      refine dr_iload rfl rfl ?_
      refine dr_iload_n rfl rfl ?_
      refine dr_iload_n rfl rfl ?_
      refine di_isub rfl ?_
      refine di_icmp_ge rfl rfl (by omega) (by omega) (by omega) (by omega) (fun c48 => ?_) (fun c48 => ?_)
      · skip
        refine di_aload rfl rfl ?_
        have le49 := hA42.1
        have lt50 := App_lt hs35
        have lt51 := App_lt hs36
        refine dr_virt rfl rfl rfl rfl hs35 (s_J4_toString_0e30d l hl (h0 := h) hA42 (q := (List.length h)) (b := b30) (n := n32) (vs := vs31) (by omega) (by omega) (by omega) hs35 hs36 (by omega) (by omega) (by omega)  ) (by decide) (by omega) (by omega) (Nat.le_of_ble_eq_true rfl) (fun Y h9 q9 => absurd q9 (kQRn Y h9)) (kQR (fun h52 hA53 le54 p55 hp56 => ?_))
        have hI57 := App_Inv hA53 hI
        have hE58 := App_Ext hA53
        exact dr_aret rfl rfl (Or.inl ⟨_, rfl⟩) (Or.inl ⟨_, rfl⟩) (by omega) (by omega) ⟨hA53, _, rfl⟩
      · skip
        refine dr_iload_n rfl rfl ?_
        refine di_if_eq rfl rfl (by omega) (by omega) (fun c59 => ?_) (fun c59 => ?_)
        · skip
          refine dr_iload_n rfl rfl ?_
          refine dr_iload rfl rfl ?_
          refine di_iadd rfl ?_
          refine di_istore (ls2 := [some (.ref b0), some (dI (a1)), some (dI (a2)), some (dI (a3)), some (.ref ((List.length h))), some (dI (i23)), some (dI ((a1 + i23)))]) rfl rfl rfl ?_
          refine dr_iload rfl rfl ?_
          refine di_if_le rfl rfl (by omega) (by omega) (fun c60 => ?_) (fun c60 => ?_)
          · skip
            refine di_aload rfl rfl ?_
            refine di_aload_n rfl rfl ?_
            refine dr_iload rfl rfl ?_
            obtain ⟨s_61, m_64, c62, c63, c65, c66, hc67⟩ := I_bk hI28 (p := b0) hb0
            obtain ⟨vs68, hc69, ha70⟩ := I_bka hI28 (p := b0) hb0
            refine dr_virt rfl rfl rfl rfl hc67 (s_X0_fromAt l hl hI28 (b0 := b0) hb0 (a1 := (a1 + i23)) (by omega) (by omega) (s0 := s_61) (m0 := m_64) hc67 (by omega) (by omega) (by omega) (by omega) (u0 := vs68) hc69 ha70) (by decide) (by omega) (by omega) (Nat.le_of_ble_eq_true rfl) kNP (kIP (fun y71 y71f y71a y71b => ?_))
            have y71g : -1 ≤ y71 ∧ y71 ≤ 99 ∧ (0 ≤ ((a1 + i23)) → ((a1 + i23)) < (s_61) → y71 = cv vs68 ((a1 + i23)) % 100) := y71f
            have y71h : -1 ≤ y71 ∧ y71 ≤ 99 := ⟨y71g.1, y71g.2.1⟩
            clear y71g y71f
            have le72 := hA42.1
            have lt73 := App_lt hs35
            have lt74 := App_lt hs36
            refine dr_virt rfl rfl rfl rfl hs35 (s_J4_append_bf812 l hl (h0 := h) hA42 (q := (List.length h)) (b := b30) (n := n32) (vs := vs31) (by omega) (by omega) (by omega) hs35 hs36 (by omega) (by omega) (by omega) (a1 := y71) (by omega) (by omega) (by omega) ) (by decide) (by omega) (by omega) (Nat.le_of_ble_eq_true rfl) (fun Y h9 q9 => absurd q9 (kQTin Y h9)) (kQTi (fun n87 hn88 hn89 hn90 h75 hA76 le77 b78 vs79 ht80 ht81 ht82 ht83 ht84 ht85 ht86 => ?_))
            have hn91 : n87 ≤ n32 + 2 := hn90 (by omega) (by omega)
            have hI92 := App_Inv hA76 hI
            have hE93 := App_Ext hA76
            clear c62 c63 c65 c66 le72 lt73 lt74 hs33 hs34 hs35 hs36 hs39 hs40 hn90
            refine di_bipush rfl (by decide) ?_
            have le94 := hA76.1
            have lt95 := App_lt ht82
            have lt96 := App_lt ht83
            refine dr_virt rfl rfl rfl rfl ht82 (s_J4_append_cf468 l hl (h0 := h) hA76 (q := (List.length h)) (b := b78) (n := n87) (vs := vs79) (by omega) (by omega) (by omega) ht82 ht83 (by omega) (by omega) (by omega) (a1 := 45) (by omega) (by omega) (by omega) ) (by decide) (by omega) (by omega) (Nat.le_of_ble_eq_true rfl) (fun Y h9 q9 => absurd q9 (kQTn Y h9)) (kQT1 (fun h97 hA98 le99 b100 vs101 ht102 ht103 ht104 ht105 ht106 ht107 ht108 => ?_))
            have hI109 := App_Inv hA98 hI
            have hE110 := App_Ext hA98
            clear le94 lt95 lt96 ht80 ht81 ht82 ht83 ht84 ht85 ht86
            refine di_aload_n rfl rfl ?_
            refine dr_iload rfl rfl ?_
            obtain ⟨s_111, m_114, c112, c113, c115, c116, hc117⟩ := I_bk hI109 (p := b0) hb0
            obtain ⟨vs118, hc119, ha120⟩ := I_bka hI109 (p := b0) hb0
            refine dr_virt rfl rfl rfl rfl hc117 (s_X0_toAt l hl hI109 (b0 := b0) hb0 (a1 := (a1 + i23)) (by omega) (by omega) (s0 := s_111) (m0 := m_114) hc117 (by omega) (by omega) (by omega) (by omega) (u0 := vs118) hc119 ha120) (by decide) (by omega) (by omega) (Nat.le_of_ble_eq_true rfl) kNP (kIP (fun y121 y121f y121a y121b => ?_))
            have y121g : -1 ≤ y121 ∧ y121 ≤ 99 ∧ (0 ≤ ((a1 + i23)) → ((a1 + i23)) < (s_111) → y121 = cv vs118 ((a1 + i23)) / 100) := y121f
            have y121h : -1 ≤ y121 ∧ y121 ≤ 99 := ⟨y121g.1, y121g.2.1⟩
            clear y121g y121f
            have le122 := hA98.1
            have lt123 := App_lt ht104
            have lt124 := App_lt ht105
            refine dr_virt rfl rfl rfl rfl ht104 (s_J4_append_bf812 l hl (h0 := h) hA98 (q := (List.length h)) (b := b100) (n := (n87 + 1)) (vs := vs101) (by omega) (by omega) (by omega) ht104 ht105 (by omega) (by omega) (by omega) (a1 := y121) (by omega) (by omega) (by omega) ) (by decide) (by omega) (by omega) (Nat.le_of_ble_eq_true rfl) (fun Y h9 q9 => absurd q9 (kQTin Y h9)) (kQTi (fun n137 hn138 hn139 hn140 h125 hA126 le127 b128 vs129 ht130 ht131 ht132 ht133 ht134 ht135 ht136 => ?_))
            have hn141 : n137 ≤ (n87 + 1) + 2 := hn140 (by omega) (by omega)
            have hI142 := App_Inv hA126 hI
            have hE143 := App_Ext hA126
            clear c112 c113 c115 c116 le122 lt123 lt124 ht102 ht103 ht104 ht105 ht106 ht107 ht108 hn140
            refine dr_pop rfl rfl ?_
            refine di_aload rfl rfl ?_
            refine di_bipush rfl (by decide) ?_
            have le144 := hA126.1
            have lt145 := App_lt ht132
            have lt146 := App_lt ht133
            refine dr_virt rfl rfl rfl rfl ht132 (s_J4_append_cf468 l hl (h0 := h) hA126 (q := (List.length h)) (b := b128) (n := n137) (vs := vs129) (by omega) (by omega) (by omega) ht132 ht133 (by omega) (by omega) (by omega) (a1 := 58) (by omega) (by omega) (by omega) ) (by decide) (by omega) (by omega) (Nat.le_of_ble_eq_true rfl) (fun Y h9 q9 => absurd q9 (kQTn Y h9)) (kQT1 (fun h147 hA148 le149 b150 vs151 ht152 ht153 ht154 ht155 ht156 ht157 ht158 => ?_))
            have hI159 := App_Inv hA148 hI
            have hE160 := App_Ext hA148
            clear le144 lt145 lt146 ht130 ht131 ht132 ht133 ht134 ht135 ht136
            refine di_aload_n rfl rfl ?_
            refine dr_iload rfl rfl ?_
            obtain ⟨s_161, m_164, c162, c163, c165, c166, hc167⟩ := I_bk hI159 (p := b0) hb0
            refine dr_virt rfl rfl rfl rfl hc167 (s_X0_noteAt l hl hI159 (b0 := b0) hb0 (a1 := (a1 + i23)) (by omega) (by omega)) (by decide) (by omega) (by omega) (Nat.le_of_ble_eq_true rfl) kNP (kIP (fun y168 y168f y168a y168b => ?_))
            have le169 := hA148.1
            have lt170 := App_lt ht154
            have lt171 := App_lt ht155
            refine dr_virt rfl rfl rfl rfl ht154 (s_J4_append_bf812 l hl (h0 := h) hA148 (q := (List.length h)) (b := b150) (n := (n137 + 1)) (vs := vs151) (by omega) (by omega) (by omega) ht154 ht155 (by omega) (by omega) (by omega) (a1 := y168) (by omega) (by omega) (by omega) ) (by decide) (by omega) (by omega) (Nat.le_of_ble_eq_true rfl) (fun Y h9 q9 => absurd q9 (kQTin Y h9)) (kQTi (fun n184 hn185 hn186 hn187 h172 hA173 le174 b175 vs176 ht177 ht178 ht179 ht180 ht181 ht182 ht183 => ?_))
            have hI188 := App_Inv hA173 hI
            have hE189 := App_Ext hA173
            clear c162 c163 c165 c166 le169 lt170 lt171 ht152 ht153 ht154 ht155 ht156 ht157 ht158 hn187
            refine dr_pop rfl rfl ?_
            refine di_iinc (ls2 := [some (.ref b0), some (dI (a1)), some (dI (a2)), some (dI (a3)), some (.ref ((List.length h))), some (dI ((i23 + 1))), some (dI ((a1 + i23)))]) rfl rfl rfl rfl ?_
            refine dr_goto rfl rfl ?_
            refine dm_wk (ls2 := [some (.ref b0), some (dI (a1)), some (dI (a2)), some (dI (a3)), some (.ref ((List.length h))), some (dI ((i23 + 1))), none]) ⟨Or.inr rfl, Or.inr rfl, Or.inr rfl, Or.inr rfl, Or.inr rfl, Or.inr rfl, Or.inl rfl, trivial⟩ ?_
            exact ihL24 ((i23 + 1)) (((((((((cn25 + 0) + 1) + 1) + 0) + 1) + 1) + 0) + 1)) (((((((((sn26 + 0) + 400) + 400) + 0) + 400) + 400) + 0) + 400)) h172 (b175) (vs176) (n184) (by omega) (by omega) (by omega) (by omega) (by omega) hI188 hE189  hA173 (by omega) (by omega) ht179 ht180 (by omega) (by omega) (by omega) (by omega)
          · skip
            refine di_aload rfl rfl ?_
            refine di_bipush rfl (by decide) ?_
            have le190 := hA42.1
            have lt191 := App_lt hs35
            have lt192 := App_lt hs36
            refine dr_virt rfl rfl rfl rfl hs35 (s_J4_append_cf468 l hl (h0 := h) hA42 (q := (List.length h)) (b := b30) (n := n32) (vs := vs31) (by omega) (by omega) (by omega) hs35 hs36 (by omega) (by omega) (by omega) (a1 := 32) (by omega) (by omega) (by omega) ) (by decide) (by omega) (by omega) (Nat.le_of_ble_eq_true rfl) (fun Y h9 q9 => absurd q9 (kQTn Y h9)) (kQT1 (fun h193 hA194 le195 b196 vs197 ht198 ht199 ht200 ht201 ht202 ht203 ht204 => ?_))
            have hI205 := App_Inv hA194 hI
            have hE206 := App_Ext hA194
            clear le190 lt191 lt192 hs33 hs34 hs35 hs36 hs39 hs40
            refine dr_pop rfl rfl ?_
            refine di_aload rfl rfl ?_
            refine di_aload_n rfl rfl ?_
            refine dr_iload rfl rfl ?_
            obtain ⟨s_207, m_210, c208, c209, c211, c212, hc213⟩ := I_bk hI205 (p := b0) hb0
            obtain ⟨vs214, hc215, ha216⟩ := I_bka hI205 (p := b0) hb0
            refine dr_virt rfl rfl rfl rfl hc213 (s_X0_fromAt l hl hI205 (b0 := b0) hb0 (a1 := (a1 + i23)) (by omega) (by omega) (s0 := s_207) (m0 := m_210) hc213 (by omega) (by omega) (by omega) (by omega) (u0 := vs214) hc215 ha216) (by decide) (by omega) (by omega) (Nat.le_of_ble_eq_true rfl) kNP (kIP (fun y217 y217f y217a y217b => ?_))
            have y217g : -1 ≤ y217 ∧ y217 ≤ 99 ∧ (0 ≤ ((a1 + i23)) → ((a1 + i23)) < (s_207) → y217 = cv vs214 ((a1 + i23)) % 100) := y217f
            have y217h : -1 ≤ y217 ∧ y217 ≤ 99 := ⟨y217g.1, y217g.2.1⟩
            clear y217g y217f
            have le218 := hA194.1
            have lt219 := App_lt ht200
            have lt220 := App_lt ht201
            refine dr_virt rfl rfl rfl rfl ht200 (s_J4_append_bf812 l hl (h0 := h) hA194 (q := (List.length h)) (b := b196) (n := (n32 + 1)) (vs := vs197) (by omega) (by omega) (by omega) ht200 ht201 (by omega) (by omega) (by omega) (a1 := y217) (by omega) (by omega) (by omega) ) (by decide) (by omega) (by omega) (Nat.le_of_ble_eq_true rfl) (fun Y h9 q9 => absurd q9 (kQTin Y h9)) (kQTi (fun n233 hn234 hn235 hn236 h221 hA222 le223 b224 vs225 ht226 ht227 ht228 ht229 ht230 ht231 ht232 => ?_))
            have hn237 : n233 ≤ (n32 + 1) + 2 := hn236 (by omega) (by omega)
            have hI238 := App_Inv hA222 hI
            have hE239 := App_Ext hA222
            clear c208 c209 c211 c212 le218 lt219 lt220 ht198 ht199 ht200 ht201 ht202 ht203 ht204 hn236
            refine di_bipush rfl (by decide) ?_
            have le240 := hA222.1
            have lt241 := App_lt ht228
            have lt242 := App_lt ht229
            refine dr_virt rfl rfl rfl rfl ht228 (s_J4_append_cf468 l hl (h0 := h) hA222 (q := (List.length h)) (b := b224) (n := n233) (vs := vs225) (by omega) (by omega) (by omega) ht228 ht229 (by omega) (by omega) (by omega) (a1 := 45) (by omega) (by omega) (by omega) ) (by decide) (by omega) (by omega) (Nat.le_of_ble_eq_true rfl) (fun Y h9 q9 => absurd q9 (kQTn Y h9)) (kQT1 (fun h243 hA244 le245 b246 vs247 ht248 ht249 ht250 ht251 ht252 ht253 ht254 => ?_))
            have hI255 := App_Inv hA244 hI
            have hE256 := App_Ext hA244
            clear le240 lt241 lt242 ht226 ht227 ht228 ht229 ht230 ht231 ht232
            refine di_aload_n rfl rfl ?_
            refine dr_iload rfl rfl ?_
            obtain ⟨s_257, m_260, c258, c259, c261, c262, hc263⟩ := I_bk hI255 (p := b0) hb0
            obtain ⟨vs264, hc265, ha266⟩ := I_bka hI255 (p := b0) hb0
            refine dr_virt rfl rfl rfl rfl hc263 (s_X0_toAt l hl hI255 (b0 := b0) hb0 (a1 := (a1 + i23)) (by omega) (by omega) (s0 := s_257) (m0 := m_260) hc263 (by omega) (by omega) (by omega) (by omega) (u0 := vs264) hc265 ha266) (by decide) (by omega) (by omega) (Nat.le_of_ble_eq_true rfl) kNP (kIP (fun y267 y267f y267a y267b => ?_))
            have y267g : -1 ≤ y267 ∧ y267 ≤ 99 ∧ (0 ≤ ((a1 + i23)) → ((a1 + i23)) < (s_257) → y267 = cv vs264 ((a1 + i23)) / 100) := y267f
            have y267h : -1 ≤ y267 ∧ y267 ≤ 99 := ⟨y267g.1, y267g.2.1⟩
            clear y267g y267f
            have le268 := hA244.1
            have lt269 := App_lt ht250
            have lt270 := App_lt ht251
            refine dr_virt rfl rfl rfl rfl ht250 (s_J4_append_bf812 l hl (h0 := h) hA244 (q := (List.length h)) (b := b246) (n := (n233 + 1)) (vs := vs247) (by omega) (by omega) (by omega) ht250 ht251 (by omega) (by omega) (by omega) (a1 := y267) (by omega) (by omega) (by omega) ) (by decide) (by omega) (by omega) (Nat.le_of_ble_eq_true rfl) (fun Y h9 q9 => absurd q9 (kQTin Y h9)) (kQTi (fun n283 hn284 hn285 hn286 h271 hA272 le273 b274 vs275 ht276 ht277 ht278 ht279 ht280 ht281 ht282 => ?_))
            have hn287 : n283 ≤ (n233 + 1) + 2 := hn286 (by omega) (by omega)
            have hI288 := App_Inv hA272 hI
            have hE289 := App_Ext hA272
            clear c258 c259 c261 c262 le268 lt269 lt270 ht248 ht249 ht250 ht251 ht252 ht253 ht254 hn286
            refine dr_pop rfl rfl ?_
            refine di_aload rfl rfl ?_
            refine di_bipush rfl (by decide) ?_
            have le290 := hA272.1
            have lt291 := App_lt ht278
            have lt292 := App_lt ht279
            refine dr_virt rfl rfl rfl rfl ht278 (s_J4_append_cf468 l hl (h0 := h) hA272 (q := (List.length h)) (b := b274) (n := n283) (vs := vs275) (by omega) (by omega) (by omega) ht278 ht279 (by omega) (by omega) (by omega) (a1 := 58) (by omega) (by omega) (by omega) ) (by decide) (by omega) (by omega) (Nat.le_of_ble_eq_true rfl) (fun Y h9 q9 => absurd q9 (kQTn Y h9)) (kQT1 (fun h293 hA294 le295 b296 vs297 ht298 ht299 ht300 ht301 ht302 ht303 ht304 => ?_))
            have hI305 := App_Inv hA294 hI
            have hE306 := App_Ext hA294
            clear le290 lt291 lt292 ht276 ht277 ht278 ht279 ht280 ht281 ht282
            refine di_aload_n rfl rfl ?_
            refine dr_iload rfl rfl ?_
            obtain ⟨s_307, m_310, c308, c309, c311, c312, hc313⟩ := I_bk hI305 (p := b0) hb0
            refine dr_virt rfl rfl rfl rfl hc313 (s_X0_noteAt l hl hI305 (b0 := b0) hb0 (a1 := (a1 + i23)) (by omega) (by omega)) (by decide) (by omega) (by omega) (Nat.le_of_ble_eq_true rfl) kNP (kIP (fun y314 y314f y314a y314b => ?_))
            have le315 := hA294.1
            have lt316 := App_lt ht300
            have lt317 := App_lt ht301
            refine dr_virt rfl rfl rfl rfl ht300 (s_J4_append_bf812 l hl (h0 := h) hA294 (q := (List.length h)) (b := b296) (n := (n283 + 1)) (vs := vs297) (by omega) (by omega) (by omega) ht300 ht301 (by omega) (by omega) (by omega) (a1 := y314) (by omega) (by omega) (by omega) ) (by decide) (by omega) (by omega) (Nat.le_of_ble_eq_true rfl) (fun Y h9 q9 => absurd q9 (kQTin Y h9)) (kQTi (fun n330 hn331 hn332 hn333 h318 hA319 le320 b321 vs322 ht323 ht324 ht325 ht326 ht327 ht328 ht329 => ?_))
            have hI334 := App_Inv hA319 hI
            have hE335 := App_Ext hA319
            clear c308 c309 c311 c312 le315 lt316 lt317 ht298 ht299 ht300 ht301 ht302 ht303 ht304 hn333
            refine dr_pop rfl rfl ?_
            refine di_iinc (ls2 := [some (.ref b0), some (dI (a1)), some (dI (a2)), some (dI (a3)), some (.ref ((List.length h))), some (dI ((i23 + 1))), some (dI ((a1 + i23)))]) rfl rfl rfl rfl ?_
            refine dr_goto rfl rfl ?_
            refine dm_wk (ls2 := [some (.ref b0), some (dI (a1)), some (dI (a2)), some (dI (a3)), some (.ref ((List.length h))), some (dI ((i23 + 1))), none]) ⟨Or.inr rfl, Or.inr rfl, Or.inr rfl, Or.inr rfl, Or.inr rfl, Or.inr rfl, Or.inl rfl, trivial⟩ ?_
            exact ihL24 ((i23 + 1)) ((((((((((cn25 + 1) + 0) + 1) + 1) + 0) + 1) + 1) + 0) + 1)) ((((((((((sn26 + 400) + 0) + 400) + 400) + 0) + 400) + 400) + 0) + 400)) h318 (b321) (vs322) (n330) (by omega) (by omega) (by omega) (by omega) (by omega) hI334 hE335  hA319 (by omega) (by omega) ht325 ht326 (by omega) (by omega) (by omega) (by omega)
        · skip
          refine dr_iload_n rfl rfl ?_
          refine di_const rfl ?_
          refine di_isub rfl ?_
          refine dr_iload rfl rfl ?_
          refine di_isub rfl ?_
          refine dr_goto rfl rfl ?_
          refine di_istore (ls2 := [some (.ref b0), some (dI (a1)), some (dI (a2)), some (dI (a3)), some (.ref ((List.length h))), some (dI (i23)), some (dI (((a2 - 1) - i23)))]) rfl rfl rfl ?_
          refine dr_iload rfl rfl ?_
          refine di_if_le rfl rfl (by omega) (by omega) (fun c336 => ?_) (fun c336 => ?_)
          · skip
            refine di_aload rfl rfl ?_
            refine di_aload_n rfl rfl ?_
            refine dr_iload rfl rfl ?_
            obtain ⟨s_337, m_340, c338, c339, c341, c342, hc343⟩ := I_bk hI28 (p := b0) hb0
            obtain ⟨vs344, hc345, ha346⟩ := I_bka hI28 (p := b0) hb0
            refine dr_virt rfl rfl rfl rfl hc343 (s_X0_fromAt l hl hI28 (b0 := b0) hb0 (a1 := ((a2 - 1) - i23)) (by omega) (by omega) (s0 := s_337) (m0 := m_340) hc343 (by omega) (by omega) (by omega) (by omega) (u0 := vs344) hc345 ha346) (by decide) (by omega) (by omega) (Nat.le_of_ble_eq_true rfl) kNP (kIP (fun y347 y347f y347a y347b => ?_))
            have y347g : -1 ≤ y347 ∧ y347 ≤ 99 ∧ (0 ≤ (((a2 - 1) - i23)) → (((a2 - 1) - i23)) < (s_337) → y347 = cv vs344 (((a2 - 1) - i23)) % 100) := y347f
            have y347h : -1 ≤ y347 ∧ y347 ≤ 99 := ⟨y347g.1, y347g.2.1⟩
            clear y347g y347f
            have le348 := hA42.1
            have lt349 := App_lt hs35
            have lt350 := App_lt hs36
            refine dr_virt rfl rfl rfl rfl hs35 (s_J4_append_bf812 l hl (h0 := h) hA42 (q := (List.length h)) (b := b30) (n := n32) (vs := vs31) (by omega) (by omega) (by omega) hs35 hs36 (by omega) (by omega) (by omega) (a1 := y347) (by omega) (by omega) (by omega) ) (by decide) (by omega) (by omega) (Nat.le_of_ble_eq_true rfl) (fun Y h9 q9 => absurd q9 (kQTin Y h9)) (kQTi (fun n363 hn364 hn365 hn366 h351 hA352 le353 b354 vs355 ht356 ht357 ht358 ht359 ht360 ht361 ht362 => ?_))
            have hn367 : n363 ≤ n32 + 2 := hn366 (by omega) (by omega)
            have hI368 := App_Inv hA352 hI
            have hE369 := App_Ext hA352
            clear c338 c339 c341 c342 le348 lt349 lt350 hs33 hs34 hs35 hs36 hs39 hs40 hn366
            refine di_bipush rfl (by decide) ?_
            have le370 := hA352.1
            have lt371 := App_lt ht358
            have lt372 := App_lt ht359
            refine dr_virt rfl rfl rfl rfl ht358 (s_J4_append_cf468 l hl (h0 := h) hA352 (q := (List.length h)) (b := b354) (n := n363) (vs := vs355) (by omega) (by omega) (by omega) ht358 ht359 (by omega) (by omega) (by omega) (a1 := 45) (by omega) (by omega) (by omega) ) (by decide) (by omega) (by omega) (Nat.le_of_ble_eq_true rfl) (fun Y h9 q9 => absurd q9 (kQTn Y h9)) (kQT1 (fun h373 hA374 le375 b376 vs377 ht378 ht379 ht380 ht381 ht382 ht383 ht384 => ?_))
            have hI385 := App_Inv hA374 hI
            have hE386 := App_Ext hA374
            clear le370 lt371 lt372 ht356 ht357 ht358 ht359 ht360 ht361 ht362
            refine di_aload_n rfl rfl ?_
            refine dr_iload rfl rfl ?_
            obtain ⟨s_387, m_390, c388, c389, c391, c392, hc393⟩ := I_bk hI385 (p := b0) hb0
            obtain ⟨vs394, hc395, ha396⟩ := I_bka hI385 (p := b0) hb0
            refine dr_virt rfl rfl rfl rfl hc393 (s_X0_toAt l hl hI385 (b0 := b0) hb0 (a1 := ((a2 - 1) - i23)) (by omega) (by omega) (s0 := s_387) (m0 := m_390) hc393 (by omega) (by omega) (by omega) (by omega) (u0 := vs394) hc395 ha396) (by decide) (by omega) (by omega) (Nat.le_of_ble_eq_true rfl) kNP (kIP (fun y397 y397f y397a y397b => ?_))
            have y397g : -1 ≤ y397 ∧ y397 ≤ 99 ∧ (0 ≤ (((a2 - 1) - i23)) → (((a2 - 1) - i23)) < (s_387) → y397 = cv vs394 (((a2 - 1) - i23)) / 100) := y397f
            have y397h : -1 ≤ y397 ∧ y397 ≤ 99 := ⟨y397g.1, y397g.2.1⟩
            clear y397g y397f
            have le398 := hA374.1
            have lt399 := App_lt ht380
            have lt400 := App_lt ht381
            refine dr_virt rfl rfl rfl rfl ht380 (s_J4_append_bf812 l hl (h0 := h) hA374 (q := (List.length h)) (b := b376) (n := (n363 + 1)) (vs := vs377) (by omega) (by omega) (by omega) ht380 ht381 (by omega) (by omega) (by omega) (a1 := y397) (by omega) (by omega) (by omega) ) (by decide) (by omega) (by omega) (Nat.le_of_ble_eq_true rfl) (fun Y h9 q9 => absurd q9 (kQTin Y h9)) (kQTi (fun n413 hn414 hn415 hn416 h401 hA402 le403 b404 vs405 ht406 ht407 ht408 ht409 ht410 ht411 ht412 => ?_))
            have hn417 : n413 ≤ (n363 + 1) + 2 := hn416 (by omega) (by omega)
            have hI418 := App_Inv hA402 hI
            have hE419 := App_Ext hA402
            clear c388 c389 c391 c392 le398 lt399 lt400 ht378 ht379 ht380 ht381 ht382 ht383 ht384 hn416
            refine dr_pop rfl rfl ?_
            refine di_aload rfl rfl ?_
            refine di_bipush rfl (by decide) ?_
            have le420 := hA402.1
            have lt421 := App_lt ht408
            have lt422 := App_lt ht409
            refine dr_virt rfl rfl rfl rfl ht408 (s_J4_append_cf468 l hl (h0 := h) hA402 (q := (List.length h)) (b := b404) (n := n413) (vs := vs405) (by omega) (by omega) (by omega) ht408 ht409 (by omega) (by omega) (by omega) (a1 := 58) (by omega) (by omega) (by omega) ) (by decide) (by omega) (by omega) (Nat.le_of_ble_eq_true rfl) (fun Y h9 q9 => absurd q9 (kQTn Y h9)) (kQT1 (fun h423 hA424 le425 b426 vs427 ht428 ht429 ht430 ht431 ht432 ht433 ht434 => ?_))
            have hI435 := App_Inv hA424 hI
            have hE436 := App_Ext hA424
            clear le420 lt421 lt422 ht406 ht407 ht408 ht409 ht410 ht411 ht412
            refine di_aload_n rfl rfl ?_
            refine dr_iload rfl rfl ?_
            obtain ⟨s_437, m_440, c438, c439, c441, c442, hc443⟩ := I_bk hI435 (p := b0) hb0
            refine dr_virt rfl rfl rfl rfl hc443 (s_X0_noteAt l hl hI435 (b0 := b0) hb0 (a1 := ((a2 - 1) - i23)) (by omega) (by omega)) (by decide) (by omega) (by omega) (Nat.le_of_ble_eq_true rfl) kNP (kIP (fun y444 y444f y444a y444b => ?_))
            have le445 := hA424.1
            have lt446 := App_lt ht430
            have lt447 := App_lt ht431
            refine dr_virt rfl rfl rfl rfl ht430 (s_J4_append_bf812 l hl (h0 := h) hA424 (q := (List.length h)) (b := b426) (n := (n413 + 1)) (vs := vs427) (by omega) (by omega) (by omega) ht430 ht431 (by omega) (by omega) (by omega) (a1 := y444) (by omega) (by omega) (by omega) ) (by decide) (by omega) (by omega) (Nat.le_of_ble_eq_true rfl) (fun Y h9 q9 => absurd q9 (kQTin Y h9)) (kQTi (fun n460 hn461 hn462 hn463 h448 hA449 le450 b451 vs452 ht453 ht454 ht455 ht456 ht457 ht458 ht459 => ?_))
            have hI464 := App_Inv hA449 hI
            have hE465 := App_Ext hA449
            clear c438 c439 c441 c442 le445 lt446 lt447 ht428 ht429 ht430 ht431 ht432 ht433 ht434 hn463
            refine dr_pop rfl rfl ?_
            refine di_iinc (ls2 := [some (.ref b0), some (dI (a1)), some (dI (a2)), some (dI (a3)), some (.ref ((List.length h))), some (dI ((i23 + 1))), some (dI (((a2 - 1) - i23)))]) rfl rfl rfl rfl ?_
            refine dr_goto rfl rfl ?_
            refine dm_wk (ls2 := [some (.ref b0), some (dI (a1)), some (dI (a2)), some (dI (a3)), some (.ref ((List.length h))), some (dI ((i23 + 1))), none]) ⟨Or.inr rfl, Or.inr rfl, Or.inr rfl, Or.inr rfl, Or.inr rfl, Or.inr rfl, Or.inl rfl, trivial⟩ ?_
            exact ihL24 ((i23 + 1)) (((((((((cn25 + 0) + 1) + 1) + 0) + 1) + 1) + 0) + 1)) (((((((((sn26 + 0) + 400) + 400) + 0) + 400) + 400) + 0) + 400)) h448 (b451) (vs452) (n460) (by omega) (by omega) (by omega) (by omega) (by omega) hI464 hE465  hA449 (by omega) (by omega) ht455 ht456 (by omega) (by omega) (by omega) (by omega)
          · skip
            refine di_aload rfl rfl ?_
            refine di_bipush rfl (by decide) ?_
            have le466 := hA42.1
            have lt467 := App_lt hs35
            have lt468 := App_lt hs36
            refine dr_virt rfl rfl rfl rfl hs35 (s_J4_append_cf468 l hl (h0 := h) hA42 (q := (List.length h)) (b := b30) (n := n32) (vs := vs31) (by omega) (by omega) (by omega) hs35 hs36 (by omega) (by omega) (by omega) (a1 := 32) (by omega) (by omega) (by omega) ) (by decide) (by omega) (by omega) (Nat.le_of_ble_eq_true rfl) (fun Y h9 q9 => absurd q9 (kQTn Y h9)) (kQT1 (fun h469 hA470 le471 b472 vs473 ht474 ht475 ht476 ht477 ht478 ht479 ht480 => ?_))
            have hI481 := App_Inv hA470 hI
            have hE482 := App_Ext hA470
            clear le466 lt467 lt468 hs33 hs34 hs35 hs36 hs39 hs40
            refine dr_pop rfl rfl ?_
            refine di_aload rfl rfl ?_
            refine di_aload_n rfl rfl ?_
            refine dr_iload rfl rfl ?_
            obtain ⟨s_483, m_486, c484, c485, c487, c488, hc489⟩ := I_bk hI481 (p := b0) hb0
            obtain ⟨vs490, hc491, ha492⟩ := I_bka hI481 (p := b0) hb0
            refine dr_virt rfl rfl rfl rfl hc489 (s_X0_fromAt l hl hI481 (b0 := b0) hb0 (a1 := ((a2 - 1) - i23)) (by omega) (by omega) (s0 := s_483) (m0 := m_486) hc489 (by omega) (by omega) (by omega) (by omega) (u0 := vs490) hc491 ha492) (by decide) (by omega) (by omega) (Nat.le_of_ble_eq_true rfl) kNP (kIP (fun y493 y493f y493a y493b => ?_))
            have y493g : -1 ≤ y493 ∧ y493 ≤ 99 ∧ (0 ≤ (((a2 - 1) - i23)) → (((a2 - 1) - i23)) < (s_483) → y493 = cv vs490 (((a2 - 1) - i23)) % 100) := y493f
            have y493h : -1 ≤ y493 ∧ y493 ≤ 99 := ⟨y493g.1, y493g.2.1⟩
            clear y493g y493f
            have le494 := hA470.1
            have lt495 := App_lt ht476
            have lt496 := App_lt ht477
            refine dr_virt rfl rfl rfl rfl ht476 (s_J4_append_bf812 l hl (h0 := h) hA470 (q := (List.length h)) (b := b472) (n := (n32 + 1)) (vs := vs473) (by omega) (by omega) (by omega) ht476 ht477 (by omega) (by omega) (by omega) (a1 := y493) (by omega) (by omega) (by omega) ) (by decide) (by omega) (by omega) (Nat.le_of_ble_eq_true rfl) (fun Y h9 q9 => absurd q9 (kQTin Y h9)) (kQTi (fun n509 hn510 hn511 hn512 h497 hA498 le499 b500 vs501 ht502 ht503 ht504 ht505 ht506 ht507 ht508 => ?_))
            have hn513 : n509 ≤ (n32 + 1) + 2 := hn512 (by omega) (by omega)
            have hI514 := App_Inv hA498 hI
            have hE515 := App_Ext hA498
            clear c484 c485 c487 c488 le494 lt495 lt496 ht474 ht475 ht476 ht477 ht478 ht479 ht480 hn512
            refine di_bipush rfl (by decide) ?_
            have le516 := hA498.1
            have lt517 := App_lt ht504
            have lt518 := App_lt ht505
            refine dr_virt rfl rfl rfl rfl ht504 (s_J4_append_cf468 l hl (h0 := h) hA498 (q := (List.length h)) (b := b500) (n := n509) (vs := vs501) (by omega) (by omega) (by omega) ht504 ht505 (by omega) (by omega) (by omega) (a1 := 45) (by omega) (by omega) (by omega) ) (by decide) (by omega) (by omega) (Nat.le_of_ble_eq_true rfl) (fun Y h9 q9 => absurd q9 (kQTn Y h9)) (kQT1 (fun h519 hA520 le521 b522 vs523 ht524 ht525 ht526 ht527 ht528 ht529 ht530 => ?_))
            have hI531 := App_Inv hA520 hI
            have hE532 := App_Ext hA520
            clear le516 lt517 lt518 ht502 ht503 ht504 ht505 ht506 ht507 ht508
            refine di_aload_n rfl rfl ?_
            refine dr_iload rfl rfl ?_
            obtain ⟨s_533, m_536, c534, c535, c537, c538, hc539⟩ := I_bk hI531 (p := b0) hb0
            obtain ⟨vs540, hc541, ha542⟩ := I_bka hI531 (p := b0) hb0
            refine dr_virt rfl rfl rfl rfl hc539 (s_X0_toAt l hl hI531 (b0 := b0) hb0 (a1 := ((a2 - 1) - i23)) (by omega) (by omega) (s0 := s_533) (m0 := m_536) hc539 (by omega) (by omega) (by omega) (by omega) (u0 := vs540) hc541 ha542) (by decide) (by omega) (by omega) (Nat.le_of_ble_eq_true rfl) kNP (kIP (fun y543 y543f y543a y543b => ?_))
            have y543g : -1 ≤ y543 ∧ y543 ≤ 99 ∧ (0 ≤ (((a2 - 1) - i23)) → (((a2 - 1) - i23)) < (s_533) → y543 = cv vs540 (((a2 - 1) - i23)) / 100) := y543f
            have y543h : -1 ≤ y543 ∧ y543 ≤ 99 := ⟨y543g.1, y543g.2.1⟩
            clear y543g y543f
            have le544 := hA520.1
            have lt545 := App_lt ht526
            have lt546 := App_lt ht527
            refine dr_virt rfl rfl rfl rfl ht526 (s_J4_append_bf812 l hl (h0 := h) hA520 (q := (List.length h)) (b := b522) (n := (n509 + 1)) (vs := vs523) (by omega) (by omega) (by omega) ht526 ht527 (by omega) (by omega) (by omega) (a1 := y543) (by omega) (by omega) (by omega) ) (by decide) (by omega) (by omega) (Nat.le_of_ble_eq_true rfl) (fun Y h9 q9 => absurd q9 (kQTin Y h9)) (kQTi (fun n559 hn560 hn561 hn562 h547 hA548 le549 b550 vs551 ht552 ht553 ht554 ht555 ht556 ht557 ht558 => ?_))
            have hn563 : n559 ≤ (n509 + 1) + 2 := hn562 (by omega) (by omega)
            have hI564 := App_Inv hA548 hI
            have hE565 := App_Ext hA548
            clear c534 c535 c537 c538 le544 lt545 lt546 ht524 ht525 ht526 ht527 ht528 ht529 ht530 hn562
            refine dr_pop rfl rfl ?_
            refine di_aload rfl rfl ?_
            refine di_bipush rfl (by decide) ?_
            have le566 := hA548.1
            have lt567 := App_lt ht554
            have lt568 := App_lt ht555
            refine dr_virt rfl rfl rfl rfl ht554 (s_J4_append_cf468 l hl (h0 := h) hA548 (q := (List.length h)) (b := b550) (n := n559) (vs := vs551) (by omega) (by omega) (by omega) ht554 ht555 (by omega) (by omega) (by omega) (a1 := 58) (by omega) (by omega) (by omega) ) (by decide) (by omega) (by omega) (Nat.le_of_ble_eq_true rfl) (fun Y h9 q9 => absurd q9 (kQTn Y h9)) (kQT1 (fun h569 hA570 le571 b572 vs573 ht574 ht575 ht576 ht577 ht578 ht579 ht580 => ?_))
            have hI581 := App_Inv hA570 hI
            have hE582 := App_Ext hA570
            clear le566 lt567 lt568 ht552 ht553 ht554 ht555 ht556 ht557 ht558
            refine di_aload_n rfl rfl ?_
            refine dr_iload rfl rfl ?_
            obtain ⟨s_583, m_586, c584, c585, c587, c588, hc589⟩ := I_bk hI581 (p := b0) hb0
            refine dr_virt rfl rfl rfl rfl hc589 (s_X0_noteAt l hl hI581 (b0 := b0) hb0 (a1 := ((a2 - 1) - i23)) (by omega) (by omega)) (by decide) (by omega) (by omega) (Nat.le_of_ble_eq_true rfl) kNP (kIP (fun y590 y590f y590a y590b => ?_))
            have le591 := hA570.1
            have lt592 := App_lt ht576
            have lt593 := App_lt ht577
            refine dr_virt rfl rfl rfl rfl ht576 (s_J4_append_bf812 l hl (h0 := h) hA570 (q := (List.length h)) (b := b572) (n := (n559 + 1)) (vs := vs573) (by omega) (by omega) (by omega) ht576 ht577 (by omega) (by omega) (by omega) (a1 := y590) (by omega) (by omega) (by omega) ) (by decide) (by omega) (by omega) (Nat.le_of_ble_eq_true rfl) (fun Y h9 q9 => absurd q9 (kQTin Y h9)) (kQTi (fun n606 hn607 hn608 hn609 h594 hA595 le596 b597 vs598 ht599 ht600 ht601 ht602 ht603 ht604 ht605 => ?_))
            have hI610 := App_Inv hA595 hI
            have hE611 := App_Ext hA595
            clear c584 c585 c587 c588 le591 lt592 lt593 ht574 ht575 ht576 ht577 ht578 ht579 ht580 hn609
            refine dr_pop rfl rfl ?_
            refine di_iinc (ls2 := [some (.ref b0), some (dI (a1)), some (dI (a2)), some (dI (a3)), some (.ref ((List.length h))), some (dI ((i23 + 1))), some (dI (((a2 - 1) - i23)))]) rfl rfl rfl rfl ?_
            refine dr_goto rfl rfl ?_
            refine dm_wk (ls2 := [some (.ref b0), some (dI (a1)), some (dI (a2)), some (dI (a3)), some (.ref ((List.length h))), some (dI ((i23 + 1))), none]) ⟨Or.inr rfl, Or.inr rfl, Or.inr rfl, Or.inr rfl, Or.inr rfl, Or.inr rfl, Or.inl rfl, trivial⟩ ?_
            exact ihL24 ((i23 + 1)) ((((((((((cn25 + 1) + 0) + 1) + 1) + 0) + 1) + 1) + 0) + 1)) ((((((((((sn26 + 400) + 0) + 400) + 400) + 0) + 400) + 400) + 0) + 400)) h594 (b597) (vs598) (n606) (by omega) (by omega) (by omega) (by omega) (by omega) hI610 hE611  hA595 (by omega) (by omega) ht601 ht602 (by omega) (by omega) (by omega) (by omega)
  exact L24 _ (0) (2) (20) h9 (b12) (vs13) (0) (Nat.lt_succ_self _) (by omega) (by omega) (by omega) (by omega) hI21 hE22  hA10 (by omega) (by omega) ht16 ht17 (by omega) (by omega) (by omega) (by omega)
set_option maxHeartbeats 4000000 in
set_option maxRecDepth 100000 in
/-- EarlyendsModel.told -/
theorem s_X8_told (l : Launch) (hl : l.stackTraces = false) {kc km : Int} {h : dm_H} (hI : Inv kc km h) {a1 : Int} (h1a : 0 ≤ a1) (h1b : a1 ≤ 2) {a2 : Int} (h2a : 0 ≤ a2) (h2b : a2 ≤ 1) {a3 : Int} (h3a : 0 ≤ a3) (h3b : a3 ≤ 1) : dm_M l 182 7 58 22024 [.ref 26, dI (a1), dI (a2), dI (a3)] h (QA h (fun v _ => ∃ p : Nat, v = some (.ref p))) := by
  refine dm_M_of dk_182 hl rfl (Nat.le_of_ble_eq_true rfl) ?_
  show dm_W (fun _ _ _ => True) (dm_P (QA h (fun v _ => ∃ p : Nat, v = some (.ref p))) 58 22024) l 182 7 58 22024 0 [some (.ref 26), some (dI (a1)), some (dI (a2)), some (dI (a3)), none, none, none] [] h 0 0
  have l37 := Inv_len hI
  skip
  refine pno (fs := [.null, dI 0, dI 0, dI 0]) rfl rfl (by omega) (by show _ + 4 ≤ _; omega) (fun h1 hA2 lt3 hc4 => ?_)
  refine dm_cew (ce2 := 1) (sl2 := 4) (by omega) (by show _ + 4 ≤ _; omega) ?_
  have hI5 := App_Inv hA2 hI
  have hE6 := App_Ext hA2
  have hA7 := hA2
  refine dr_dup rfl rfl ?_
  have le8 := hA7.1
  refine dr_init rfl rfl rfl rfl rfl (s_J4_init_da8c8 l hl (h0 := h) hA7 (q := (List.length h)) (by omega) hc4) kQTn (by decide) (by omega) (by omega) (Nat.le_of_ble_eq_true rfl) (kQT0 (fun h9 hA10 le11 b12 vs13 ht14 ht15 ht16 ht17 ht18 ht19 ht20 => ?_))
  have hI21 := App_Inv hA10 hI
  have hE22 := App_Ext hA10
  clear le8
  refine di_astore (ls2 := [some (.ref 26), some (dI (a1)), some (dI (a2)), some (dI (a3)), some (.ref ((List.length h))), none, none]) rfl rfl rfl ?_
  refine di_const rfl ?_
  refine di_istore (ls2 := [some (.ref 26), some (dI (a1)), some (dI (a2)), some (dI (a3)), some (.ref ((List.length h))), some (dI (0)), none]) rfl rfl rfl ?_
  have L24 : ∀ (n : Nat) (i23 : Int) (cn25 : Nat) (sn26 : Nat) (h27 : dm_H) (b30 : Nat) (vs31 : List Value) (n32 : Int), (8 - i23).toNat < n → 0 ≤ i23 → i23 ≤ 8 → cn25 + 6 * (8 - i23).toNat ≤ 2 + 54 → sn26 + 2400 * (8 - i23).toNat ≤ 20 + 21600 → Inv kc km h27 → Ext h h27 → App h h27 → h.length ≤ b30 → b30 ≠ (List.length h) → h27[(List.length h)]? = some (1, [.ref b30, dI 0, dI 0, dI n32]) → h27[b30]? = some (21, vs31) → 0 ≤ n32 → n32 ≤ 18 * i23 → n32 ≤ vs31.length → (vs31.length : Int) ≤ 400 → dm_W (fun _ _ _ => True) (dm_P (QA h (fun v _ => ∃ p : Nat, v = some (.ref p))) 58 22024) l 182 7 58 22024 12 [some (.ref 26), some (dI (a1)), some (dI (a2)), some (dI (a3)), some (.ref ((List.length h))), some (dI (i23)), none] [] h27 cn25 sn26 := by
    intro n
    induction n with
    | zero => intro i23 cn25 sn26 h27 b30 vs31 n32 hm; exact absurd hm (Nat.not_lt_zero _)
    | succ n ih =>
      intro i23 cn25 sn26 h27 b30 vs31 n32 hm45 hb43 hb44 hc946 hs947 hI28 hE29 hA42 hs33 hs34 hs35 hs36 hs37 hs38 hs39 hs40
      have ihL24 := ih
      clear ih
      refine dr_iload rfl rfl ?_
      refine di_aload_n rfl rfl ?_
      obtain ⟨th_48, ni_51, pb_54, lo_57, hi_60, hb_63, ls_66, re_69, he_72, c49, c50, c52, c53, c55, c56, c58, c59, c61, c62, c64, c65, c67, c68, c70, c71, c73, hc74⟩ := I_md hI28
      have ho75 : he_72 = -1 ∨ (0 ≤ he_72 ∧ he_72 ≤ 9999 ∧ he_72 % 100 ≤ he_72 / 100) := c73
      refine dr_getf rfl hc74 rfl ?_
      refine dr_iload_n rfl rfl ?_
      obtain ⟨vs76, hc77, ha78⟩ := I_sz hI28
      refine di_iald rfl hc77 ha78 (by omega) (by omega) (fun x79 x79f x79a x79b x79v => ?_)
      have x79g : 0 ≤ x79 ∧ x79 ≤ 8 := x79f
      have x79w : cv vs76 (a1) = x79 := cv_eq x79v x79a x79b
      refine di_icmp_ge rfl rfl (by omega) (by omega) (by omega) (by omega) (fun c80 => ?_) (fun c80 => ?_)
      · skip
        refine di_aload rfl rfl ?_
        have le81 := hA42.1
        have lt82 := App_lt hs35
        have lt83 := App_lt hs36
        refine dr_virt rfl rfl rfl rfl hs35 (s_J4_toString_0e30d l hl (h0 := h) hA42 (q := (List.length h)) (b := b30) (n := n32) (vs := vs31) (by omega) (by omega) (by omega) hs35 hs36 (by omega) (by omega) (by omega)  ) (by decide) (by omega) (by omega) (Nat.le_of_ble_eq_true rfl) (fun Y h9 q9 => absurd q9 (kQRn Y h9)) (kQR (fun h84 hA85 le86 p87 hp88 => ?_))
        have hI89 := App_Inv hA85 hI
        have hE90 := App_Ext hA85
        clear c49 c50 c52 c53 c55 c56 c58 c59 c61 c62 c64 c65 c67 c68 c70 c71 c73 ho75
        exact dr_aret rfl rfl (Or.inl ⟨_, rfl⟩) (Or.inl ⟨_, rfl⟩) (by omega) (by omega) ⟨hA85, _, rfl⟩
      · skip
        refine di_aload_n rfl rfl ?_
        refine dr_iload_n rfl rfl ?_
        refine dr_iload_n rfl rfl ?_
        refine di_if_eq rfl rfl (by omega) (by omega) (fun c91 => ?_) (fun c91 => ?_)
        · skip
          refine dr_iload rfl rfl ?_
          refine dr_virt rfl rfl rfl rfl hc74 (s_X8_codeAt l hl hI28 (a1 := a1) (by omega) (by omega) (a2 := i23) (by omega) (by omega)) (by decide) (by omega) (by omega) (Nat.le_of_ble_eq_true rfl) kNP (kIP (fun y92 y92f y92a y92b => ?_))
          have y92g : -1 ≤ y92 ∧ y92 ≤ 9999 ∧ (y92 = -1 ∨ (0 ≤ y92 ∧ y92 % 100 ≤ y92 / 100)) := y92f
          have y92h : -1 ≤ y92 ∧ y92 ≤ 9999 := ⟨y92g.1, y92g.2.1⟩
          clear y92g y92f
          refine di_istore (ls2 := [some (.ref 26), some (dI (a1)), some (dI (a2)), some (dI (a3)), some (.ref ((List.length h))), some (dI (i23)), some (dI (y92))]) rfl rfl rfl ?_
          refine dr_iload_n rfl rfl ?_
          refine di_if_eq rfl rfl (by omega) (by omega) (fun c93 => ?_) (fun c93 => ?_)
          · skip
            refine di_aload rfl rfl ?_
            have le94 := hA42.1
            have lt95 := App_lt hs35
            have lt96 := App_lt hs36
            refine dr_virt rfl rfl rfl rfl hs35 (s_J4_length_8abf5 l hl (h0 := h) hA42 (q := (List.length h)) (b := b30) (n := n32) (vs := vs31) (by omega) (by omega) (by omega) hs35 hs36 (by omega) (by omega) (by omega)  ) (by decide) (by omega) (by omega) (Nat.le_of_ble_eq_true rfl) (fun Y h9 q9 => absurd q9 (kNP0 Y h9)) (kIP (fun y97 y97f y97a y97b => ?_))
            have y97g : y97 = n32 := y97f.2.2
            clear le94 lt95 lt96 y97f
            refine di_if_le rfl rfl (by omega) (by omega) (fun c98 => ?_) (fun c98 => ?_)
            · skip
              refine di_aload rfl rfl ?_
              refine dr_iload rfl rfl ?_
              refine di_bipush rfl (by decide) ?_
              refine dR_rem rfl (by omega) (by omega) (fun q99 q99a q99b q99e => ?_)
              have le100 := hA42.1
              have lt101 := App_lt hs35
              have lt102 := App_lt hs36
              refine dr_virt rfl rfl rfl rfl hs35 (s_J4_append_bf812 l hl (h0 := h) hA42 (q := (List.length h)) (b := b30) (n := n32) (vs := vs31) (by omega) (by omega) (by omega) hs35 hs36 (by omega) (by omega) (by omega) (a1 := q99) (by omega) (by omega) (by omega) ) (by decide) (by omega) (by omega) (Nat.le_of_ble_eq_true rfl) (fun Y h9 q9 => absurd q9 (kQTin Y h9)) (kQTi (fun n115 hn116 hn117 hn118 h103 hA104 le105 b106 vs107 ht108 ht109 ht110 ht111 ht112 ht113 ht114 => ?_))
              have hn119 : n115 ≤ n32 + 2 := hn118 (by omega) (by omega)
              have hI120 := App_Inv hA104 hI
              have hE121 := App_Ext hA104
              clear c49 c50 c52 c53 c55 c56 c58 c59 c61 c62 c64 c65 c67 c68 c70 c71 c73 ho75 le100 lt101 lt102 hs33 hs34 hs35 hs36 hs39 hs40 hn118
              refine di_bipush rfl (by decide) ?_
              have le122 := hA104.1
              have lt123 := App_lt ht110
              have lt124 := App_lt ht111
              refine dr_virt rfl rfl rfl rfl ht110 (s_J4_append_cf468 l hl (h0 := h) hA104 (q := (List.length h)) (b := b106) (n := n115) (vs := vs107) (by omega) (by omega) (by omega) ht110 ht111 (by omega) (by omega) (by omega) (a1 := 45) (by omega) (by omega) (by omega) ) (by decide) (by omega) (by omega) (Nat.le_of_ble_eq_true rfl) (fun Y h9 q9 => absurd q9 (kQTn Y h9)) (kQT1 (fun h125 hA126 le127 b128 vs129 ht130 ht131 ht132 ht133 ht134 ht135 ht136 => ?_))
              have hI137 := App_Inv hA126 hI
              have hE138 := App_Ext hA126
              clear le122 lt123 lt124 ht108 ht109 ht110 ht111 ht112 ht113 ht114
              refine dr_iload rfl rfl ?_
              refine di_bipush rfl (by decide) ?_
              refine dR_div rfl (by omega) (by omega) (fun q139 q139a q139b q139e => ?_)
              have le140 := hA126.1
              have lt141 := App_lt ht132
              have lt142 := App_lt ht133
              refine dr_virt rfl rfl rfl rfl ht132 (s_J4_append_bf812 l hl (h0 := h) hA126 (q := (List.length h)) (b := b128) (n := (n115 + 1)) (vs := vs129) (by omega) (by omega) (by omega) ht132 ht133 (by omega) (by omega) (by omega) (a1 := q139) (by omega) (by omega) (by omega) ) (by decide) (by omega) (by omega) (Nat.le_of_ble_eq_true rfl) (fun Y h9 q9 => absurd q9 (kQTin Y h9)) (kQTi (fun n155 hn156 hn157 hn158 h143 hA144 le145 b146 vs147 ht148 ht149 ht150 ht151 ht152 ht153 ht154 => ?_))
              have hn159 : n155 ≤ (n115 + 1) + 2 := hn158 (by omega) (by omega)
              have hI160 := App_Inv hA144 hI
              have hE161 := App_Ext hA144
              clear le140 lt141 lt142 ht130 ht131 ht132 ht133 ht134 ht135 ht136 hn158
              refine di_bipush rfl (by decide) ?_
              have le162 := hA144.1
              have lt163 := App_lt ht150
              have lt164 := App_lt ht151
              refine dr_virt rfl rfl rfl rfl ht150 (s_J4_append_cf468 l hl (h0 := h) hA144 (q := (List.length h)) (b := b146) (n := n155) (vs := vs147) (by omega) (by omega) (by omega) ht150 ht151 (by omega) (by omega) (by omega) (a1 := 58) (by omega) (by omega) (by omega) ) (by decide) (by omega) (by omega) (Nat.le_of_ble_eq_true rfl) (fun Y h9 q9 => absurd q9 (kQTn Y h9)) (kQT1 (fun h165 hA166 le167 b168 vs169 ht170 ht171 ht172 ht173 ht174 ht175 ht176 => ?_))
              have hI177 := App_Inv hA166 hI
              have hE178 := App_Ext hA166
              clear le162 lt163 lt164 ht148 ht149 ht150 ht151 ht152 ht153 ht154
              refine di_aload_n rfl rfl ?_
              refine dr_iload_n rfl rfl ?_
              refine dr_iload rfl rfl ?_
              obtain ⟨th_179, ni_182, pb_185, lo_188, hi_191, hb_194, ls_197, re_200, he_203, c180, c181, c183, c184, c186, c187, c189, c190, c192, c193, c195, c196, c198, c199, c201, c202, c204, hc205⟩ := I_md hI177
              have ho206 : he_203 = -1 ∨ (0 ≤ he_203 ∧ he_203 ≤ 9999 ∧ he_203 % 100 ≤ he_203 / 100) := c204
              refine dr_virt rfl rfl rfl rfl hc205 (s_X8_noteAt l hl hI177 (a1 := a1) (by omega) (by omega) (a2 := y92) (by omega) (by omega)) (by decide) (by omega) (by omega) (Nat.le_of_ble_eq_true rfl) kNP (kIP (fun y207 y207f y207a y207b => ?_))
              have le208 := hA166.1
              have lt209 := App_lt ht172
              have lt210 := App_lt ht173
              refine dr_virt rfl rfl rfl rfl ht172 (s_J4_append_bf812 l hl (h0 := h) hA166 (q := (List.length h)) (b := b168) (n := (n155 + 1)) (vs := vs169) (by omega) (by omega) (by omega) ht172 ht173 (by omega) (by omega) (by omega) (a1 := y207) (by omega) (by omega) (by omega) ) (by decide) (by omega) (by omega) (Nat.le_of_ble_eq_true rfl) (fun Y h9 q9 => absurd q9 (kQTin Y h9)) (kQTi (fun n223 hn224 hn225 hn226 h211 hA212 le213 b214 vs215 ht216 ht217 ht218 ht219 ht220 ht221 ht222 => ?_))
              have hI227 := App_Inv hA212 hI
              have hE228 := App_Ext hA212
              clear c180 c181 c183 c184 c186 c187 c189 c190 c192 c193 c195 c196 c198 c199 c201 c202 c204 ho206 le208 lt209 lt210 ht170 ht171 ht172 ht173 ht174 ht175 ht176 hn226
              refine dr_pop rfl rfl ?_
              refine di_iinc (ls2 := [some (.ref 26), some (dI (a1)), some (dI (a2)), some (dI (a3)), some (.ref ((List.length h))), some (dI ((i23 + 1))), some (dI (y92))]) rfl rfl rfl rfl ?_
              refine dr_goto rfl rfl ?_
              refine dm_wk (ls2 := [some (.ref 26), some (dI (a1)), some (dI (a2)), some (dI (a3)), some (.ref ((List.length h))), some (dI ((i23 + 1))), none]) ⟨Or.inr rfl, Or.inr rfl, Or.inr rfl, Or.inr rfl, Or.inr rfl, Or.inr rfl, Or.inl rfl, trivial⟩ ?_
              exact ihL24 ((i23 + 1)) (((((((((cn25 + 0) + 0) + 1) + 1) + 1) + 1) + 0) + 1)) (((((((((sn26 + 0) + 0) + 400) + 400) + 400) + 400) + 0) + 400)) h211 (b214) (vs215) (n223) (by omega) (by omega) (by omega) (by omega) (by omega) hI227 hE228  hA212 (by omega) (by omega) ht218 ht219 (by omega) (by omega) (by omega) (by omega)
            · skip
              refine di_aload rfl rfl ?_
              refine di_bipush rfl (by decide) ?_
              have le229 := hA42.1
              have lt230 := App_lt hs35
              have lt231 := App_lt hs36
              refine dr_virt rfl rfl rfl rfl hs35 (s_J4_append_cf468 l hl (h0 := h) hA42 (q := (List.length h)) (b := b30) (n := n32) (vs := vs31) (by omega) (by omega) (by omega) hs35 hs36 (by omega) (by omega) (by omega) (a1 := 32) (by omega) (by omega) (by omega) ) (by decide) (by omega) (by omega) (Nat.le_of_ble_eq_true rfl) (fun Y h9 q9 => absurd q9 (kQTn Y h9)) (kQT1 (fun h232 hA233 le234 b235 vs236 ht237 ht238 ht239 ht240 ht241 ht242 ht243 => ?_))
              have hI244 := App_Inv hA233 hI
              have hE245 := App_Ext hA233
              clear c49 c50 c52 c53 c55 c56 c58 c59 c61 c62 c64 c65 c67 c68 c70 c71 c73 ho75 le229 lt230 lt231 hs33 hs34 hs35 hs36 hs39 hs40
              refine dr_pop rfl rfl ?_
              refine di_aload rfl rfl ?_
              refine dr_iload rfl rfl ?_
              refine di_bipush rfl (by decide) ?_
              refine dR_rem rfl (by omega) (by omega) (fun q246 q246a q246b q246e => ?_)
              have le247 := hA233.1
              have lt248 := App_lt ht239
              have lt249 := App_lt ht240
              refine dr_virt rfl rfl rfl rfl ht239 (s_J4_append_bf812 l hl (h0 := h) hA233 (q := (List.length h)) (b := b235) (n := (n32 + 1)) (vs := vs236) (by omega) (by omega) (by omega) ht239 ht240 (by omega) (by omega) (by omega) (a1 := q246) (by omega) (by omega) (by omega) ) (by decide) (by omega) (by omega) (Nat.le_of_ble_eq_true rfl) (fun Y h9 q9 => absurd q9 (kQTin Y h9)) (kQTi (fun n262 hn263 hn264 hn265 h250 hA251 le252 b253 vs254 ht255 ht256 ht257 ht258 ht259 ht260 ht261 => ?_))
              have hn266 : n262 ≤ (n32 + 1) + 2 := hn265 (by omega) (by omega)
              have hI267 := App_Inv hA251 hI
              have hE268 := App_Ext hA251
              clear le247 lt248 lt249 ht237 ht238 ht239 ht240 ht241 ht242 ht243 hn265
              refine di_bipush rfl (by decide) ?_
              have le269 := hA251.1
              have lt270 := App_lt ht257
              have lt271 := App_lt ht258
              refine dr_virt rfl rfl rfl rfl ht257 (s_J4_append_cf468 l hl (h0 := h) hA251 (q := (List.length h)) (b := b253) (n := n262) (vs := vs254) (by omega) (by omega) (by omega) ht257 ht258 (by omega) (by omega) (by omega) (a1 := 45) (by omega) (by omega) (by omega) ) (by decide) (by omega) (by omega) (Nat.le_of_ble_eq_true rfl) (fun Y h9 q9 => absurd q9 (kQTn Y h9)) (kQT1 (fun h272 hA273 le274 b275 vs276 ht277 ht278 ht279 ht280 ht281 ht282 ht283 => ?_))
              have hI284 := App_Inv hA273 hI
              have hE285 := App_Ext hA273
              clear le269 lt270 lt271 ht255 ht256 ht257 ht258 ht259 ht260 ht261
              refine dr_iload rfl rfl ?_
              refine di_bipush rfl (by decide) ?_
              refine dR_div rfl (by omega) (by omega) (fun q286 q286a q286b q286e => ?_)
              have le287 := hA273.1
              have lt288 := App_lt ht279
              have lt289 := App_lt ht280
              refine dr_virt rfl rfl rfl rfl ht279 (s_J4_append_bf812 l hl (h0 := h) hA273 (q := (List.length h)) (b := b275) (n := (n262 + 1)) (vs := vs276) (by omega) (by omega) (by omega) ht279 ht280 (by omega) (by omega) (by omega) (a1 := q286) (by omega) (by omega) (by omega) ) (by decide) (by omega) (by omega) (Nat.le_of_ble_eq_true rfl) (fun Y h9 q9 => absurd q9 (kQTin Y h9)) (kQTi (fun n302 hn303 hn304 hn305 h290 hA291 le292 b293 vs294 ht295 ht296 ht297 ht298 ht299 ht300 ht301 => ?_))
              have hn306 : n302 ≤ (n262 + 1) + 2 := hn305 (by omega) (by omega)
              have hI307 := App_Inv hA291 hI
              have hE308 := App_Ext hA291
              clear le287 lt288 lt289 ht277 ht278 ht279 ht280 ht281 ht282 ht283 hn305
              refine di_bipush rfl (by decide) ?_
              have le309 := hA291.1
              have lt310 := App_lt ht297
              have lt311 := App_lt ht298
              refine dr_virt rfl rfl rfl rfl ht297 (s_J4_append_cf468 l hl (h0 := h) hA291 (q := (List.length h)) (b := b293) (n := n302) (vs := vs294) (by omega) (by omega) (by omega) ht297 ht298 (by omega) (by omega) (by omega) (a1 := 58) (by omega) (by omega) (by omega) ) (by decide) (by omega) (by omega) (Nat.le_of_ble_eq_true rfl) (fun Y h9 q9 => absurd q9 (kQTn Y h9)) (kQT1 (fun h312 hA313 le314 b315 vs316 ht317 ht318 ht319 ht320 ht321 ht322 ht323 => ?_))
              have hI324 := App_Inv hA313 hI
              have hE325 := App_Ext hA313
              clear le309 lt310 lt311 ht295 ht296 ht297 ht298 ht299 ht300 ht301
              refine di_aload_n rfl rfl ?_
              refine dr_iload_n rfl rfl ?_
              refine dr_iload rfl rfl ?_
              obtain ⟨th_326, ni_329, pb_332, lo_335, hi_338, hb_341, ls_344, re_347, he_350, c327, c328, c330, c331, c333, c334, c336, c337, c339, c340, c342, c343, c345, c346, c348, c349, c351, hc352⟩ := I_md hI324
              have ho353 : he_350 = -1 ∨ (0 ≤ he_350 ∧ he_350 ≤ 9999 ∧ he_350 % 100 ≤ he_350 / 100) := c351
              refine dr_virt rfl rfl rfl rfl hc352 (s_X8_noteAt l hl hI324 (a1 := a1) (by omega) (by omega) (a2 := y92) (by omega) (by omega)) (by decide) (by omega) (by omega) (Nat.le_of_ble_eq_true rfl) kNP (kIP (fun y354 y354f y354a y354b => ?_))
              have le355 := hA313.1
              have lt356 := App_lt ht319
              have lt357 := App_lt ht320
              refine dr_virt rfl rfl rfl rfl ht319 (s_J4_append_bf812 l hl (h0 := h) hA313 (q := (List.length h)) (b := b315) (n := (n302 + 1)) (vs := vs316) (by omega) (by omega) (by omega) ht319 ht320 (by omega) (by omega) (by omega) (a1 := y354) (by omega) (by omega) (by omega) ) (by decide) (by omega) (by omega) (Nat.le_of_ble_eq_true rfl) (fun Y h9 q9 => absurd q9 (kQTin Y h9)) (kQTi (fun n370 hn371 hn372 hn373 h358 hA359 le360 b361 vs362 ht363 ht364 ht365 ht366 ht367 ht368 ht369 => ?_))
              have hI374 := App_Inv hA359 hI
              have hE375 := App_Ext hA359
              clear c327 c328 c330 c331 c333 c334 c336 c337 c339 c340 c342 c343 c345 c346 c348 c349 c351 ho353 le355 lt356 lt357 ht317 ht318 ht319 ht320 ht321 ht322 ht323 hn373
              refine dr_pop rfl rfl ?_
              refine di_iinc (ls2 := [some (.ref 26), some (dI (a1)), some (dI (a2)), some (dI (a3)), some (.ref ((List.length h))), some (dI ((i23 + 1))), some (dI (y92))]) rfl rfl rfl rfl ?_
              refine dr_goto rfl rfl ?_
              refine dm_wk (ls2 := [some (.ref 26), some (dI (a1)), some (dI (a2)), some (dI (a3)), some (.ref ((List.length h))), some (dI ((i23 + 1))), none]) ⟨Or.inr rfl, Or.inr rfl, Or.inr rfl, Or.inr rfl, Or.inr rfl, Or.inr rfl, Or.inl rfl, trivial⟩ ?_
              exact ihL24 ((i23 + 1)) ((((((((((cn25 + 0) + 0) + 1) + 1) + 1) + 1) + 1) + 0) + 1)) ((((((((((sn26 + 0) + 0) + 400) + 400) + 400) + 400) + 400) + 0) + 400)) h358 (b361) (vs362) (n370) (by omega) (by omega) (by omega) (by omega) (by omega) hI374 hE375  hA359 (by omega) (by omega) ht365 ht366 (by omega) (by omega) (by omega) (by omega)
          · skip
            refine di_aload_n rfl rfl ?_
            refine dr_iload rfl rfl ?_
            refine dr_virt rfl rfl rfl rfl hc74 (s_X8_isInPart l hl hI28 (a1 := y92) (by omega) (by omega)) (by decide) (by omega) (by omega) (Nat.le_of_ble_eq_true rfl) kNP (kIP (fun y376 y376f y376a y376b => ?_))
            have y376g : 0 ≤ y376 ∧ y376 ≤ 1 := y376f
            have y376h : 0 ≤ y376 ∧ y376 ≤ 1 := ⟨y376g.1, y376g.2⟩
            clear y376g y376f
            refine di_if_ne rfl rfl (by omega) (by omega) (fun c377 => ?_) (fun c377 => ?_)
            · skip
              refine di_aload rfl rfl ?_
              have le378 := hA42.1
              have lt379 := App_lt hs35
              have lt380 := App_lt hs36
              refine dr_virt rfl rfl rfl rfl hs35 (s_J4_length_8abf5 l hl (h0 := h) hA42 (q := (List.length h)) (b := b30) (n := n32) (vs := vs31) (by omega) (by omega) (by omega) hs35 hs36 (by omega) (by omega) (by omega)  ) (by decide) (by omega) (by omega) (Nat.le_of_ble_eq_true rfl) (fun Y h9 q9 => absurd q9 (kNP0 Y h9)) (kIP (fun y381 y381f y381a y381b => ?_))
              have y381g : y381 = n32 := y381f.2.2
              clear le378 lt379 lt380 y381f
              refine di_if_le rfl rfl (by omega) (by omega) (fun c382 => ?_) (fun c382 => ?_)
              · skip
                refine di_aload rfl rfl ?_
                refine dr_iload rfl rfl ?_
                refine di_bipush rfl (by decide) ?_
                refine dR_rem rfl (by omega) (by omega) (fun q383 q383a q383b q383e => ?_)
                have le384 := hA42.1
                have lt385 := App_lt hs35
                have lt386 := App_lt hs36
                refine dr_virt rfl rfl rfl rfl hs35 (s_J4_append_bf812 l hl (h0 := h) hA42 (q := (List.length h)) (b := b30) (n := n32) (vs := vs31) (by omega) (by omega) (by omega) hs35 hs36 (by omega) (by omega) (by omega) (a1 := q383) (by omega) (by omega) (by omega) ) (by decide) (by omega) (by omega) (Nat.le_of_ble_eq_true rfl) (fun Y h9 q9 => absurd q9 (kQTin Y h9)) (kQTi (fun n399 hn400 hn401 hn402 h387 hA388 le389 b390 vs391 ht392 ht393 ht394 ht395 ht396 ht397 ht398 => ?_))
                have hn403 : n399 ≤ n32 + 2 := hn402 (by omega) (by omega)
                have hI404 := App_Inv hA388 hI
                have hE405 := App_Ext hA388
                clear c49 c50 c52 c53 c55 c56 c58 c59 c61 c62 c64 c65 c67 c68 c70 c71 c73 ho75 le384 lt385 lt386 hs33 hs34 hs35 hs36 hs39 hs40 hn402
                refine di_bipush rfl (by decide) ?_
                have le406 := hA388.1
                have lt407 := App_lt ht394
                have lt408 := App_lt ht395
                refine dr_virt rfl rfl rfl rfl ht394 (s_J4_append_cf468 l hl (h0 := h) hA388 (q := (List.length h)) (b := b390) (n := n399) (vs := vs391) (by omega) (by omega) (by omega) ht394 ht395 (by omega) (by omega) (by omega) (a1 := 45) (by omega) (by omega) (by omega) ) (by decide) (by omega) (by omega) (Nat.le_of_ble_eq_true rfl) (fun Y h9 q9 => absurd q9 (kQTn Y h9)) (kQT1 (fun h409 hA410 le411 b412 vs413 ht414 ht415 ht416 ht417 ht418 ht419 ht420 => ?_))
                have hI421 := App_Inv hA410 hI
                have hE422 := App_Ext hA410
                clear le406 lt407 lt408 ht392 ht393 ht394 ht395 ht396 ht397 ht398
                refine dr_iload rfl rfl ?_
                refine di_bipush rfl (by decide) ?_
                refine dR_div rfl (by omega) (by omega) (fun q423 q423a q423b q423e => ?_)
                have le424 := hA410.1
                have lt425 := App_lt ht416
                have lt426 := App_lt ht417
                refine dr_virt rfl rfl rfl rfl ht416 (s_J4_append_bf812 l hl (h0 := h) hA410 (q := (List.length h)) (b := b412) (n := (n399 + 1)) (vs := vs413) (by omega) (by omega) (by omega) ht416 ht417 (by omega) (by omega) (by omega) (a1 := q423) (by omega) (by omega) (by omega) ) (by decide) (by omega) (by omega) (Nat.le_of_ble_eq_true rfl) (fun Y h9 q9 => absurd q9 (kQTin Y h9)) (kQTi (fun n439 hn440 hn441 hn442 h427 hA428 le429 b430 vs431 ht432 ht433 ht434 ht435 ht436 ht437 ht438 => ?_))
                have hn443 : n439 ≤ (n399 + 1) + 2 := hn442 (by omega) (by omega)
                have hI444 := App_Inv hA428 hI
                have hE445 := App_Ext hA428
                clear le424 lt425 lt426 ht414 ht415 ht416 ht417 ht418 ht419 ht420 hn442
                refine di_bipush rfl (by decide) ?_
                have le446 := hA428.1
                have lt447 := App_lt ht434
                have lt448 := App_lt ht435
                refine dr_virt rfl rfl rfl rfl ht434 (s_J4_append_cf468 l hl (h0 := h) hA428 (q := (List.length h)) (b := b430) (n := n439) (vs := vs431) (by omega) (by omega) (by omega) ht434 ht435 (by omega) (by omega) (by omega) (a1 := 58) (by omega) (by omega) (by omega) ) (by decide) (by omega) (by omega) (Nat.le_of_ble_eq_true rfl) (fun Y h9 q9 => absurd q9 (kQTn Y h9)) (kQT1 (fun h449 hA450 le451 b452 vs453 ht454 ht455 ht456 ht457 ht458 ht459 ht460 => ?_))
                have hI461 := App_Inv hA450 hI
                have hE462 := App_Ext hA450
                clear le446 lt447 lt448 ht432 ht433 ht434 ht435 ht436 ht437 ht438
                refine di_aload_n rfl rfl ?_
                refine dr_iload_n rfl rfl ?_
                refine dr_iload rfl rfl ?_
                obtain ⟨th_463, ni_466, pb_469, lo_472, hi_475, hb_478, ls_481, re_484, he_487, c464, c465, c467, c468, c470, c471, c473, c474, c476, c477, c479, c480, c482, c483, c485, c486, c488, hc489⟩ := I_md hI461
                have ho490 : he_487 = -1 ∨ (0 ≤ he_487 ∧ he_487 ≤ 9999 ∧ he_487 % 100 ≤ he_487 / 100) := c488
                refine dr_virt rfl rfl rfl rfl hc489 (s_X8_noteAt l hl hI461 (a1 := a1) (by omega) (by omega) (a2 := y92) (by omega) (by omega)) (by decide) (by omega) (by omega) (Nat.le_of_ble_eq_true rfl) kNP (kIP (fun y491 y491f y491a y491b => ?_))
                have le492 := hA450.1
                have lt493 := App_lt ht456
                have lt494 := App_lt ht457
                refine dr_virt rfl rfl rfl rfl ht456 (s_J4_append_bf812 l hl (h0 := h) hA450 (q := (List.length h)) (b := b452) (n := (n439 + 1)) (vs := vs453) (by omega) (by omega) (by omega) ht456 ht457 (by omega) (by omega) (by omega) (a1 := y491) (by omega) (by omega) (by omega) ) (by decide) (by omega) (by omega) (Nat.le_of_ble_eq_true rfl) (fun Y h9 q9 => absurd q9 (kQTin Y h9)) (kQTi (fun n507 hn508 hn509 hn510 h495 hA496 le497 b498 vs499 ht500 ht501 ht502 ht503 ht504 ht505 ht506 => ?_))
                have hI511 := App_Inv hA496 hI
                have hE512 := App_Ext hA496
                clear c464 c465 c467 c468 c470 c471 c473 c474 c476 c477 c479 c480 c482 c483 c485 c486 c488 ho490 le492 lt493 lt494 ht454 ht455 ht456 ht457 ht458 ht459 ht460 hn510
                refine dr_pop rfl rfl ?_
                refine di_iinc (ls2 := [some (.ref 26), some (dI (a1)), some (dI (a2)), some (dI (a3)), some (.ref ((List.length h))), some (dI ((i23 + 1))), some (dI (y92))]) rfl rfl rfl rfl ?_
                refine dr_goto rfl rfl ?_
                refine dm_wk (ls2 := [some (.ref 26), some (dI (a1)), some (dI (a2)), some (dI (a3)), some (.ref ((List.length h))), some (dI ((i23 + 1))), none]) ⟨Or.inr rfl, Or.inr rfl, Or.inr rfl, Or.inr rfl, Or.inr rfl, Or.inr rfl, Or.inl rfl, trivial⟩ ?_
                exact ihL24 ((i23 + 1)) ((((((((((cn25 + 0) + 0) + 0) + 1) + 1) + 1) + 1) + 0) + 1)) ((((((((((sn26 + 0) + 0) + 0) + 400) + 400) + 400) + 400) + 0) + 400)) h495 (b498) (vs499) (n507) (by omega) (by omega) (by omega) (by omega) (by omega) hI511 hE512  hA496 (by omega) (by omega) ht502 ht503 (by omega) (by omega) (by omega) (by omega)
              · skip
                refine di_aload rfl rfl ?_
                refine di_bipush rfl (by decide) ?_
                have le513 := hA42.1
                have lt514 := App_lt hs35
                have lt515 := App_lt hs36
                refine dr_virt rfl rfl rfl rfl hs35 (s_J4_append_cf468 l hl (h0 := h) hA42 (q := (List.length h)) (b := b30) (n := n32) (vs := vs31) (by omega) (by omega) (by omega) hs35 hs36 (by omega) (by omega) (by omega) (a1 := 32) (by omega) (by omega) (by omega) ) (by decide) (by omega) (by omega) (Nat.le_of_ble_eq_true rfl) (fun Y h9 q9 => absurd q9 (kQTn Y h9)) (kQT1 (fun h516 hA517 le518 b519 vs520 ht521 ht522 ht523 ht524 ht525 ht526 ht527 => ?_))
                have hI528 := App_Inv hA517 hI
                have hE529 := App_Ext hA517
                clear c49 c50 c52 c53 c55 c56 c58 c59 c61 c62 c64 c65 c67 c68 c70 c71 c73 ho75 le513 lt514 lt515 hs33 hs34 hs35 hs36 hs39 hs40
                refine dr_pop rfl rfl ?_
                refine di_aload rfl rfl ?_
                refine dr_iload rfl rfl ?_
                refine di_bipush rfl (by decide) ?_
                refine dR_rem rfl (by omega) (by omega) (fun q530 q530a q530b q530e => ?_)
                have le531 := hA517.1
                have lt532 := App_lt ht523
                have lt533 := App_lt ht524
                refine dr_virt rfl rfl rfl rfl ht523 (s_J4_append_bf812 l hl (h0 := h) hA517 (q := (List.length h)) (b := b519) (n := (n32 + 1)) (vs := vs520) (by omega) (by omega) (by omega) ht523 ht524 (by omega) (by omega) (by omega) (a1 := q530) (by omega) (by omega) (by omega) ) (by decide) (by omega) (by omega) (Nat.le_of_ble_eq_true rfl) (fun Y h9 q9 => absurd q9 (kQTin Y h9)) (kQTi (fun n546 hn547 hn548 hn549 h534 hA535 le536 b537 vs538 ht539 ht540 ht541 ht542 ht543 ht544 ht545 => ?_))
                have hn550 : n546 ≤ (n32 + 1) + 2 := hn549 (by omega) (by omega)
                have hI551 := App_Inv hA535 hI
                have hE552 := App_Ext hA535
                clear le531 lt532 lt533 ht521 ht522 ht523 ht524 ht525 ht526 ht527 hn549
                refine di_bipush rfl (by decide) ?_
                have le553 := hA535.1
                have lt554 := App_lt ht541
                have lt555 := App_lt ht542
                refine dr_virt rfl rfl rfl rfl ht541 (s_J4_append_cf468 l hl (h0 := h) hA535 (q := (List.length h)) (b := b537) (n := n546) (vs := vs538) (by omega) (by omega) (by omega) ht541 ht542 (by omega) (by omega) (by omega) (a1 := 45) (by omega) (by omega) (by omega) ) (by decide) (by omega) (by omega) (Nat.le_of_ble_eq_true rfl) (fun Y h9 q9 => absurd q9 (kQTn Y h9)) (kQT1 (fun h556 hA557 le558 b559 vs560 ht561 ht562 ht563 ht564 ht565 ht566 ht567 => ?_))
                have hI568 := App_Inv hA557 hI
                have hE569 := App_Ext hA557
                clear le553 lt554 lt555 ht539 ht540 ht541 ht542 ht543 ht544 ht545
                refine dr_iload rfl rfl ?_
                refine di_bipush rfl (by decide) ?_
                refine dR_div rfl (by omega) (by omega) (fun q570 q570a q570b q570e => ?_)
                have le571 := hA557.1
                have lt572 := App_lt ht563
                have lt573 := App_lt ht564
                refine dr_virt rfl rfl rfl rfl ht563 (s_J4_append_bf812 l hl (h0 := h) hA557 (q := (List.length h)) (b := b559) (n := (n546 + 1)) (vs := vs560) (by omega) (by omega) (by omega) ht563 ht564 (by omega) (by omega) (by omega) (a1 := q570) (by omega) (by omega) (by omega) ) (by decide) (by omega) (by omega) (Nat.le_of_ble_eq_true rfl) (fun Y h9 q9 => absurd q9 (kQTin Y h9)) (kQTi (fun n586 hn587 hn588 hn589 h574 hA575 le576 b577 vs578 ht579 ht580 ht581 ht582 ht583 ht584 ht585 => ?_))
                have hn590 : n586 ≤ (n546 + 1) + 2 := hn589 (by omega) (by omega)
                have hI591 := App_Inv hA575 hI
                have hE592 := App_Ext hA575
                clear le571 lt572 lt573 ht561 ht562 ht563 ht564 ht565 ht566 ht567 hn589
                refine di_bipush rfl (by decide) ?_
                have le593 := hA575.1
                have lt594 := App_lt ht581
                have lt595 := App_lt ht582
                refine dr_virt rfl rfl rfl rfl ht581 (s_J4_append_cf468 l hl (h0 := h) hA575 (q := (List.length h)) (b := b577) (n := n586) (vs := vs578) (by omega) (by omega) (by omega) ht581 ht582 (by omega) (by omega) (by omega) (a1 := 58) (by omega) (by omega) (by omega) ) (by decide) (by omega) (by omega) (Nat.le_of_ble_eq_true rfl) (fun Y h9 q9 => absurd q9 (kQTn Y h9)) (kQT1 (fun h596 hA597 le598 b599 vs600 ht601 ht602 ht603 ht604 ht605 ht606 ht607 => ?_))
                have hI608 := App_Inv hA597 hI
                have hE609 := App_Ext hA597
                clear le593 lt594 lt595 ht579 ht580 ht581 ht582 ht583 ht584 ht585
                refine di_aload_n rfl rfl ?_
                refine dr_iload_n rfl rfl ?_
                refine dr_iload rfl rfl ?_
                obtain ⟨th_610, ni_613, pb_616, lo_619, hi_622, hb_625, ls_628, re_631, he_634, c611, c612, c614, c615, c617, c618, c620, c621, c623, c624, c626, c627, c629, c630, c632, c633, c635, hc636⟩ := I_md hI608
                have ho637 : he_634 = -1 ∨ (0 ≤ he_634 ∧ he_634 ≤ 9999 ∧ he_634 % 100 ≤ he_634 / 100) := c635
                refine dr_virt rfl rfl rfl rfl hc636 (s_X8_noteAt l hl hI608 (a1 := a1) (by omega) (by omega) (a2 := y92) (by omega) (by omega)) (by decide) (by omega) (by omega) (Nat.le_of_ble_eq_true rfl) kNP (kIP (fun y638 y638f y638a y638b => ?_))
                have le639 := hA597.1
                have lt640 := App_lt ht603
                have lt641 := App_lt ht604
                refine dr_virt rfl rfl rfl rfl ht603 (s_J4_append_bf812 l hl (h0 := h) hA597 (q := (List.length h)) (b := b599) (n := (n586 + 1)) (vs := vs600) (by omega) (by omega) (by omega) ht603 ht604 (by omega) (by omega) (by omega) (a1 := y638) (by omega) (by omega) (by omega) ) (by decide) (by omega) (by omega) (Nat.le_of_ble_eq_true rfl) (fun Y h9 q9 => absurd q9 (kQTin Y h9)) (kQTi (fun n654 hn655 hn656 hn657 h642 hA643 le644 b645 vs646 ht647 ht648 ht649 ht650 ht651 ht652 ht653 => ?_))
                have hI658 := App_Inv hA643 hI
                have hE659 := App_Ext hA643
                clear c611 c612 c614 c615 c617 c618 c620 c621 c623 c624 c626 c627 c629 c630 c632 c633 c635 ho637 le639 lt640 lt641 ht601 ht602 ht603 ht604 ht605 ht606 ht607 hn657
                refine dr_pop rfl rfl ?_
                refine di_iinc (ls2 := [some (.ref 26), some (dI (a1)), some (dI (a2)), some (dI (a3)), some (.ref ((List.length h))), some (dI ((i23 + 1))), some (dI (y92))]) rfl rfl rfl rfl ?_
                refine dr_goto rfl rfl ?_
                refine dm_wk (ls2 := [some (.ref 26), some (dI (a1)), some (dI (a2)), some (dI (a3)), some (.ref ((List.length h))), some (dI ((i23 + 1))), none]) ⟨Or.inr rfl, Or.inr rfl, Or.inr rfl, Or.inr rfl, Or.inr rfl, Or.inr rfl, Or.inl rfl, trivial⟩ ?_
                exact ihL24 ((i23 + 1)) (((((((((((cn25 + 0) + 0) + 0) + 1) + 1) + 1) + 1) + 1) + 0) + 1)) (((((((((((sn26 + 0) + 0) + 0) + 400) + 400) + 400) + 400) + 400) + 0) + 400)) h642 (b645) (vs646) (n654) (by omega) (by omega) (by omega) (by omega) (by omega) hI658 hE659  hA643 (by omega) (by omega) ht649 ht650 (by omega) (by omega) (by omega) (by omega)
            · skip
              refine dr_goto rfl rfl ?_
              refine di_iinc (ls2 := [some (.ref 26), some (dI (a1)), some (dI (a2)), some (dI (a3)), some (.ref ((List.length h))), some (dI ((i23 + 1))), some (dI (y92))]) rfl rfl rfl rfl ?_
              refine dr_goto rfl rfl ?_
              refine dm_wk (ls2 := [some (.ref 26), some (dI (a1)), some (dI (a2)), some (dI (a3)), some (.ref ((List.length h))), some (dI ((i23 + 1))), none]) ⟨Or.inr rfl, Or.inr rfl, Or.inr rfl, Or.inr rfl, Or.inr rfl, Or.inr rfl, Or.inl rfl, trivial⟩ ?_
              exact ihL24 ((i23 + 1)) (((cn25 + 0) + 0)) (((sn26 + 0) + 0)) h27 (b30) (vs31) (n32) (by omega) (by omega) (by omega) (by omega) (by omega) hI28 hE29  hA42 (by omega) (by omega) hs35 hs36 (by omega) (by omega) (by omega) (by omega)
        · skip
          refine di_aload_n rfl rfl ?_
          refine dr_getf rfl hc74 rfl ?_
          refine dr_iload_n rfl rfl ?_
          refine di_iald rfl hc77 ha78 (by omega) (by omega) (fun x660 x660f x660a x660b x660v => ?_)
          have x660g : 0 ≤ x660 ∧ x660 ≤ 8 := x660f
          have x660w : cv vs76 (a1) = x660 := cv_eq x660v x660a x660b
          refine di_const rfl ?_
          refine di_isub rfl ?_
          refine dr_iload rfl rfl ?_
          refine di_isub rfl ?_
          refine dr_goto rfl rfl ?_
          refine dr_virt rfl rfl rfl rfl hc74 (s_X8_codeAt l hl hI28 (a1 := a1) (by omega) (by omega) (a2 := ((x660 - 1) - i23)) (by omega) (by omega)) (by decide) (by omega) (by omega) (Nat.le_of_ble_eq_true rfl) kNP (kIP (fun y661 y661f y661a y661b => ?_))
          have y661g : -1 ≤ y661 ∧ y661 ≤ 9999 ∧ (y661 = -1 ∨ (0 ≤ y661 ∧ y661 % 100 ≤ y661 / 100)) := y661f
          have y661h : -1 ≤ y661 ∧ y661 ≤ 9999 := ⟨y661g.1, y661g.2.1⟩
          clear y661g y661f
          refine di_istore (ls2 := [some (.ref 26), some (dI (a1)), some (dI (a2)), some (dI (a3)), some (.ref ((List.length h))), some (dI (i23)), some (dI (y661))]) rfl rfl rfl ?_
          refine dr_iload_n rfl rfl ?_
          refine di_if_eq rfl rfl (by omega) (by omega) (fun c662 => ?_) (fun c662 => ?_)
          · skip
            refine di_aload rfl rfl ?_
            have le663 := hA42.1
            have lt664 := App_lt hs35
            have lt665 := App_lt hs36
            refine dr_virt rfl rfl rfl rfl hs35 (s_J4_length_8abf5 l hl (h0 := h) hA42 (q := (List.length h)) (b := b30) (n := n32) (vs := vs31) (by omega) (by omega) (by omega) hs35 hs36 (by omega) (by omega) (by omega)  ) (by decide) (by omega) (by omega) (Nat.le_of_ble_eq_true rfl) (fun Y h9 q9 => absurd q9 (kNP0 Y h9)) (kIP (fun y666 y666f y666a y666b => ?_))
            have y666g : y666 = n32 := y666f.2.2
            clear le663 lt664 lt665 y666f
            refine di_if_le rfl rfl (by omega) (by omega) (fun c667 => ?_) (fun c667 => ?_)
            · skip
              refine di_aload rfl rfl ?_
              refine dr_iload rfl rfl ?_
              refine di_bipush rfl (by decide) ?_
              refine dR_rem rfl (by omega) (by omega) (fun q668 q668a q668b q668e => ?_)
              have le669 := hA42.1
              have lt670 := App_lt hs35
              have lt671 := App_lt hs36
              refine dr_virt rfl rfl rfl rfl hs35 (s_J4_append_bf812 l hl (h0 := h) hA42 (q := (List.length h)) (b := b30) (n := n32) (vs := vs31) (by omega) (by omega) (by omega) hs35 hs36 (by omega) (by omega) (by omega) (a1 := q668) (by omega) (by omega) (by omega) ) (by decide) (by omega) (by omega) (Nat.le_of_ble_eq_true rfl) (fun Y h9 q9 => absurd q9 (kQTin Y h9)) (kQTi (fun n684 hn685 hn686 hn687 h672 hA673 le674 b675 vs676 ht677 ht678 ht679 ht680 ht681 ht682 ht683 => ?_))
              have hn688 : n684 ≤ n32 + 2 := hn687 (by omega) (by omega)
              have hI689 := App_Inv hA673 hI
              have hE690 := App_Ext hA673
              clear c49 c50 c52 c53 c55 c56 c58 c59 c61 c62 c64 c65 c67 c68 c70 c71 c73 ho75 le669 lt670 lt671 hs33 hs34 hs35 hs36 hs39 hs40 hn687
              refine di_bipush rfl (by decide) ?_
              have le691 := hA673.1
              have lt692 := App_lt ht679
              have lt693 := App_lt ht680
              refine dr_virt rfl rfl rfl rfl ht679 (s_J4_append_cf468 l hl (h0 := h) hA673 (q := (List.length h)) (b := b675) (n := n684) (vs := vs676) (by omega) (by omega) (by omega) ht679 ht680 (by omega) (by omega) (by omega) (a1 := 45) (by omega) (by omega) (by omega) ) (by decide) (by omega) (by omega) (Nat.le_of_ble_eq_true rfl) (fun Y h9 q9 => absurd q9 (kQTn Y h9)) (kQT1 (fun h694 hA695 le696 b697 vs698 ht699 ht700 ht701 ht702 ht703 ht704 ht705 => ?_))
              have hI706 := App_Inv hA695 hI
              have hE707 := App_Ext hA695
              clear le691 lt692 lt693 ht677 ht678 ht679 ht680 ht681 ht682 ht683
              refine dr_iload rfl rfl ?_
              refine di_bipush rfl (by decide) ?_
              refine dR_div rfl (by omega) (by omega) (fun q708 q708a q708b q708e => ?_)
              have le709 := hA695.1
              have lt710 := App_lt ht701
              have lt711 := App_lt ht702
              refine dr_virt rfl rfl rfl rfl ht701 (s_J4_append_bf812 l hl (h0 := h) hA695 (q := (List.length h)) (b := b697) (n := (n684 + 1)) (vs := vs698) (by omega) (by omega) (by omega) ht701 ht702 (by omega) (by omega) (by omega) (a1 := q708) (by omega) (by omega) (by omega) ) (by decide) (by omega) (by omega) (Nat.le_of_ble_eq_true rfl) (fun Y h9 q9 => absurd q9 (kQTin Y h9)) (kQTi (fun n724 hn725 hn726 hn727 h712 hA713 le714 b715 vs716 ht717 ht718 ht719 ht720 ht721 ht722 ht723 => ?_))
              have hn728 : n724 ≤ (n684 + 1) + 2 := hn727 (by omega) (by omega)
              have hI729 := App_Inv hA713 hI
              have hE730 := App_Ext hA713
              clear le709 lt710 lt711 ht699 ht700 ht701 ht702 ht703 ht704 ht705 hn727
              refine di_bipush rfl (by decide) ?_
              have le731 := hA713.1
              have lt732 := App_lt ht719
              have lt733 := App_lt ht720
              refine dr_virt rfl rfl rfl rfl ht719 (s_J4_append_cf468 l hl (h0 := h) hA713 (q := (List.length h)) (b := b715) (n := n724) (vs := vs716) (by omega) (by omega) (by omega) ht719 ht720 (by omega) (by omega) (by omega) (a1 := 58) (by omega) (by omega) (by omega) ) (by decide) (by omega) (by omega) (Nat.le_of_ble_eq_true rfl) (fun Y h9 q9 => absurd q9 (kQTn Y h9)) (kQT1 (fun h734 hA735 le736 b737 vs738 ht739 ht740 ht741 ht742 ht743 ht744 ht745 => ?_))
              have hI746 := App_Inv hA735 hI
              have hE747 := App_Ext hA735
              clear le731 lt732 lt733 ht717 ht718 ht719 ht720 ht721 ht722 ht723
              refine di_aload_n rfl rfl ?_
              refine dr_iload_n rfl rfl ?_
              refine dr_iload rfl rfl ?_
              obtain ⟨th_748, ni_751, pb_754, lo_757, hi_760, hb_763, ls_766, re_769, he_772, c749, c750, c752, c753, c755, c756, c758, c759, c761, c762, c764, c765, c767, c768, c770, c771, c773, hc774⟩ := I_md hI746
              have ho775 : he_772 = -1 ∨ (0 ≤ he_772 ∧ he_772 ≤ 9999 ∧ he_772 % 100 ≤ he_772 / 100) := c773
              refine dr_virt rfl rfl rfl rfl hc774 (s_X8_noteAt l hl hI746 (a1 := a1) (by omega) (by omega) (a2 := y661) (by omega) (by omega)) (by decide) (by omega) (by omega) (Nat.le_of_ble_eq_true rfl) kNP (kIP (fun y776 y776f y776a y776b => ?_))
              have le777 := hA735.1
              have lt778 := App_lt ht741
              have lt779 := App_lt ht742
              refine dr_virt rfl rfl rfl rfl ht741 (s_J4_append_bf812 l hl (h0 := h) hA735 (q := (List.length h)) (b := b737) (n := (n724 + 1)) (vs := vs738) (by omega) (by omega) (by omega) ht741 ht742 (by omega) (by omega) (by omega) (a1 := y776) (by omega) (by omega) (by omega) ) (by decide) (by omega) (by omega) (Nat.le_of_ble_eq_true rfl) (fun Y h9 q9 => absurd q9 (kQTin Y h9)) (kQTi (fun n792 hn793 hn794 hn795 h780 hA781 le782 b783 vs784 ht785 ht786 ht787 ht788 ht789 ht790 ht791 => ?_))
              have hI796 := App_Inv hA781 hI
              have hE797 := App_Ext hA781
              clear c749 c750 c752 c753 c755 c756 c758 c759 c761 c762 c764 c765 c767 c768 c770 c771 c773 ho775 le777 lt778 lt779 ht739 ht740 ht741 ht742 ht743 ht744 ht745 hn795
              refine dr_pop rfl rfl ?_
              refine di_iinc (ls2 := [some (.ref 26), some (dI (a1)), some (dI (a2)), some (dI (a3)), some (.ref ((List.length h))), some (dI ((i23 + 1))), some (dI (y661))]) rfl rfl rfl rfl ?_
              refine dr_goto rfl rfl ?_
              refine dm_wk (ls2 := [some (.ref 26), some (dI (a1)), some (dI (a2)), some (dI (a3)), some (.ref ((List.length h))), some (dI ((i23 + 1))), none]) ⟨Or.inr rfl, Or.inr rfl, Or.inr rfl, Or.inr rfl, Or.inr rfl, Or.inr rfl, Or.inl rfl, trivial⟩ ?_
              exact ihL24 ((i23 + 1)) (((((((((cn25 + 0) + 0) + 1) + 1) + 1) + 1) + 0) + 1)) (((((((((sn26 + 0) + 0) + 400) + 400) + 400) + 400) + 0) + 400)) h780 (b783) (vs784) (n792) (by omega) (by omega) (by omega) (by omega) (by omega) hI796 hE797  hA781 (by omega) (by omega) ht787 ht788 (by omega) (by omega) (by omega) (by omega)
            · skip
              refine di_aload rfl rfl ?_
              refine di_bipush rfl (by decide) ?_
              have le798 := hA42.1
              have lt799 := App_lt hs35
              have lt800 := App_lt hs36
              refine dr_virt rfl rfl rfl rfl hs35 (s_J4_append_cf468 l hl (h0 := h) hA42 (q := (List.length h)) (b := b30) (n := n32) (vs := vs31) (by omega) (by omega) (by omega) hs35 hs36 (by omega) (by omega) (by omega) (a1 := 32) (by omega) (by omega) (by omega) ) (by decide) (by omega) (by omega) (Nat.le_of_ble_eq_true rfl) (fun Y h9 q9 => absurd q9 (kQTn Y h9)) (kQT1 (fun h801 hA802 le803 b804 vs805 ht806 ht807 ht808 ht809 ht810 ht811 ht812 => ?_))
              have hI813 := App_Inv hA802 hI
              have hE814 := App_Ext hA802
              clear c49 c50 c52 c53 c55 c56 c58 c59 c61 c62 c64 c65 c67 c68 c70 c71 c73 ho75 le798 lt799 lt800 hs33 hs34 hs35 hs36 hs39 hs40
              refine dr_pop rfl rfl ?_
              refine di_aload rfl rfl ?_
              refine dr_iload rfl rfl ?_
              refine di_bipush rfl (by decide) ?_
              refine dR_rem rfl (by omega) (by omega) (fun q815 q815a q815b q815e => ?_)
              have le816 := hA802.1
              have lt817 := App_lt ht808
              have lt818 := App_lt ht809
              refine dr_virt rfl rfl rfl rfl ht808 (s_J4_append_bf812 l hl (h0 := h) hA802 (q := (List.length h)) (b := b804) (n := (n32 + 1)) (vs := vs805) (by omega) (by omega) (by omega) ht808 ht809 (by omega) (by omega) (by omega) (a1 := q815) (by omega) (by omega) (by omega) ) (by decide) (by omega) (by omega) (Nat.le_of_ble_eq_true rfl) (fun Y h9 q9 => absurd q9 (kQTin Y h9)) (kQTi (fun n831 hn832 hn833 hn834 h819 hA820 le821 b822 vs823 ht824 ht825 ht826 ht827 ht828 ht829 ht830 => ?_))
              have hn835 : n831 ≤ (n32 + 1) + 2 := hn834 (by omega) (by omega)
              have hI836 := App_Inv hA820 hI
              have hE837 := App_Ext hA820
              clear le816 lt817 lt818 ht806 ht807 ht808 ht809 ht810 ht811 ht812 hn834
              refine di_bipush rfl (by decide) ?_
              have le838 := hA820.1
              have lt839 := App_lt ht826
              have lt840 := App_lt ht827
              refine dr_virt rfl rfl rfl rfl ht826 (s_J4_append_cf468 l hl (h0 := h) hA820 (q := (List.length h)) (b := b822) (n := n831) (vs := vs823) (by omega) (by omega) (by omega) ht826 ht827 (by omega) (by omega) (by omega) (a1 := 45) (by omega) (by omega) (by omega) ) (by decide) (by omega) (by omega) (Nat.le_of_ble_eq_true rfl) (fun Y h9 q9 => absurd q9 (kQTn Y h9)) (kQT1 (fun h841 hA842 le843 b844 vs845 ht846 ht847 ht848 ht849 ht850 ht851 ht852 => ?_))
              have hI853 := App_Inv hA842 hI
              have hE854 := App_Ext hA842
              clear le838 lt839 lt840 ht824 ht825 ht826 ht827 ht828 ht829 ht830
              refine dr_iload rfl rfl ?_
              refine di_bipush rfl (by decide) ?_
              refine dR_div rfl (by omega) (by omega) (fun q855 q855a q855b q855e => ?_)
              have le856 := hA842.1
              have lt857 := App_lt ht848
              have lt858 := App_lt ht849
              refine dr_virt rfl rfl rfl rfl ht848 (s_J4_append_bf812 l hl (h0 := h) hA842 (q := (List.length h)) (b := b844) (n := (n831 + 1)) (vs := vs845) (by omega) (by omega) (by omega) ht848 ht849 (by omega) (by omega) (by omega) (a1 := q855) (by omega) (by omega) (by omega) ) (by decide) (by omega) (by omega) (Nat.le_of_ble_eq_true rfl) (fun Y h9 q9 => absurd q9 (kQTin Y h9)) (kQTi (fun n871 hn872 hn873 hn874 h859 hA860 le861 b862 vs863 ht864 ht865 ht866 ht867 ht868 ht869 ht870 => ?_))
              have hn875 : n871 ≤ (n831 + 1) + 2 := hn874 (by omega) (by omega)
              have hI876 := App_Inv hA860 hI
              have hE877 := App_Ext hA860
              clear le856 lt857 lt858 ht846 ht847 ht848 ht849 ht850 ht851 ht852 hn874
              refine di_bipush rfl (by decide) ?_
              have le878 := hA860.1
              have lt879 := App_lt ht866
              have lt880 := App_lt ht867
              refine dr_virt rfl rfl rfl rfl ht866 (s_J4_append_cf468 l hl (h0 := h) hA860 (q := (List.length h)) (b := b862) (n := n871) (vs := vs863) (by omega) (by omega) (by omega) ht866 ht867 (by omega) (by omega) (by omega) (a1 := 58) (by omega) (by omega) (by omega) ) (by decide) (by omega) (by omega) (Nat.le_of_ble_eq_true rfl) (fun Y h9 q9 => absurd q9 (kQTn Y h9)) (kQT1 (fun h881 hA882 le883 b884 vs885 ht886 ht887 ht888 ht889 ht890 ht891 ht892 => ?_))
              have hI893 := App_Inv hA882 hI
              have hE894 := App_Ext hA882
              clear le878 lt879 lt880 ht864 ht865 ht866 ht867 ht868 ht869 ht870
              refine di_aload_n rfl rfl ?_
              refine dr_iload_n rfl rfl ?_
              refine dr_iload rfl rfl ?_
              obtain ⟨th_895, ni_898, pb_901, lo_904, hi_907, hb_910, ls_913, re_916, he_919, c896, c897, c899, c900, c902, c903, c905, c906, c908, c909, c911, c912, c914, c915, c917, c918, c920, hc921⟩ := I_md hI893
              have ho922 : he_919 = -1 ∨ (0 ≤ he_919 ∧ he_919 ≤ 9999 ∧ he_919 % 100 ≤ he_919 / 100) := c920
              refine dr_virt rfl rfl rfl rfl hc921 (s_X8_noteAt l hl hI893 (a1 := a1) (by omega) (by omega) (a2 := y661) (by omega) (by omega)) (by decide) (by omega) (by omega) (Nat.le_of_ble_eq_true rfl) kNP (kIP (fun y923 y923f y923a y923b => ?_))
              have le924 := hA882.1
              have lt925 := App_lt ht888
              have lt926 := App_lt ht889
              refine dr_virt rfl rfl rfl rfl ht888 (s_J4_append_bf812 l hl (h0 := h) hA882 (q := (List.length h)) (b := b884) (n := (n871 + 1)) (vs := vs885) (by omega) (by omega) (by omega) ht888 ht889 (by omega) (by omega) (by omega) (a1 := y923) (by omega) (by omega) (by omega) ) (by decide) (by omega) (by omega) (Nat.le_of_ble_eq_true rfl) (fun Y h9 q9 => absurd q9 (kQTin Y h9)) (kQTi (fun n939 hn940 hn941 hn942 h927 hA928 le929 b930 vs931 ht932 ht933 ht934 ht935 ht936 ht937 ht938 => ?_))
              have hI943 := App_Inv hA928 hI
              have hE944 := App_Ext hA928
              clear c896 c897 c899 c900 c902 c903 c905 c906 c908 c909 c911 c912 c914 c915 c917 c918 c920 ho922 le924 lt925 lt926 ht886 ht887 ht888 ht889 ht890 ht891 ht892 hn942
              refine dr_pop rfl rfl ?_
              refine di_iinc (ls2 := [some (.ref 26), some (dI (a1)), some (dI (a2)), some (dI (a3)), some (.ref ((List.length h))), some (dI ((i23 + 1))), some (dI (y661))]) rfl rfl rfl rfl ?_
              refine dr_goto rfl rfl ?_
              refine dm_wk (ls2 := [some (.ref 26), some (dI (a1)), some (dI (a2)), some (dI (a3)), some (.ref ((List.length h))), some (dI ((i23 + 1))), none]) ⟨Or.inr rfl, Or.inr rfl, Or.inr rfl, Or.inr rfl, Or.inr rfl, Or.inr rfl, Or.inl rfl, trivial⟩ ?_
              exact ihL24 ((i23 + 1)) ((((((((((cn25 + 0) + 0) + 1) + 1) + 1) + 1) + 1) + 0) + 1)) ((((((((((sn26 + 0) + 0) + 400) + 400) + 400) + 400) + 400) + 0) + 400)) h927 (b930) (vs931) (n939) (by omega) (by omega) (by omega) (by omega) (by omega) hI943 hE944  hA928 (by omega) (by omega) ht934 ht935 (by omega) (by omega) (by omega) (by omega)
          · skip
            refine di_aload_n rfl rfl ?_
            refine dr_iload rfl rfl ?_
            refine dr_virt rfl rfl rfl rfl hc74 (s_X8_isInPart l hl hI28 (a1 := y661) (by omega) (by omega)) (by decide) (by omega) (by omega) (Nat.le_of_ble_eq_true rfl) kNP (kIP (fun y945 y945f y945a y945b => ?_))
            have y945g : 0 ≤ y945 ∧ y945 ≤ 1 := y945f
            have y945h : 0 ≤ y945 ∧ y945 ≤ 1 := ⟨y945g.1, y945g.2⟩
            clear y945g y945f
            refine di_if_ne rfl rfl (by omega) (by omega) (fun c946 => ?_) (fun c946 => ?_)
            · skip
              refine di_aload rfl rfl ?_
              have le947 := hA42.1
              have lt948 := App_lt hs35
              have lt949 := App_lt hs36
              refine dr_virt rfl rfl rfl rfl hs35 (s_J4_length_8abf5 l hl (h0 := h) hA42 (q := (List.length h)) (b := b30) (n := n32) (vs := vs31) (by omega) (by omega) (by omega) hs35 hs36 (by omega) (by omega) (by omega)  ) (by decide) (by omega) (by omega) (Nat.le_of_ble_eq_true rfl) (fun Y h9 q9 => absurd q9 (kNP0 Y h9)) (kIP (fun y950 y950f y950a y950b => ?_))
              have y950g : y950 = n32 := y950f.2.2
              clear le947 lt948 lt949 y950f
              refine di_if_le rfl rfl (by omega) (by omega) (fun c951 => ?_) (fun c951 => ?_)
              · skip
                refine di_aload rfl rfl ?_
                refine dr_iload rfl rfl ?_
                refine di_bipush rfl (by decide) ?_
                refine dR_rem rfl (by omega) (by omega) (fun q952 q952a q952b q952e => ?_)
                have le953 := hA42.1
                have lt954 := App_lt hs35
                have lt955 := App_lt hs36
                refine dr_virt rfl rfl rfl rfl hs35 (s_J4_append_bf812 l hl (h0 := h) hA42 (q := (List.length h)) (b := b30) (n := n32) (vs := vs31) (by omega) (by omega) (by omega) hs35 hs36 (by omega) (by omega) (by omega) (a1 := q952) (by omega) (by omega) (by omega) ) (by decide) (by omega) (by omega) (Nat.le_of_ble_eq_true rfl) (fun Y h9 q9 => absurd q9 (kQTin Y h9)) (kQTi (fun n968 hn969 hn970 hn971 h956 hA957 le958 b959 vs960 ht961 ht962 ht963 ht964 ht965 ht966 ht967 => ?_))
                have hn972 : n968 ≤ n32 + 2 := hn971 (by omega) (by omega)
                have hI973 := App_Inv hA957 hI
                have hE974 := App_Ext hA957
                clear c49 c50 c52 c53 c55 c56 c58 c59 c61 c62 c64 c65 c67 c68 c70 c71 c73 ho75 le953 lt954 lt955 hs33 hs34 hs35 hs36 hs39 hs40 hn971
                refine di_bipush rfl (by decide) ?_
                have le975 := hA957.1
                have lt976 := App_lt ht963
                have lt977 := App_lt ht964
                refine dr_virt rfl rfl rfl rfl ht963 (s_J4_append_cf468 l hl (h0 := h) hA957 (q := (List.length h)) (b := b959) (n := n968) (vs := vs960) (by omega) (by omega) (by omega) ht963 ht964 (by omega) (by omega) (by omega) (a1 := 45) (by omega) (by omega) (by omega) ) (by decide) (by omega) (by omega) (Nat.le_of_ble_eq_true rfl) (fun Y h9 q9 => absurd q9 (kQTn Y h9)) (kQT1 (fun h978 hA979 le980 b981 vs982 ht983 ht984 ht985 ht986 ht987 ht988 ht989 => ?_))
                have hI990 := App_Inv hA979 hI
                have hE991 := App_Ext hA979
                clear le975 lt976 lt977 ht961 ht962 ht963 ht964 ht965 ht966 ht967
                refine dr_iload rfl rfl ?_
                refine di_bipush rfl (by decide) ?_
                refine dR_div rfl (by omega) (by omega) (fun q992 q992a q992b q992e => ?_)
                have le993 := hA979.1
                have lt994 := App_lt ht985
                have lt995 := App_lt ht986
                refine dr_virt rfl rfl rfl rfl ht985 (s_J4_append_bf812 l hl (h0 := h) hA979 (q := (List.length h)) (b := b981) (n := (n968 + 1)) (vs := vs982) (by omega) (by omega) (by omega) ht985 ht986 (by omega) (by omega) (by omega) (a1 := q992) (by omega) (by omega) (by omega) ) (by decide) (by omega) (by omega) (Nat.le_of_ble_eq_true rfl) (fun Y h9 q9 => absurd q9 (kQTin Y h9)) (kQTi (fun n1008 hn1009 hn1010 hn1011 h996 hA997 le998 b999 vs1000 ht1001 ht1002 ht1003 ht1004 ht1005 ht1006 ht1007 => ?_))
                have hn1012 : n1008 ≤ (n968 + 1) + 2 := hn1011 (by omega) (by omega)
                have hI1013 := App_Inv hA997 hI
                have hE1014 := App_Ext hA997
                clear le993 lt994 lt995 ht983 ht984 ht985 ht986 ht987 ht988 ht989 hn1011
                refine di_bipush rfl (by decide) ?_
                have le1015 := hA997.1
                have lt1016 := App_lt ht1003
                have lt1017 := App_lt ht1004
                refine dr_virt rfl rfl rfl rfl ht1003 (s_J4_append_cf468 l hl (h0 := h) hA997 (q := (List.length h)) (b := b999) (n := n1008) (vs := vs1000) (by omega) (by omega) (by omega) ht1003 ht1004 (by omega) (by omega) (by omega) (a1 := 58) (by omega) (by omega) (by omega) ) (by decide) (by omega) (by omega) (Nat.le_of_ble_eq_true rfl) (fun Y h9 q9 => absurd q9 (kQTn Y h9)) (kQT1 (fun h1018 hA1019 le1020 b1021 vs1022 ht1023 ht1024 ht1025 ht1026 ht1027 ht1028 ht1029 => ?_))
                have hI1030 := App_Inv hA1019 hI
                have hE1031 := App_Ext hA1019
                clear le1015 lt1016 lt1017 ht1001 ht1002 ht1003 ht1004 ht1005 ht1006 ht1007
                refine di_aload_n rfl rfl ?_
                refine dr_iload_n rfl rfl ?_
                refine dr_iload rfl rfl ?_
                obtain ⟨th_1032, ni_1035, pb_1038, lo_1041, hi_1044, hb_1047, ls_1050, re_1053, he_1056, c1033, c1034, c1036, c1037, c1039, c1040, c1042, c1043, c1045, c1046, c1048, c1049, c1051, c1052, c1054, c1055, c1057, hc1058⟩ := I_md hI1030
                have ho1059 : he_1056 = -1 ∨ (0 ≤ he_1056 ∧ he_1056 ≤ 9999 ∧ he_1056 % 100 ≤ he_1056 / 100) := c1057
                refine dr_virt rfl rfl rfl rfl hc1058 (s_X8_noteAt l hl hI1030 (a1 := a1) (by omega) (by omega) (a2 := y661) (by omega) (by omega)) (by decide) (by omega) (by omega) (Nat.le_of_ble_eq_true rfl) kNP (kIP (fun y1060 y1060f y1060a y1060b => ?_))
                have le1061 := hA1019.1
                have lt1062 := App_lt ht1025
                have lt1063 := App_lt ht1026
                refine dr_virt rfl rfl rfl rfl ht1025 (s_J4_append_bf812 l hl (h0 := h) hA1019 (q := (List.length h)) (b := b1021) (n := (n1008 + 1)) (vs := vs1022) (by omega) (by omega) (by omega) ht1025 ht1026 (by omega) (by omega) (by omega) (a1 := y1060) (by omega) (by omega) (by omega) ) (by decide) (by omega) (by omega) (Nat.le_of_ble_eq_true rfl) (fun Y h9 q9 => absurd q9 (kQTin Y h9)) (kQTi (fun n1076 hn1077 hn1078 hn1079 h1064 hA1065 le1066 b1067 vs1068 ht1069 ht1070 ht1071 ht1072 ht1073 ht1074 ht1075 => ?_))
                have hI1080 := App_Inv hA1065 hI
                have hE1081 := App_Ext hA1065
                clear c1033 c1034 c1036 c1037 c1039 c1040 c1042 c1043 c1045 c1046 c1048 c1049 c1051 c1052 c1054 c1055 c1057 ho1059 le1061 lt1062 lt1063 ht1023 ht1024 ht1025 ht1026 ht1027 ht1028 ht1029 hn1079
                refine dr_pop rfl rfl ?_
                refine di_iinc (ls2 := [some (.ref 26), some (dI (a1)), some (dI (a2)), some (dI (a3)), some (.ref ((List.length h))), some (dI ((i23 + 1))), some (dI (y661))]) rfl rfl rfl rfl ?_
                refine dr_goto rfl rfl ?_
                refine dm_wk (ls2 := [some (.ref 26), some (dI (a1)), some (dI (a2)), some (dI (a3)), some (.ref ((List.length h))), some (dI ((i23 + 1))), none]) ⟨Or.inr rfl, Or.inr rfl, Or.inr rfl, Or.inr rfl, Or.inr rfl, Or.inr rfl, Or.inl rfl, trivial⟩ ?_
                exact ihL24 ((i23 + 1)) ((((((((((cn25 + 0) + 0) + 0) + 1) + 1) + 1) + 1) + 0) + 1)) ((((((((((sn26 + 0) + 0) + 0) + 400) + 400) + 400) + 400) + 0) + 400)) h1064 (b1067) (vs1068) (n1076) (by omega) (by omega) (by omega) (by omega) (by omega) hI1080 hE1081  hA1065 (by omega) (by omega) ht1071 ht1072 (by omega) (by omega) (by omega) (by omega)
              · skip
                refine di_aload rfl rfl ?_
                refine di_bipush rfl (by decide) ?_
                have le1082 := hA42.1
                have lt1083 := App_lt hs35
                have lt1084 := App_lt hs36
                refine dr_virt rfl rfl rfl rfl hs35 (s_J4_append_cf468 l hl (h0 := h) hA42 (q := (List.length h)) (b := b30) (n := n32) (vs := vs31) (by omega) (by omega) (by omega) hs35 hs36 (by omega) (by omega) (by omega) (a1 := 32) (by omega) (by omega) (by omega) ) (by decide) (by omega) (by omega) (Nat.le_of_ble_eq_true rfl) (fun Y h9 q9 => absurd q9 (kQTn Y h9)) (kQT1 (fun h1085 hA1086 le1087 b1088 vs1089 ht1090 ht1091 ht1092 ht1093 ht1094 ht1095 ht1096 => ?_))
                have hI1097 := App_Inv hA1086 hI
                have hE1098 := App_Ext hA1086
                clear c49 c50 c52 c53 c55 c56 c58 c59 c61 c62 c64 c65 c67 c68 c70 c71 c73 ho75 le1082 lt1083 lt1084 hs33 hs34 hs35 hs36 hs39 hs40
                refine dr_pop rfl rfl ?_
                refine di_aload rfl rfl ?_
                refine dr_iload rfl rfl ?_
                refine di_bipush rfl (by decide) ?_
                refine dR_rem rfl (by omega) (by omega) (fun q1099 q1099a q1099b q1099e => ?_)
                have le1100 := hA1086.1
                have lt1101 := App_lt ht1092
                have lt1102 := App_lt ht1093
                refine dr_virt rfl rfl rfl rfl ht1092 (s_J4_append_bf812 l hl (h0 := h) hA1086 (q := (List.length h)) (b := b1088) (n := (n32 + 1)) (vs := vs1089) (by omega) (by omega) (by omega) ht1092 ht1093 (by omega) (by omega) (by omega) (a1 := q1099) (by omega) (by omega) (by omega) ) (by decide) (by omega) (by omega) (Nat.le_of_ble_eq_true rfl) (fun Y h9 q9 => absurd q9 (kQTin Y h9)) (kQTi (fun n1115 hn1116 hn1117 hn1118 h1103 hA1104 le1105 b1106 vs1107 ht1108 ht1109 ht1110 ht1111 ht1112 ht1113 ht1114 => ?_))
                have hn1119 : n1115 ≤ (n32 + 1) + 2 := hn1118 (by omega) (by omega)
                have hI1120 := App_Inv hA1104 hI
                have hE1121 := App_Ext hA1104
                clear le1100 lt1101 lt1102 ht1090 ht1091 ht1092 ht1093 ht1094 ht1095 ht1096 hn1118
                refine di_bipush rfl (by decide) ?_
                have le1122 := hA1104.1
                have lt1123 := App_lt ht1110
                have lt1124 := App_lt ht1111
                refine dr_virt rfl rfl rfl rfl ht1110 (s_J4_append_cf468 l hl (h0 := h) hA1104 (q := (List.length h)) (b := b1106) (n := n1115) (vs := vs1107) (by omega) (by omega) (by omega) ht1110 ht1111 (by omega) (by omega) (by omega) (a1 := 45) (by omega) (by omega) (by omega) ) (by decide) (by omega) (by omega) (Nat.le_of_ble_eq_true rfl) (fun Y h9 q9 => absurd q9 (kQTn Y h9)) (kQT1 (fun h1125 hA1126 le1127 b1128 vs1129 ht1130 ht1131 ht1132 ht1133 ht1134 ht1135 ht1136 => ?_))
                have hI1137 := App_Inv hA1126 hI
                have hE1138 := App_Ext hA1126
                clear le1122 lt1123 lt1124 ht1108 ht1109 ht1110 ht1111 ht1112 ht1113 ht1114
                refine dr_iload rfl rfl ?_
                refine di_bipush rfl (by decide) ?_
                refine dR_div rfl (by omega) (by omega) (fun q1139 q1139a q1139b q1139e => ?_)
                have le1140 := hA1126.1
                have lt1141 := App_lt ht1132
                have lt1142 := App_lt ht1133
                refine dr_virt rfl rfl rfl rfl ht1132 (s_J4_append_bf812 l hl (h0 := h) hA1126 (q := (List.length h)) (b := b1128) (n := (n1115 + 1)) (vs := vs1129) (by omega) (by omega) (by omega) ht1132 ht1133 (by omega) (by omega) (by omega) (a1 := q1139) (by omega) (by omega) (by omega) ) (by decide) (by omega) (by omega) (Nat.le_of_ble_eq_true rfl) (fun Y h9 q9 => absurd q9 (kQTin Y h9)) (kQTi (fun n1155 hn1156 hn1157 hn1158 h1143 hA1144 le1145 b1146 vs1147 ht1148 ht1149 ht1150 ht1151 ht1152 ht1153 ht1154 => ?_))
                have hn1159 : n1155 ≤ (n1115 + 1) + 2 := hn1158 (by omega) (by omega)
                have hI1160 := App_Inv hA1144 hI
                have hE1161 := App_Ext hA1144
                clear le1140 lt1141 lt1142 ht1130 ht1131 ht1132 ht1133 ht1134 ht1135 ht1136 hn1158
                refine di_bipush rfl (by decide) ?_
                have le1162 := hA1144.1
                have lt1163 := App_lt ht1150
                have lt1164 := App_lt ht1151
                refine dr_virt rfl rfl rfl rfl ht1150 (s_J4_append_cf468 l hl (h0 := h) hA1144 (q := (List.length h)) (b := b1146) (n := n1155) (vs := vs1147) (by omega) (by omega) (by omega) ht1150 ht1151 (by omega) (by omega) (by omega) (a1 := 58) (by omega) (by omega) (by omega) ) (by decide) (by omega) (by omega) (Nat.le_of_ble_eq_true rfl) (fun Y h9 q9 => absurd q9 (kQTn Y h9)) (kQT1 (fun h1165 hA1166 le1167 b1168 vs1169 ht1170 ht1171 ht1172 ht1173 ht1174 ht1175 ht1176 => ?_))
                have hI1177 := App_Inv hA1166 hI
                have hE1178 := App_Ext hA1166
                clear le1162 lt1163 lt1164 ht1148 ht1149 ht1150 ht1151 ht1152 ht1153 ht1154
                refine di_aload_n rfl rfl ?_
                refine dr_iload_n rfl rfl ?_
                refine dr_iload rfl rfl ?_
                obtain ⟨th_1179, ni_1182, pb_1185, lo_1188, hi_1191, hb_1194, ls_1197, re_1200, he_1203, c1180, c1181, c1183, c1184, c1186, c1187, c1189, c1190, c1192, c1193, c1195, c1196, c1198, c1199, c1201, c1202, c1204, hc1205⟩ := I_md hI1177
                have ho1206 : he_1203 = -1 ∨ (0 ≤ he_1203 ∧ he_1203 ≤ 9999 ∧ he_1203 % 100 ≤ he_1203 / 100) := c1204
                refine dr_virt rfl rfl rfl rfl hc1205 (s_X8_noteAt l hl hI1177 (a1 := a1) (by omega) (by omega) (a2 := y661) (by omega) (by omega)) (by decide) (by omega) (by omega) (Nat.le_of_ble_eq_true rfl) kNP (kIP (fun y1207 y1207f y1207a y1207b => ?_))
                have le1208 := hA1166.1
                have lt1209 := App_lt ht1172
                have lt1210 := App_lt ht1173
                refine dr_virt rfl rfl rfl rfl ht1172 (s_J4_append_bf812 l hl (h0 := h) hA1166 (q := (List.length h)) (b := b1168) (n := (n1155 + 1)) (vs := vs1169) (by omega) (by omega) (by omega) ht1172 ht1173 (by omega) (by omega) (by omega) (a1 := y1207) (by omega) (by omega) (by omega) ) (by decide) (by omega) (by omega) (Nat.le_of_ble_eq_true rfl) (fun Y h9 q9 => absurd q9 (kQTin Y h9)) (kQTi (fun n1223 hn1224 hn1225 hn1226 h1211 hA1212 le1213 b1214 vs1215 ht1216 ht1217 ht1218 ht1219 ht1220 ht1221 ht1222 => ?_))
                have hI1227 := App_Inv hA1212 hI
                have hE1228 := App_Ext hA1212
                clear c1180 c1181 c1183 c1184 c1186 c1187 c1189 c1190 c1192 c1193 c1195 c1196 c1198 c1199 c1201 c1202 c1204 ho1206 le1208 lt1209 lt1210 ht1170 ht1171 ht1172 ht1173 ht1174 ht1175 ht1176 hn1226
                refine dr_pop rfl rfl ?_
                refine di_iinc (ls2 := [some (.ref 26), some (dI (a1)), some (dI (a2)), some (dI (a3)), some (.ref ((List.length h))), some (dI ((i23 + 1))), some (dI (y661))]) rfl rfl rfl rfl ?_
                refine dr_goto rfl rfl ?_
                refine dm_wk (ls2 := [some (.ref 26), some (dI (a1)), some (dI (a2)), some (dI (a3)), some (.ref ((List.length h))), some (dI ((i23 + 1))), none]) ⟨Or.inr rfl, Or.inr rfl, Or.inr rfl, Or.inr rfl, Or.inr rfl, Or.inr rfl, Or.inl rfl, trivial⟩ ?_
                exact ihL24 ((i23 + 1)) (((((((((((cn25 + 0) + 0) + 0) + 1) + 1) + 1) + 1) + 1) + 0) + 1)) (((((((((((sn26 + 0) + 0) + 0) + 400) + 400) + 400) + 400) + 400) + 0) + 400)) h1211 (b1214) (vs1215) (n1223) (by omega) (by omega) (by omega) (by omega) (by omega) hI1227 hE1228  hA1212 (by omega) (by omega) ht1218 ht1219 (by omega) (by omega) (by omega) (by omega)
            · skip
              refine dr_goto rfl rfl ?_
              refine di_iinc (ls2 := [some (.ref 26), some (dI (a1)), some (dI (a2)), some (dI (a3)), some (.ref ((List.length h))), some (dI ((i23 + 1))), some (dI (y661))]) rfl rfl rfl rfl ?_
              refine dr_goto rfl rfl ?_
              refine dm_wk (ls2 := [some (.ref 26), some (dI (a1)), some (dI (a2)), some (dI (a3)), some (.ref ((List.length h))), some (dI ((i23 + 1))), none]) ⟨Or.inr rfl, Or.inr rfl, Or.inr rfl, Or.inr rfl, Or.inr rfl, Or.inr rfl, Or.inl rfl, trivial⟩ ?_
              exact ihL24 ((i23 + 1)) (((cn25 + 0) + 0)) (((sn26 + 0) + 0)) h27 (b30) (vs31) (n32) (by omega) (by omega) (by omega) (by omega) (by omega) hI28 hE29  hA42 (by omega) (by omega) hs35 hs36 (by omega) (by omega) (by omega) (by omega)
  exact L24 _ (0) (2) (20) h9 (b12) (vs13) (0) (Nat.lt_succ_self _) (by omega) (by omega) (by omega) (by omega) hI21 hE22  hA10 (by omega) (by omega) ht16 ht17 (by omega) (by omega) (by omega) (by omega)
/-! ===== texts: what both sides answer with ===== -/
section KAS
variable {E : dm_Ex} {P : dm_Po} {l : Launch} {z d MC MS pc ce sl : Nat} {ls : List (Option Value)} {st : List Value} {h : dm_H}
theorem kAS (kk : ∀ (h1 : dm_H), App h h1 → ∀ p : Nat, dm_W E P l z d MC MS pc ls (.ref p :: st) h1 ce sl) : ∀ (v : Option Value) (h1 : dm_H), QA h (fun v _ => ∃ p : Nat, v = some (.ref p)) (.inl v) h1 → dm_W E P l z d MC MS pc ls (v.toList ++ st) h1 ce sl := by
  rintro v h1 ⟨a, p, rfl⟩
  exact kk h1 a p
end KAS
/-! ===== what a book's two rows say: f the codes, g the notes, s of them; F the note of each code, -1 for none ===== -/
def Rep (f g : Int → Int) (s : Int) (F : Int → Int) : Prop :=
  (0 ≤ s ∧ ∀ j : Int, 0 ≤ j → j < s → (0 ≤ f j ∧ f j ≤ 9999) ∧ (0 ≤ g j ∧ g j ≤ 99) ∧ F (f j) = g j) ∧
  (∀ c : Int, F c ≠ -1 → ∃ j : Int, 0 ≤ j ∧ j < s ∧ f j = c) ∧
  (∀ i j : Int, 0 ≤ i → i < j → j < s → f i ≠ f j)
def Srt (f : Int → Int) (s : Int) : Prop := ∀ i j : Int, 0 ≤ i → i < j → j < s → f i < f j
def up (F : Int → Int) (c x : Int) : Int → Int := fun d => if d = c then x else F d
def insf (f : Int → Int) (r c : Int) : Int → Int := fun j => if j < r then f j else if j = r then c else f (j - 1)
def delf (f : Int → Int) (r : Int) : Int → Int := fun j => if j < r then f j else f (j + 1)
def stf (f : Int → Int) (r x : Int) : Int → Int := fun j => if j = r then x else f j
theorem up_s {F : Int → Int} {c x : Int} : up F c x c = x := if_pos rfl
theorem up_n {F : Int → Int} {c x d : Int} (h : d ≠ c) : up F c x d = F d := if_neg h
section REP
variable {f g f' g' F : Int → Int} {s s' : Int}
theorem Rep_s0 (h : Rep f g s F) : 0 ≤ s := h.1.1
theorem Rep_at (h : Rep f g s F) {j : Int} (h0 : 0 ≤ j) (h1 : j < s) : (0 ≤ f j ∧ f j ≤ 9999) ∧ (0 ≤ g j ∧ g j ≤ 99) ∧ F (f j) = g j := h.1.2 j h0 h1
theorem Rep_inj (h : Rep f g s F) {i j : Int} (hi : 0 ≤ i) (hi' : i < s) (hj : 0 ≤ j) (hj' : j < s) (e : f i = f j) : i = j := by
  rcases Int.lt_trichotomy i j with q | q | q
  · exact absurd e (h.2.2 i j hi q hj')
  · exact q
  · exact absurd e.symm (h.2.2 j i hj q hi')
theorem Rep_no (h : Rep f g s F) {c : Int} (hn : ∀ j : Int, 0 ≤ j → j < s → f j ≠ c) : F c = -1 := by
  by_cases e : F c = -1
  · exact e
  · obtain ⟨j, h0, h1, h2⟩ := h.2.1 c e
    exact absurd h2 (hn j h0 h1)
theorem Rep_yes (h : Rep f g s F) {c j : Int} (h0 : 0 ≤ j) (h1 : j < s) (e : f j = c) : F c = g j ∧ F c ≠ -1 ∧ 0 ≤ c ∧ c ≤ 9999 ∧ 0 ≤ g j ∧ g j ≤ 99 := by
  obtain ⟨⟨a1, a2⟩, ⟨a3, a4⟩, a5⟩ := Rep_at h h0 h1
  rw [e] at a1 a2 a5
  exact ⟨a5, by rw [a5]; omega, a1, a2, a3, a4⟩
theorem Rep_ge (h : Rep f g s F) (c : Int) : -1 ≤ F c ∧ F c ≤ 99 := by
  by_cases e : F c = -1
  · omega
  · obtain ⟨j, h0, h1, h2⟩ := h.2.1 c e
    obtain ⟨q1, q2, q3, q4, q5, q6⟩ := Rep_yes h h0 h1 h2
    omega
theorem Rep_cg (h : Rep f g s F) (hf : ∀ j : Int, 0 ≤ j → j < s → f' j = f j) (hg : ∀ j : Int, 0 ≤ j → j < s → g' j = g j) : Rep f' g' s F := by
  refine ⟨⟨h.1.1, fun j h0 h1 => ?_⟩, fun c hc => ?_, fun i j h0 h1 h2 => ?_⟩
  · rw [hf j h0 h1, hg j h0 h1]; exact Rep_at h h0 h1
  · obtain ⟨j, h0, h1, h2⟩ := h.2.1 c hc
    exact ⟨j, h0, h1, by rw [hf j h0 h1]; exact h2⟩
  · rw [hf i h0 (by omega), hf j (by omega) h2]; exact h.2.2 i j h0 h1 h2
theorem Srt_cg (h : Srt f s) (hf : ∀ j : Int, 0 ≤ j → j < s → f' j = f j) : Srt f' s := fun i j h0 h1 h2 => by
  rw [hf i h0 (by omega), hf j (by omega) h2]; exact h i j h0 h1 h2
theorem Rep_note (h : Rep f g s F) {r x : Int} (h0 : 0 ≤ r) (h1 : r < s) (x0 : 0 ≤ x) (x1 : x ≤ 99) : Rep f (stf g r x) s (up F (f r) x) := by
  refine ⟨⟨h.1.1, fun j j0 j1 => ?_⟩, fun c hc => ?_, h.2.2⟩
  · obtain ⟨a, b, e⟩ := Rep_at h j0 j1
    by_cases q : j = r
    · subst q
      exact ⟨a, by unfold stf; rw [if_pos rfl]; exact ⟨x0, x1⟩, by unfold stf up; rw [if_pos rfl, if_pos rfl]⟩
    · refine ⟨a, by unfold stf; rw [if_neg q]; exact b, ?_⟩
      unfold stf up
      rw [if_neg q, if_neg (fun e9 => q (Rep_inj h j0 j1 h0 h1 e9))]
      exact e
  · by_cases q : c = f r
    · exact ⟨r, h0, h1, q.symm⟩
    · rw [up_n q] at hc
      exact h.2.1 c hc
theorem Rep_ins (h : Rep f g s F) {r c x : Int} (h0 : 0 ≤ r) (h1 : r ≤ s) (hc : F c = -1) (c0 : 0 ≤ c) (c1 : c ≤ 9999) (x0 : 0 ≤ x) (x1 : x ≤ 99) : Rep (insf f r c) (insf g r x) (s + 1) (up F c x) := by
  have hne : ∀ j : Int, 0 ≤ j → j < s → f j ≠ c := fun j j0 j1 e => (Rep_yes h j0 j1 e).2.1 hc
  have hs := h.1.1
  refine ⟨⟨by omega, fun j j0 j1 => ?_⟩, fun d hd => ?_, fun i j i0 ij j1 => ?_⟩
  · unfold insf
    by_cases q : j < r
    · rw [if_pos q, if_pos q]
      obtain ⟨a, b, e⟩ := Rep_at h j0 (by omega)
      exact ⟨a, b, by rw [up_n (hne j j0 (by omega))]; exact e⟩
    · rw [if_neg q, if_neg q]
      by_cases q2 : j = r
      · rw [if_pos q2, if_pos q2]
        exact ⟨⟨c0, c1⟩, ⟨x0, x1⟩, up_s⟩
      · rw [if_neg q2, if_neg q2]
        obtain ⟨a, b, e⟩ := Rep_at h (j := j - 1) (by omega) (by omega)
        exact ⟨a, b, by rw [up_n (hne (j - 1) (by omega) (by omega))]; exact e⟩
  · by_cases q : d = c
    · exact ⟨r, h0, by omega, by unfold insf; rw [if_neg (by omega), if_pos rfl]; exact q.symm⟩
    · rw [up_n q] at hd
      obtain ⟨j, j0, j1, e⟩ := h.2.1 d hd
      by_cases q2 : j < r
      · exact ⟨j, j0, by omega, by unfold insf; rw [if_pos q2]; exact e⟩
      · exact ⟨j + 1, by omega, by omega, by unfold insf; rw [if_neg (by omega), if_neg (by omega), show j + 1 - 1 = j by omega]; exact e⟩
  · unfold insf
    by_cases q1 : j < r
    · rw [if_pos (by omega), if_pos q1]; exact h.2.2 i j i0 ij (by omega)
    · rw [if_neg q1]
      by_cases q2 : j = r
      · rw [if_pos q2, if_pos (by omega)]; exact hne i i0 (by omega)
      · rw [if_neg q2]
        by_cases q3 : i < r
        · rw [if_pos q3]; exact h.2.2 i (j - 1) i0 (by omega) (by omega)
        · rw [if_neg q3]
          by_cases q4 : i = r
          · rw [if_pos q4]; exact fun e => hne (j - 1) (by omega) (by omega) e.symm
          · rw [if_neg q4]; exact h.2.2 (i - 1) (j - 1) (by omega) (by omega) (by omega)
theorem Rep_del (h : Rep f g s F) {r : Int} (h0 : 0 ≤ r) (h1 : r < s) : Rep (delf f r) (delf g r) (s - 1) (up F (f r) (-1)) := by
  refine ⟨⟨by omega, fun j j0 j1 => ?_⟩, fun d hd => ?_, fun i j i0 ij j1 => ?_⟩
  · unfold delf
    by_cases q : j < r
    · rw [if_pos q, if_pos q]
      obtain ⟨a, b, e⟩ := Rep_at h j0 (by omega)
      exact ⟨a, b, by rw [up_n (h.2.2 j r j0 q h1)]; exact e⟩
    · rw [if_neg q, if_neg q]
      obtain ⟨a, b, e⟩ := Rep_at h (j := j + 1) (by omega) (by omega)
      exact ⟨a, b, by rw [up_n (fun e9 => h.2.2 r (j + 1) h0 (by omega) (by omega) e9.symm)]; exact e⟩
  · by_cases q : d = f r
    · rw [q, up_s] at hd; exact absurd rfl hd
    · rw [up_n q] at hd
      obtain ⟨j, j0, j1, e⟩ := h.2.1 d hd
      have hj : j ≠ r := fun e9 => q (by rw [← e, e9])
      by_cases q2 : j < r
      · exact ⟨j, j0, by omega, by unfold delf; rw [if_pos q2]; exact e⟩
      · exact ⟨j - 1, by omega, by omega, by unfold delf; rw [if_neg (by omega), show j - 1 + 1 = j by omega]; exact e⟩
  · unfold delf
    by_cases q1 : j < r
    · rw [if_pos (by omega), if_pos q1]; exact h.2.2 i j i0 ij (by omega)
    · rw [if_neg q1]
      by_cases q3 : i < r
      · rw [if_pos q3]; exact h.2.2 i (j + 1) i0 (by omega) (by omega)
      · rw [if_neg q3]; exact h.2.2 (i + 1) (j + 1) (by omega) (by omega) (by omega)
/-- where a code stands, or would stand -/
def blw (f : Int → Int) (s c x : Int) : Prop := 0 ≤ x ∧ x ≤ s ∧ (∀ j : Int, 0 ≤ j → j < x → f j < c) ∧ (x < s → c ≤ f x)
theorem blw_ge (hs : Srt f s) {c x : Int} (h : blw f s c x) : ∀ j : Int, x ≤ j → j < s → c ≤ f j := fun j h0 h1 => by
  obtain ⟨a, b, -, d⟩ := h
  have := d (by omega)
  by_cases e : x = j
  · rw [← e]; exact this
  · have := hs x j a (by omega) h1
    omega
theorem Srt_ins (hs : Srt f s) (hr : Rep f g s F) {r c : Int} (hb : blw f s c r) (hc : F c = -1) : Srt (insf f r c) (s + 1) := by
  have hge := blw_ge hs hb
  obtain ⟨b0, b1, b2, b3⟩ := hb
  have hne : ∀ j : Int, 0 ≤ j → j < s → f j ≠ c := fun j j0 j1 e => (Rep_yes hr j0 j1 e).2.1 hc
  intro i j i0 ij j1
  unfold insf
  by_cases q1 : j < r
  · rw [if_pos (by omega), if_pos q1]; exact hs i j i0 ij (by omega)
  · rw [if_neg q1]
    by_cases q2 : j = r
    · rw [if_pos q2, if_pos (by omega)]; exact b2 i i0 (by omega)
    · rw [if_neg q2]
      have g1 := hge (j - 1) (by omega) (by omega)
      have g2 := hne (j - 1) (by omega) (by omega)
      by_cases q3 : i < r
      · rw [if_pos q3]; have := b2 i i0 q3; omega
      · rw [if_neg q3]
        by_cases q4 : i = r
        · rw [if_pos q4]; omega
        · rw [if_neg q4]; exact hs (i - 1) (j - 1) (by omega) (by omega) (by omega)
theorem Srt_del (hs : Srt f s) {r : Int} (h0 : 0 ≤ r) (h1 : r < s) : Srt (delf f r) (s - 1) := by
  intro i j i0 ij j1
  unfold delf
  by_cases q1 : j < r
  · rw [if_pos (by omega), if_pos q1]; exact hs i j i0 ij (by omega)
  · rw [if_neg q1]
    by_cases q3 : i < r
    · rw [if_pos q3]; exact hs i (j + 1) i0 (by omega) (by omega)
    · rw [if_neg q3]; exact hs (i + 1) (j + 1) (by omega) (by omega) (by omega)
end REP
/-- as many on both sides -/
theorem inj_le : ∀ (m n : Nat) (a b : Nat → Int), (∀ i j : Nat, i < j → j < n → a i ≠ a j) → (∀ i : Nat, i < n → ∃ j : Nat, j < m ∧ b j = a i) → n ≤ m
  | m, 0, _, _, _, _ => Nat.zero_le m
  | 0, n + 1, a, b, _, h2 => by
    obtain ⟨j, hj, -⟩ := h2 n (Nat.lt_succ_self n)
    exact absurd hj (Nat.not_lt_zero j)
  | m + 1, n + 1, a, b, h1, h2 => by
    obtain ⟨j0, hj0, e0⟩ := h2 n (Nat.lt_succ_self n)
    refine Nat.succ_le_succ (inj_le m n a (fun j => if j < j0 then b j else b (j + 1)) (fun i j hij hj => h1 i j hij (by omega)) (fun i hi => ?_))
    obtain ⟨j, hj, e⟩ := h2 i (by omega)
    have hne : j ≠ j0 := fun q => h1 i n hi (Nat.lt_succ_self n) (by rw [← e, ← e0, q])
    by_cases q : j < j0
    · exact ⟨j, by omega, by show (if j < j0 then b j else b (j + 1)) = a i; rw [if_pos q]; exact e⟩
    · refine ⟨j - 1, by omega, ?_⟩
      show (if j - 1 < j0 then b (j - 1) else b (j - 1 + 1)) = a i
      rw [if_neg (by omega), show j - 1 + 1 = j by omega]; exact e
theorem Rep_le {f g f' g' F : Int → Int} {s s' : Int} (h : Rep f g s F) (h' : Rep f' g' s' F) : s ≤ s' := by
  have k := inj_le s'.toNat s.toNat (fun i => f i) (fun j => f' j) (fun i j hij hj => h.2.2 i j (by omega) (by omega) (by have := h.1.1; omega)) (fun i hi => by
    have hs := h.1.1
    obtain ⟨q1, q2, -⟩ := Rep_yes h (j := (i : Int)) (by omega) (by omega) rfl
    obtain ⟨j, j0, j1, e⟩ := h'.2.1 _ q2
    exact ⟨j.toNat, by omega, by show f' (j.toNat : Int) = f i; rw [Int.toNat_of_nonneg j0]; exact e⟩)
  have a := h.1.1
  have b := h'.1.1
  omega
theorem Rep_sz {f g f' g' F : Int → Int} {s s' : Int} (h : Rep f g s F) (h' : Rep f' g' s' F) : s = s' := Int.le_antisymm (Rep_le h h') (Rep_le h' h)
/-- how many of the first n are so -/
def cnt (f : Int → Int) (P : Int → Bool) : Nat → Int
  | 0 => 0
  | n + 1 => cnt f P n + (if P (f (n : Int)) then 1 else 0)
theorem cnt_b (f : Int → Int) (P : Int → Bool) : ∀ n : Nat, 0 ≤ cnt f P n ∧ cnt f P n ≤ (n : Int)
  | 0 => ⟨Int.le_refl _, Int.le_refl _⟩
  | n + 1 => by
    have := cnt_b f P n
    unfold cnt
    split <;> omega
/-- those that are so, picked out -/
theorem cnt_pick (f : Int → Int) (P : Int → Bool) : ∀ n : Nat, ∃ a : Int → Int, (∀ i : Int, 0 ≤ i → i < cnt f P n → 0 ≤ a i ∧ a i < n ∧ P (f (a i)) = true) ∧ (∀ i j : Int, 0 ≤ i → i < j → j < cnt f P n → a i < a j) ∧ (∀ k : Int, 0 ≤ k → k < n → P (f k) = true → ∃ i : Int, 0 ≤ i ∧ i < cnt f P n ∧ a i = k)
  | 0 => ⟨fun _ => 0, fun i h0 h1 => by have h1 : i < 0 := h1; omega, fun i j h0 h1 h2 => by have h2 : j < 0 := h2; omega, fun k h0 h1 => by omega⟩
  | n + 1 => by
    obtain ⟨a, h1, h2, h3⟩ := cnt_pick f P n
    have hb := cnt_b f P n
    by_cases q : P (f (n : Int)) = true
    · have e : cnt f P (n + 1) = cnt f P n + 1 := by show cnt f P n + (if P (f (n : Int)) then 1 else 0) = _; rw [if_pos q]
      refine ⟨fun i => if i < cnt f P n then a i else n, fun i i0 i1 => ?_, fun i j i0 ij j1 => ?_, fun k k0 k1 hk => ?_⟩
      · by_cases q2 : i < cnt f P n
        · obtain ⟨x, y, z⟩ := h1 i i0 q2
          simp only [if_pos q2]; exact ⟨x, by omega, z⟩
        · simp only [if_neg q2]; exact ⟨by omega, by omega, q⟩
      · rw [e] at j1
        by_cases q2 : j < cnt f P n
        · simp only [if_pos q2, if_pos (show i < cnt f P n by omega)]; exact h2 i j i0 ij q2
        · simp only [if_neg q2, if_pos (show i < cnt f P n by omega)]; exact (h1 i i0 (by omega)).2.1
      · by_cases q2 : k < (n : Int)
        · obtain ⟨i, i0, i1, ei⟩ := h3 k k0 q2 hk
          exact ⟨i, i0, by omega, by simp only [if_pos i1]; exact ei⟩
        · exact ⟨cnt f P n, hb.1, by omega, by simp only [if_neg (Int.lt_irrefl _)]; omega⟩
    · have e : cnt f P (n + 1) = cnt f P n := by show cnt f P n + (if P (f (n : Int)) then 1 else 0) = _; rw [if_neg q, Int.add_zero]
      rw [e]
      refine ⟨a, fun i i0 i1 => ?_, h2, fun k k0 k1 hk => ?_⟩
      · obtain ⟨x, y, z⟩ := h1 i i0 i1
        exact ⟨x, by omega, z⟩
      · have : k ≠ (n : Int) := fun e9 => q (by rw [← e9]; exact hk)
        exact h3 k k0 (by omega) hk
theorem cnt_le {f g f' g' F : Int → Int} {s s' : Int} (P : Int → Bool) (h : Rep f g s F) (h' : Rep f' g' s' F) : cnt f P s.toNat ≤ cnt f' P s'.toNat := by
  obtain ⟨a, a1, a2, a3⟩ := cnt_pick f P s.toNat
  obtain ⟨b, b1, b2, b3⟩ := cnt_pick f' P s'.toNat
  have c1 := cnt_b f P s.toNat
  have c2 := cnt_b f' P s'.toNat
  have hs := h.1.1
  have hs' := h'.1.1
  have k := inj_le (cnt f' P s'.toNat).toNat (cnt f P s.toNat).toNat (fun i => f (a i)) (fun j => f' (b j)) (fun i j hij hj => by
    have q := a2 i j (by omega) (by omega) (by omega)
    obtain ⟨x1, x2, -⟩ := a1 i (by omega) (by omega)
    obtain ⟨y1, y2, -⟩ := a1 j (by omega) (by omega)
    exact h.2.2 _ _ x1 q (by omega)) (fun i hi => by
    obtain ⟨x1, x2, x3⟩ := a1 i (by omega) (by omega)
    obtain ⟨q1, q2, -⟩ := Rep_yes h (j := a i) x1 (by omega) rfl
    obtain ⟨j, j0, j1, e⟩ := h'.2.1 _ q2
    obtain ⟨m, m0, m1, em⟩ := b3 j j0 (by omega) (by rw [e]; exact x3)
    exact ⟨m.toNat, by omega, by show f' (b (m.toNat : Int)) = f (a i); rw [Int.toNat_of_nonneg m0, em]; exact e⟩)
  omega
theorem cnt_eq {f g f' g' F : Int → Int} {s s' : Int} (P : Int → Bool) (h : Rep f g s F) (h' : Rep f' g' s' F) : cnt f P s.toNat = cnt f' P s'.toNat := Int.le_antisymm (cnt_le P h h') (cnt_le P h' h)
/-- the least, the greatest one that is so -/
def isL (F : Int → Int) (P : Int → Bool) (x : Int) : Prop := F x ≠ -1 ∧ P x = true ∧ ∀ c : Int, F c ≠ -1 → P c = true → x ≤ c
def isG (F : Int → Int) (P : Int → Bool) (x : Int) : Prop := F x ≠ -1 ∧ P x = true ∧ ∀ c : Int, F c ≠ -1 → P c = true → c ≤ x
noncomputable def lst (F : Int → Int) (P : Int → Bool) : Int := Classical.epsilon (fun x : Int => isL F P x ∨ ((∀ y, ¬ isL F P y) ∧ x = -1))
noncomputable def grt (F : Int → Int) (P : Int → Bool) : Int := Classical.epsilon (fun x : Int => isG F P x ∨ ((∀ y, ¬ isG F P y) ∧ x = -1))
theorem lst_eq {F : Int → Int} {P : Int → Bool} {x : Int} (h : isL F P x) : lst F P = x := by
  have k := Classical.epsilon_spec (p := fun x : Int => isL F P x ∨ ((∀ y, ¬ isL F P y) ∧ x = -1)) ⟨x, Or.inl h⟩
  rcases k with k | k
  · have a := k.2.2 x h.1 h.2.1
    have b := h.2.2 _ k.1 k.2.1
    exact Int.le_antisymm a b
  · exact absurd h (k.1 x)
theorem grt_eq {F : Int → Int} {P : Int → Bool} {x : Int} (h : isG F P x) : grt F P = x := by
  have k := Classical.epsilon_spec (p := fun x : Int => isG F P x ∨ ((∀ y, ¬ isG F P y) ∧ x = -1)) ⟨x, Or.inl h⟩
  rcases k with k | k
  · have a := k.2.2 x h.1 h.2.1
    have b := h.2.2 _ k.1 k.2.1
    exact Int.le_antisymm b a
  · exact absurd h (k.1 x)
theorem lst_no {F : Int → Int} {P : Int → Bool} (h : ∀ c, F c ≠ -1 → P c = false) : lst F P = -1 := by
  have hn : ∀ y, ¬ isL F P y := fun y q => by have := h y q.1; rw [q.2.1] at this; cases this
  have k := Classical.epsilon_spec (p := fun x : Int => isL F P x ∨ ((∀ y, ¬ isL F P y) ∧ x = -1)) ⟨-1, Or.inr ⟨hn, rfl⟩⟩
  rcases k with k | k
  · exact absurd k (hn _)
  · exact k.2
theorem grt_no {F : Int → Int} {P : Int → Bool} (h : ∀ c, F c ≠ -1 → P c = false) : grt F P = -1 := by
  have hn : ∀ y, ¬ isG F P y := fun y q => by have := h y q.1; rw [q.2.1] at this; cases this
  have k := Classical.epsilon_spec (p := fun x : Int => isG F P x ∨ ((∀ y, ¬ isG F P y) ∧ x = -1)) ⟨-1, Or.inr ⟨hn, rfl⟩⟩
  rcases k with k | k
  · exact absurd k (hn _)
  · exact k.2
/-- how many a book has -/
noncomputable def zF (F : Int → Int) : Int := Classical.epsilon (fun s : Int => ∃ f g : Int → Int, Rep f g s F)
theorem zF_eq {f g F : Int → Int} {s : Int} (h : Rep f g s F) : zF F = s := by
  obtain ⟨f', g', k⟩ := Classical.epsilon_spec (p := fun s : Int => ∃ f g : Int → Int, Rep f g s F) ⟨s, f, g, h⟩
  exact Rep_sz k h
/-- how many of a book's codes are so -/
noncomputable def nF (F : Int → Int) (P : Int → Bool) : Int := Classical.epsilon (fun n : Int => ∃ (f g : Int → Int) (s : Int), Rep f g s F ∧ n = cnt f P s.toNat)
theorem nF_eq {f g F : Int → Int} {s : Int} (P : Int → Bool) (h : Rep f g s F) : nF F P = cnt f P s.toNat := by
  obtain ⟨f', g', s', k, e⟩ := Classical.epsilon_spec (p := fun n : Int => ∃ (f g : Int → Int) (s : Int), Rep f g s F ∧ n = cnt f P s.toNat) ⟨_, f, g, s, h, rfl⟩
  exact e.trans (cnt_eq P k h)
/-! ===== rows whose content is told ===== -/
def FrI (i : Nat) (h h1 : dm_H) : Prop := h1.length = h.length ∧ ∀ j : Nat, j ≠ i → h1[j]? = h[j]?
def FrB (b : Nat) (h h1 : dm_H) : Prop := h1.length = h.length ∧ ∀ j : Nat, j ≠ b → j ≠ b + 1 → j ≠ b + 2 → h1[j]? = h[j]?
theorem FrB_rf {b : Nat} {h : dm_H} : FrB b h h := ⟨rfl, fun _ _ _ _ => rfl⟩
theorem FrB_tr {b : Nat} {h h1 h2 : dm_H} (a : FrB b h h1) (c : FrB b h1 h2) : FrB b h h2 := ⟨c.1.trans a.1, fun j x y z => (c.2 j x y z).trans (a.2 j x y z)⟩
theorem FrB_of {b i : Nat} {h h1 : dm_H} (a : FrI i h h1) (hi : i = b ∨ i = b + 1 ∨ i = b + 2) : FrB b h h1 := ⟨a.1, fun j x y z => a.2 j (by omega)⟩
def stt (vs us : List Value) (e x : Int) : Prop := ∀ j : Int, 0 ≤ j → cv us j = stf (cv vs) e x j
theorem cv_st {vs : List Value} {e x : Int} (h0 : 0 ≤ e) (h1 : e < (vs.length : Int)) (hx1 : -2147483648 ≤ x) (hx2 : x < 2147483648) : stt vs (vs.set e.toNat (dI x)) e x := by
  intro j j0
  unfold stf
  by_cases q : j = e
  · rw [if_pos q, q]; exact cv_set h0 h1 hx1 hx2
  · rw [if_neg q]
    unfold cv
    rw [List.getElem?_set, if_neg (by omega)]
section XR
variable {E : dm_Ex} {P : dm_Po} {l : Launch} {z d MC MS pc ce sl : Nat} {ls : List (Option Value)} {st : List Value} {h : dm_H} {kc km : Int}
theorem pfX {idx ci k md t i : Nat} {vs : List Value} {v : Value} (hi : dm_at z pc = some (.putfield idx, 3, [ci, k, md, t])) (hc : h[i]? = some (ci, vs)) (hk : k < vs.length) (hf : dm_fit (dm_ty ci k) v = true) (hI : Inv kc km h) (h37 : i < 37) (hT : dm_T37 kc km i (ci, vs.set k v))
    (kk : ∀ h1 : dm_H, Inv kc km h1 → FrI i h h1 → h1[i]? = some (ci, vs.set k v) → dm_W E P l z d MC MS (pc + 3) ls st h1 ce sl) : dm_W E P l z d MC MS pc ls (v :: .ref i :: st) h ce sl :=
  dr_putf hi hc hk hf (kk _ (Inv_set hI h37 hT) ⟨List.length_set, fun j hj => by rw [List.getElem?_set, if_neg (fun e => hj e.symm)]⟩ (by rw [List.getElem?_set, if_pos rfl, if_pos (Nat.lt_of_lt_of_le h37 (Inv_len hI))]))
theorem paX {i n : Nat} {F : Int → Prop} {vs : List Value} {e x : Int} (hi : dm_at z pc = some (.iastore, 1, [])) (hh : h[i]? = some (20, vs)) (ha : arr n F vs) (h0 : 0 ≤ e) (h1 : e < n) (hF : F x) (hx1 : -2147483648 ≤ x) (hx2 : x < 2147483648) (hI : Inv kc km h) (h37 : i < 37) (hT : ∀ us, arr n F us → dm_T37 kc km i (20, us))
    (kk : ∀ (h1 : dm_H) (us : List Value), Inv kc km h1 → FrI i h h1 → h1[i]? = some (20, us) → arr n F us → stt vs us e x → dm_W E P l z d MC MS (pc + 1) ls st h1 ce sl) : dm_W E P l z d MC MS pc ls (dI x :: dI e :: .ref i :: st) h ce sl :=
  di_iast hi hh ha h0 h1 hF hx1 hx2 (fun hs => kk _ _ (Inv_set hI h37 (hT _ hs)) ⟨List.length_set, fun j hj => by rw [List.getElem?_set, if_neg (fun e => hj e.symm)]⟩ (by rw [List.getElem?_set, if_pos rfl, if_pos (Nat.lt_of_lt_of_le h37 (Inv_len hI))]) hs (cv_st h0 (by rw [ha.1]; omega) hx1 hx2))
end XR
/-- the rows moved up behind i; moved down from r to i; the first i taken over -/
def isSh (u v : List Value) (s i : Int) : Prop := ∀ j : Int, 0 ≤ j → j ≤ s → cv v j = if j ≤ i then cv u j else cv u (j - 1)
theorem isSh_0 {u : List Value} {s : Int} : isSh u u s s := fun j _ h => by rw [if_pos h]
theorem isSh_s {u v v' : List Value} {s i x : Int} (h : isSh u v s i) (hs : stt v v' i x) (hx : cv v (i - 1) = x) (h0 : 1 ≤ i) (h1 : i ≤ s) : isSh u v' s (i - 1) := fun j j0 j1 => by
  rw [hs j j0]
  unfold stf
  have a := h j j0 j1
  have b := h (i - 1) (by omega) (by omega)
  rw [if_pos (by omega)] at b
  by_cases q : j = i
  · rw [if_pos q, if_neg (by omega), ← hx, b, q]
  · rw [if_neg q, a]
    by_cases q2 : j ≤ i
    · rw [if_pos q2, if_pos (by omega)]
    · rw [if_neg q2, if_neg (by omega)]
theorem isSh_e {u v v' : List Value} {s r c : Int} (h : isSh u v s r) (hs : stt v v' r c) : ∀ j : Int, 0 ≤ j → j < s + 1 → cv v' j = insf (cv u) r c j := fun j j0 j1 => by
  rw [hs j j0]
  unfold stf insf
  have a := h j j0 (by omega)
  by_cases q : j = r
  · rw [if_pos q, if_neg (by omega), if_pos q]
  · rw [if_neg q, a]
    by_cases q2 : j < r
    · rw [if_pos (by omega), if_pos q2]
    · rw [if_neg (by omega), if_neg q2, if_neg q]
/-- s is the new count -/
def isDl (u v : List Value) (r s i : Int) : Prop := ∀ j : Int, 0 ≤ j → j ≤ s → cv v j = if j < i then delf (cv u) r j else cv u j
theorem isDl_0 {u : List Value} {r s : Int} : isDl u u r s r := fun j j0 _ => by
  unfold delf
  by_cases q : j < r
  · rw [if_pos q, if_pos q]
  · rw [if_neg q]
theorem isDl_s {u v v' : List Value} {r s i x : Int} (h : isDl u v r s i) (hs : stt v v' i x) (hx : cv v (i + 1) = x) (h0 : r ≤ i) (h1 : i < s) (hr : 0 ≤ r) : isDl u v' r s (i + 1) := fun j j0 j1 => by
  rw [hs j j0]
  unfold stf
  have a := h j j0 j1
  have b := h (i + 1) (by omega) (by omega)
  rw [if_neg (by omega)] at b
  by_cases q : j = i
  · rw [if_pos q, if_pos (by omega), ← hx, b, q]; unfold delf; rw [if_neg (by omega)]
  · rw [if_neg q, a]
    by_cases q2 : j < i
    · rw [if_pos q2, if_pos (by omega)]
    · rw [if_neg q2, if_neg (by omega)]
theorem isDl_e {u v : List Value} {r s i : Int} (h : isDl u v r s i) (hi : s ≤ i) : ∀ j : Int, 0 ≤ j → j < s → cv v j = delf (cv u) r j := fun j j0 j1 => by
  rw [h j j0 (by omega), if_pos (by omega)]
def isCp (u v : List Value) (i : Int) : Prop := ∀ j : Int, 0 ≤ j → j < i → cv v j = cv u j
theorem isCp_0 {u v : List Value} : isCp u v 0 := fun j h0 h1 => absurd h0 (by omega)
theorem isCp_s {u v v' : List Value} {i x : Int} (h : isCp u v i) (hs : stt v v' i x) (hx : cv u i = x) : isCp u v' (i + 1) := fun j j0 j1 => by
  rw [hs j j0]
  unfold stf
  by_cases q : j = i
  · rw [if_pos q, q, hx]
  · rw [if_neg q]; exact h j j0 (by omega)
/-- a book's two rows, told whole -/
def CA (b : Nat) (s m : Int) (u w : List Value) (h : dm_H) : Prop := h[b]? = some (2, [.ref (b + 1), .ref (b + 2), dI s, dI m]) ∧ h[b + 1]? = some (20, u) ∧ h[b + 2]? = some (20, w) ∧ arr 8 okC u ∧ arr 8 anyI w ∧ 0 ≤ s ∧ s ≤ 8 ∧ -2147483648 ≤ m ∧ m < 2147483648
def QW (kc km : Int) (h : dm_H) (b : Nat) (Φ : List Value → List Value → Int → Int → Option Value → Prop) : dm_Rs := fun r h' => Inv kc km h' ∧ FrB b h h' ∧ match r with
  | .inl v => ∃ (s m : Int) (u w : List Value), CA b s m u w h' ∧ Φ u w s m v
  | .inr _ => False
section KQW
variable {E : dm_Ex} {P : dm_Po} {l : Launch} {z d MC MS pc ce sl : Nat} {ls : List (Option Value)} {st : List Value} {h : dm_H} {kc km : Int} {b : Nat} {Φ : List Value → List Value → Int → Int → Option Value → Prop}
theorem kQWN : ∀ (Y : String) (h1 : dm_H), QW kc km h b Φ (.inr Y) h1 → dm_T9 E P l z d MC MS Y pc ls h1 ce sl := fun _ _ q => q.2.2.elim
theorem kQWV (kk : ∀ (h1 : dm_H), Inv kc km h1 → FrB b h h1 → ∀ (s m : Int) (u w : List Value), CA b s m u w h1 → Φ u w s m none → dm_W E P l z d MC MS pc ls st h1 ce sl) (hv : ∀ u w s m v, Φ u w s m v → v = none) : ∀ (v : Option Value) (h1 : dm_H), QW kc km h b Φ (.inl v) h1 → dm_W E P l z d MC MS pc ls (v.toList ++ st) h1 ce sl := by
  rintro v h1 ⟨a, c, s, m, u, w, q1, q2⟩
  have e := hv _ _ _ _ _ q2
  subst e
  exact kk h1 a c s m u w q1 q2
end KQW
