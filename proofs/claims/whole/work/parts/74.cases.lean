/-! the law's cases -/
set_option maxHeartbeats 1000000 in
set_option maxRecDepth 100000 in
theorem law_set {p : Program} {l : Launch} {e : Env} {s : State} {m : MethodId} {below : List Frame} {meth : Method} {c : Code} {Q : State → Prop} {X : CX} {b sb L : Nat} {xs : Nat → Int32} (C0 : LC p l s m meth c X b sb L xs) {d0 : Drawn} (hd0 : s.drawn.sameBut d0 lw_cs) {k : Nat} (hk : 4 * k + 4 ≤ L) {nb np : Nat} {g : S2} {w : Int64} {H : Heap} {locs : List Loc} {ls : Array Slot} (I : Inv nb np g) (hW : wd X b g w H) (hS : va_S (AA b) s.heap H locs) (hl : lv_has ls 9 (LV b sb k)) (kk : ∀ (d1 : Drawn) (nb np : Nat) (g : S2) (w : Int64) (H : Heap) (locs : List Loc) (ls : Array Slot), s.drawn.sameBut d1 lw_cs → Inv nb np g → wd X b g w H → va_S (AA b) s.heap H locs → lv_has ls 9 (LV b sb k) → W p l e room_1 (s.setDrawn d1) m #[Value.ref sb] below meth c H locs (174 + 446 * (k + 1)) (2027 + 3016 * (k + 1)) Q (F0 m 1082 ls [])) : W p l e room_1 (s.setDrawn d0) m #[Value.ref sb] below meth c H locs (174 + 446 * k) (2027 + 3016 * k) Q (F0 m 116 ls []) := by
  have hx := C0.hx
  have hb := C0.hb
  have hL := C0.hL
  have hml := C0.hml
  have hst := C0.hst
  have hts := dr_words C0.hts d0
  have hown : (s.setDrawn d0).vm.findClass RL = some m.cls := C0.hown
  have hK : KK X (s.setDrawn d0) := C0.hK.dr d0
  have hT : KT b (s.setDrawn d0) (s.setDrawn d0).heap := C0.hT.dr d0
  have hkL : k < 512 := by omega
  have h := I.1.1.2.2.1.1
  obtain ⟨a1, ha1⟩ : ∃ z, z = xs (4 * k + 1) := ⟨_, rfl⟩
  obtain ⟨a2, ha2⟩ : ∃ z, z = xs (4 * k + 2) := ⟨_, rfl⟩
  obtain ⟨a3, ha3⟩ : ∃ z, z = xs (4 * k + 3) := ⟨_, rfl⟩
  refine lv_aload_n hx hb dL_law_116 rfl (lv_at hl 1 rfl) ?_
  refine lv_aload_n hx hb dL_law_117 rfl (lv_at hl 0 rfl) ?_
  refine lv_iload hx hb dL_law_118 (lv_at hl 4 rfl) ?_
  refine lv_iconst (v := 1) hx hb dL_law_120 (by decide) ?_
  refine l_sld (j := 1) C0 d0 hS (by omega) rfl dL_law_121 dL_law_122 ?_
  rw [← ha1]
  refine lv_aload_n hx hb dL_law_123 rfl (lv_at hl 0 rfl) ?_
  refine lv_iload hx hb dL_law_124 (lv_at hl 4 rfl) ?_
  refine lv_iconst (v := 2) hx hb dL_law_126 (by decide) ?_
  refine l_sld (j := 2) C0 d0 hS (by omega) rfl dL_law_127 dL_law_128 ?_
  rw [← ha2]
  refine lv_aload_n hx hb dL_law_129 rfl (lv_at hl 0 rfl) ?_
  refine lv_iload hx hb dL_law_130 (lv_at hl 4 rfl) ?_
  refine lv_iconst (v := 3) hx hb dL_law_132 (by decide) ?_
  refine l_sld (j := 3) C0 d0 hS (by omega) rfl dL_law_133 dL_law_134 ?_
  rw [← ha3]
  refine lv_aload_n hx hb dL_law_135 rfl (lv_at hl 3 rfl) ?_
  refine va_calli (c_SW (As := [.ref (b + 0), .int a1, .int a2, .int a3, .ref (b + 173)]) (rest := []) ⟨hx, hb, hml, hown, hts⟩ (metL_set l hst X b w g h a1 a2 a3) hK hT hS hW q_226 q_227 q_0 q_228 (n := 5) (by decide +kernel) ⟨Nat.le_of_ble_eq_true rfl, Nat.le_of_ble_eq_true rfl, rfl, rfl⟩ rfl dL_law_136 rfl hl.1 (Nat.le_of_ble_eq_true rfl) ⟨by show 174 + 446 * k + 1 ≤ 614152; omega, by show 2027 + 3016 * k + 6 ≤ 7253648; omega⟩) hS (fun _ _ h => h) (fun _ h => h) (fun kv u t H locs ht hvm hp hW hz hk1 hS => ?_)
  obtain ⟨g1, w1⟩ := u
  obtain ⟨r, hC, hkv, hw1, h4⟩ := hp
  replace hW : wd X b g1 w1 H := ht ▸ hW
  replace hC : CP g (er_set a1 a2 a3) (fun r g1 => r = 10 * g (1 + 4 + cl a1) 0 + g (1 + 4 + cl a1) 1 ∧ g1 = u2 (u2 g (1 + 4 + cl a1) 0 a2) (1 + 4 + cl a1) 1 a3) r g1 := hC
  obtain ⟨er, her⟩ : ∃ z, z = (er_set a1 a2 a3) := ⟨_, rfl⟩
  rw [← her] at hkv hw1 h4
  replace hw1 : er = 0 → w1 = lo0 r := hw1
  subst hkv
  refine lv_istore (lv' := [(5, .int (nI er)), (0, .ref sb), (1, .ref (b + 0)), (2, .ref (b + 141)), (3, .ref (b + 173)), (4, .int (nI (4 * k)))]) hx hb dL_law_139 hl (by decide) rfl (fun ls hl => ?_)
  refine lv_aload_n hx hb dL_law_141 rfl (lv_at hl 3 rfl) ?_
  refine lv_aload_n hx hb dL_law_142 rfl (lv_at hl 1 rfl) ?_
  refine lv_iload hx hb dL_law_143 (lv_at hl 5 rfl) ?_
  refine lv_iconst (v := 1) hx hb dL_law_145 (by decide) ?_
  refine l_sld (j := 1) C0 d0 hS (by omega) rfl dL_law_146 dL_law_147 ?_
  rw [← ha1]
  refine lv_aload_n hx hb dL_law_148 rfl (lv_at hl 1 rfl) ?_
  refine lv_iload hx hb dL_law_149 (lv_at hl 5 rfl) ?_
  refine lv_iconst (v := 2) hx hb dL_law_151 (by decide) ?_
  refine l_sld (j := 2) C0 d0 hS (by omega) rfl dL_law_152 dL_law_153 ?_
  rw [← ha2]
  refine lv_aload_n hx hb dL_law_154 rfl (lv_at hl 1 rfl) ?_
  refine lv_iload hx hb dL_law_155 (lv_at hl 5 rfl) ?_
  refine lv_iconst (v := 3) hx hb dL_law_157 (by decide) ?_
  refine l_sld (j := 3) C0 d0 hS (by omega) rfl dL_law_158 dL_law_159 ?_
  rw [← ha3]
  have hOk := cd_okr I (cd_set I hC)
  refine k_i (c_V0 (i := 141) (As := [.int a1, .int a2, .int a3]) (rest := []) ⟨hx, hb, hml, hown, hts⟩ (metX6_set l X b w1 g1 hOk a1 a2 a3) hK hW (by decide) Ent_M rfl q_637 q_638 q_639 q_6 q_640 hX6_set ⟨Nat.le_of_ble_eq_true rfl, Nat.le_of_ble_eq_true rfl, rfl, rfl⟩ rfl dL_law_160 rfl hl.1 (Nat.le_of_ble_eq_true rfl) ⟨by show 174 + 446 * k + 1 + 0 ≤ 614152; omega, by show 2027 + 3016 * k + 6 + 0 ≤ 7253648; omega⟩) hS (fun r' g2 H locs hp hW hS => ?_)
  obtain ⟨hth, hans, nb1, np1, I1⟩ := ca_set I hC hp
  rw [← her] at hth hans
  refine lv_istore (lv' := [(6, .int r'), (5, .int (nI er)), (0, .ref sb), (1, .ref (b + 0)), (2, .ref (b + 141)), (3, .ref (b + 173)), (4, .int (nI (4 * k)))]) hx hb dL_law_163 hl (by decide) rfl (fun ls hl => ?_)
  refine lv_aload_n hx hb dL_law_165 rfl (lv_at hl 4 rfl) ?_
  refine k_R (c_V0 (i := 141) (As := []) (rest := []) ⟨hx, hb, hml, hown, hts⟩ (metX6_thrown l X b w1 g2) hK hW (by decide) Ent_M rfl q_633 q_634 q_635 q_6 q_636 hX6_thrown ⟨Nat.le_of_ble_eq_true rfl, Nat.le_of_ble_eq_true rfl, rfl, rfl⟩ rfl dL_law_166 rfl hl.1 (Nat.le_of_ble_eq_true rfl) ⟨by show 174 + 446 * k + 1 + 0 + 0 ≤ 614152; omega, by show 2027 + 3016 * k + 6 + 0 + 0 ≤ 7253648; omega⟩) ?_
  refine w_top hth ?_
  refine lv_iload hx hb dL_law_169 (lv_at hl 1 rfl) ?_
  refine lv_icmp_eq (tgt := 176) hx hb dL_law_171 (by decide) (fun _ => ?_) (fun c_1 => absurd rfl c_1)
  refine lv_iload hx hb dL_law_176 (lv_at hl 1 rfl) ?_
  have fin : ∀ ls, lv_has ls 9 [(6, .int r'), (5, .int (nI er)), (0, .ref sb), (1, .ref (b + 0)), (2, .ref (b + 141)), (3, .ref (b + 173)), (4, .int (nI (4 * k)))] → W p l e room_1 (s.setDrawn d0) m #[Value.ref sb] below meth c H locs (174 + 446 * k + 1 + 0) (2027 + 3016 * k + 6 + 0) Q (F0 m 193 ls []) := by
    intro ls hl
    refine lv_goto (tgt := 1082) hx hb dL_law_193 (by decide) ?_
    refine W.widen (k := 174 + 446 * (k + 1)) (n := 2027 + 3016 * (k + 1)) (by omega) (by omega) ?_
    exact kk d0 nb1 np1 g2 w1 H locs ls hd0 I1 hW hS (lv_sub hl [2, 3, 4, 5, 6] rfl)
  refine lv_if_ne (tgt := 193) hx hb dL_law_178 (by decide) (fun _ => fin ls hl) (fun c_1 => ?_)
  have e0 : er = 0 := (nI_z0 (by omega)).mp c_1
  refine lv_aload_n hx hb dL_law_181 rfl (lv_at hl 5 rfl) ?_
  refine lv_iconst (v := 0) hx hb dL_law_182 (by decide) ?_
  refine w_lald hx hb hK hW dL_law_183 ?_
  refine lv_iload hx hb dL_law_184 (lv_at hl 0 rfl) ?_
  refine lv_i2l (v := r'.toInt64) hx hb dL_law_186 rfl ?_
  refine W.lcmp hx hb dL_law_187 ?_
  refine w_top (y := 0) (by rw [hw1 e0, hans e0, show lo0 r' = r'.toInt64 from rfl]; exact lg_self) ?_
  refine lv_if_eq (tgt := 193) hx hb dL_law_188 (by decide) (fun _ => fin ls hl) (fun c_1 => absurd rfl c_1)

set_option maxHeartbeats 1000000 in
set_option maxRecDepth 100000 in
theorem law_hold {p : Program} {l : Launch} {e : Env} {s : State} {m : MethodId} {below : List Frame} {meth : Method} {c : Code} {Q : State → Prop} {X : CX} {b sb L : Nat} {xs : Nat → Int32} (C0 : LC p l s m meth c X b sb L xs) {d0 : Drawn} (hd0 : s.drawn.sameBut d0 lw_cs) {k : Nat} (hk : 4 * k + 4 ≤ L) {nb np : Nat} {g : S2} {w : Int64} {H : Heap} {locs : List Loc} {ls : Array Slot} (I : Inv nb np g) (hW : wd X b g w H) (hS : va_S (AA b) s.heap H locs) (hl : lv_has ls 9 (LV b sb k)) (kk : ∀ (d1 : Drawn) (nb np : Nat) (g : S2) (w : Int64) (H : Heap) (locs : List Loc) (ls : Array Slot), s.drawn.sameBut d1 lw_cs → Inv nb np g → wd X b g w H → va_S (AA b) s.heap H locs → lv_has ls 9 (LV b sb k) → W p l e room_1 (s.setDrawn d1) m #[Value.ref sb] below meth c H locs (174 + 446 * (k + 1)) (2027 + 3016 * (k + 1)) Q (F0 m 1082 ls [])) : W p l e room_1 (s.setDrawn d0) m #[Value.ref sb] below meth c H locs (174 + 446 * k) (2027 + 3016 * k) Q (F0 m 196 ls []) := by
  have hx := C0.hx
  have hb := C0.hb
  have hL := C0.hL
  have hml := C0.hml
  have hst := C0.hst
  have hts := dr_words C0.hts d0
  have hown : (s.setDrawn d0).vm.findClass RL = some m.cls := C0.hown
  have hK : KK X (s.setDrawn d0) := C0.hK.dr d0
  have hT : KT b (s.setDrawn d0) (s.setDrawn d0).heap := C0.hT.dr d0
  have hkL : k < 512 := by omega
  have h := I.1.1.2.2.1.1
  obtain ⟨a1, ha1⟩ : ∃ z, z = xs (4 * k + 1) := ⟨_, rfl⟩
  refine lv_aload_n hx hb dL_law_196 rfl (lv_at hl 1 rfl) ?_
  refine lv_aload_n hx hb dL_law_197 rfl (lv_at hl 0 rfl) ?_
  refine lv_iload hx hb dL_law_198 (lv_at hl 4 rfl) ?_
  refine lv_iconst (v := 1) hx hb dL_law_200 (by decide) ?_
  refine l_sld (j := 1) C0 d0 hS (by omega) rfl dL_law_201 dL_law_202 ?_
  rw [← ha1]
  refine lv_aload_n hx hb dL_law_203 rfl (lv_at hl 3 rfl) ?_
  refine va_calli (c_SW (As := [.ref (b + 0), .int a1, .ref (b + 173)]) (rest := []) ⟨hx, hb, hml, hown, hts⟩ (metL_hold l hst X b w g h a1) hK hT hS hW q_326 q_327 q_0 q_328 (n := 3) (by decide +kernel) ⟨Nat.le_of_ble_eq_true rfl, Nat.le_of_ble_eq_true rfl, rfl, rfl⟩ rfl dL_law_204 rfl hl.1 (Nat.le_of_ble_eq_true rfl) ⟨by show 174 + 446 * k + 1 ≤ 614152; omega, by show 2027 + 3016 * k + 6 ≤ 7253648; omega⟩) hS (fun _ _ h => h) (fun _ h => h) (fun kv u t H locs ht hvm hp hW hz hk1 hS => ?_)
  obtain ⟨g1, w1⟩ := u
  obtain ⟨r, hC, hkv, hw1, h4⟩ := hp
  replace hW : wd X b g1 w1 H := ht ▸ hW
  replace hC : CP g (er_hold a1) (fun r g1 => r = g 1 6 ∧ g1 = u2 g 1 6 a1) r g1 := hC
  obtain ⟨er, her⟩ : ∃ z, z = (er_hold a1) := ⟨_, rfl⟩
  rw [← her] at hkv hw1 h4
  replace hw1 : er = 0 → w1 = lo0 r := hw1
  subst hkv
  refine lv_istore (lv' := [(5, .int (nI er)), (0, .ref sb), (1, .ref (b + 0)), (2, .ref (b + 141)), (3, .ref (b + 173)), (4, .int (nI (4 * k)))]) hx hb dL_law_207 hl (by decide) rfl (fun ls hl => ?_)
  refine lv_aload_n hx hb dL_law_209 rfl (lv_at hl 3 rfl) ?_
  refine lv_aload_n hx hb dL_law_210 rfl (lv_at hl 1 rfl) ?_
  refine lv_iload hx hb dL_law_211 (lv_at hl 5 rfl) ?_
  refine lv_iconst (v := 1) hx hb dL_law_213 (by decide) ?_
  refine l_sld (j := 1) C0 d0 hS (by omega) rfl dL_law_214 dL_law_215 ?_
  rw [← ha1]
  have hOk := cd_okr I (cd_hold I hC)
  refine k_i (c_V0 (i := 141) (As := [.int a1]) (rest := []) ⟨hx, hb, hml, hown, hts⟩ (metX6_hold l X b w1 g1 hOk a1) hK hW (by decide) Ent_M rfl q_651 q_652 q_653 q_6 q_654 hX6_hold ⟨Nat.le_of_ble_eq_true rfl, Nat.le_of_ble_eq_true rfl, rfl, rfl⟩ rfl dL_law_216 rfl hl.1 (Nat.le_of_ble_eq_true rfl) ⟨by show 174 + 446 * k + 1 + 0 ≤ 614152; omega, by show 2027 + 3016 * k + 6 + 0 ≤ 7253648; omega⟩) hS (fun r' g2 H locs hp hW hS => ?_)
  obtain ⟨hth, hans, nb1, np1, I1⟩ := ca_hold I hC hp
  rw [← her] at hth hans
  refine lv_istore (lv' := [(6, .int r'), (5, .int (nI er)), (0, .ref sb), (1, .ref (b + 0)), (2, .ref (b + 141)), (3, .ref (b + 173)), (4, .int (nI (4 * k)))]) hx hb dL_law_219 hl (by decide) rfl (fun ls hl => ?_)
  refine lv_aload_n hx hb dL_law_221 rfl (lv_at hl 4 rfl) ?_
  refine k_R (c_V0 (i := 141) (As := []) (rest := []) ⟨hx, hb, hml, hown, hts⟩ (metX6_thrown l X b w1 g2) hK hW (by decide) Ent_M rfl q_633 q_634 q_635 q_6 q_636 hX6_thrown ⟨Nat.le_of_ble_eq_true rfl, Nat.le_of_ble_eq_true rfl, rfl, rfl⟩ rfl dL_law_222 rfl hl.1 (Nat.le_of_ble_eq_true rfl) ⟨by show 174 + 446 * k + 1 + 0 + 0 ≤ 614152; omega, by show 2027 + 3016 * k + 6 + 0 + 0 ≤ 7253648; omega⟩) ?_
  refine w_top hth ?_
  refine lv_iload hx hb dL_law_225 (lv_at hl 1 rfl) ?_
  refine lv_icmp_eq (tgt := 232) hx hb dL_law_227 (by decide) (fun _ => ?_) (fun c_1 => absurd rfl c_1)
  refine lv_iload hx hb dL_law_232 (lv_at hl 1 rfl) ?_
  have fin : ∀ ls, lv_has ls 9 [(6, .int r'), (5, .int (nI er)), (0, .ref sb), (1, .ref (b + 0)), (2, .ref (b + 141)), (3, .ref (b + 173)), (4, .int (nI (4 * k)))] → W p l e room_1 (s.setDrawn d0) m #[Value.ref sb] below meth c H locs (174 + 446 * k + 1 + 0) (2027 + 3016 * k + 6 + 0) Q (F0 m 249 ls []) := by
    intro ls hl
    refine lv_goto (tgt := 1082) hx hb dL_law_249 (by decide) ?_
    refine W.widen (k := 174 + 446 * (k + 1)) (n := 2027 + 3016 * (k + 1)) (by omega) (by omega) ?_
    exact kk d0 nb1 np1 g2 w1 H locs ls hd0 I1 hW hS (lv_sub hl [2, 3, 4, 5, 6] rfl)
  refine lv_if_ne (tgt := 249) hx hb dL_law_234 (by decide) (fun _ => fin ls hl) (fun c_1 => ?_)
  have e0 : er = 0 := (nI_z0 (by omega)).mp c_1
  refine lv_aload_n hx hb dL_law_237 rfl (lv_at hl 5 rfl) ?_
  refine lv_iconst (v := 0) hx hb dL_law_238 (by decide) ?_
  refine w_lald hx hb hK hW dL_law_239 ?_
  refine lv_iload hx hb dL_law_240 (lv_at hl 0 rfl) ?_
  refine lv_i2l (v := r'.toInt64) hx hb dL_law_242 rfl ?_
  refine W.lcmp hx hb dL_law_243 ?_
  refine w_top (y := 0) (by rw [hw1 e0, hans e0, show lo0 r' = r'.toInt64 from rfl]; exact lg_self) ?_
  refine lv_if_eq (tgt := 249) hx hb dL_law_244 (by decide) (fun _ => fin ls hl) (fun c_1 => absurd rfl c_1)

set_option maxHeartbeats 1000000 in
set_option maxRecDepth 100000 in
theorem law_start {p : Program} {l : Launch} {e : Env} {s : State} {m : MethodId} {below : List Frame} {meth : Method} {c : Code} {Q : State → Prop} {X : CX} {b sb L : Nat} {xs : Nat → Int32} (C0 : LC p l s m meth c X b sb L xs) {d0 : Drawn} (hd0 : s.drawn.sameBut d0 lw_cs) {k : Nat} (hk : 4 * k + 4 ≤ L) {nb np : Nat} {g : S2} {w : Int64} {H : Heap} {locs : List Loc} {ls : Array Slot} (I : Inv nb np g) (hW : wd X b g w H) (hS : va_S (AA b) s.heap H locs) (hl : lv_has ls 9 (LV b sb k)) (kk : ∀ (d1 : Drawn) (nb np : Nat) (g : S2) (w : Int64) (H : Heap) (locs : List Loc) (ls : Array Slot), s.drawn.sameBut d1 lw_cs → Inv nb np g → wd X b g w H → va_S (AA b) s.heap H locs → lv_has ls 9 (LV b sb k) → W p l e room_1 (s.setDrawn d1) m #[Value.ref sb] below meth c H locs (174 + 446 * (k + 1)) (2027 + 3016 * (k + 1)) Q (F0 m 1082 ls [])) : W p l e room_1 (s.setDrawn d0) m #[Value.ref sb] below meth c H locs (174 + 446 * k) (2027 + 3016 * k) Q (F0 m 252 ls []) := by
  have hx := C0.hx
  have hb := C0.hb
  have hL := C0.hL
  have hml := C0.hml
  have hst := C0.hst
  have hts := dr_words C0.hts d0
  have hown : (s.setDrawn d0).vm.findClass RL = some m.cls := C0.hown
  have hK : KK X (s.setDrawn d0) := C0.hK.dr d0
  have hT : KT b (s.setDrawn d0) (s.setDrawn d0).heap := C0.hT.dr d0
  have hkL : k < 512 := by omega
  have h := I.1.1.2.2.1.1
  obtain ⟨a1, ha1⟩ : ∃ z, z = xs (4 * k + 1) := ⟨_, rfl⟩
  obtain ⟨a2, ha2⟩ : ∃ z, z = xs (4 * k + 2) := ⟨_, rfl⟩
  refine lv_aload_n hx hb dL_law_252 rfl (lv_at hl 1 rfl) ?_
  refine lv_aload_n hx hb dL_law_253 rfl (lv_at hl 0 rfl) ?_
  refine lv_iload hx hb dL_law_254 (lv_at hl 4 rfl) ?_
  refine lv_iconst (v := 1) hx hb dL_law_256 (by decide) ?_
  refine l_sld (j := 1) C0 d0 hS (by omega) rfl dL_law_257 dL_law_258 ?_
  rw [← ha1]
  refine lv_aload_n hx hb dL_law_259 rfl (lv_at hl 0 rfl) ?_
  refine lv_iload hx hb dL_law_260 (lv_at hl 4 rfl) ?_
  refine lv_iconst (v := 2) hx hb dL_law_262 (by decide) ?_
  refine l_sld (j := 2) C0 d0 hS (by omega) rfl dL_law_263 dL_law_264 ?_
  rw [← ha2]
  refine lv_aload_n hx hb dL_law_265 rfl (lv_at hl 3 rfl) ?_
  refine va_calli (c_SW (As := [.ref (b + 0), .int a1, .int a2, .ref (b + 173)]) (rest := []) ⟨hx, hb, hml, hown, hts⟩ (metL_start l hst X b w g h a1 a2) hK hT hS hW q_334 q_335 q_0 q_336 (n := 4) (by decide +kernel) ⟨Nat.le_of_ble_eq_true rfl, Nat.le_of_ble_eq_true rfl, rfl, rfl⟩ rfl dL_law_266 rfl hl.1 (Nat.le_of_ble_eq_true rfl) ⟨by show 174 + 446 * k + 1 ≤ 614152; omega, by show 2027 + 3016 * k + 6 ≤ 7253648; omega⟩) hS (fun _ _ h => h) (fun _ h => h) (fun kv u t H locs ht hvm hp hW hz hk1 hS => ?_)
  obtain ⟨g1, w1⟩ := u
  obtain ⟨r, hC, hkv, hw1, h4⟩ := hp
  replace hW : wd X b g1 w1 H := ht ▸ hW
  replace hC : CP g (er_start (g 1 3) a1 a2) (fun r g1 => r = nI nb ∧ g1 = f_addBus g 1 nb a1 a2) r g1 := hC
  obtain ⟨er, her⟩ : ∃ z, z = (er_start (g 1 3) a1 a2) := ⟨_, rfl⟩
  rw [← her] at hkv hw1 h4
  replace hw1 : er = 0 → w1 = lo0 r := hw1
  subst hkv
  refine lv_istore (lv' := [(5, .int (nI er)), (0, .ref sb), (1, .ref (b + 0)), (2, .ref (b + 141)), (3, .ref (b + 173)), (4, .int (nI (4 * k)))]) hx hb dL_law_269 hl (by decide) rfl (fun ls hl => ?_)
  refine lv_aload_n hx hb dL_law_271 rfl (lv_at hl 3 rfl) ?_
  refine lv_aload_n hx hb dL_law_272 rfl (lv_at hl 1 rfl) ?_
  refine lv_iload hx hb dL_law_273 (lv_at hl 5 rfl) ?_
  refine lv_iconst (v := 1) hx hb dL_law_275 (by decide) ?_
  refine l_sld (j := 1) C0 d0 hS (by omega) rfl dL_law_276 dL_law_277 ?_
  rw [← ha1]
  refine lv_aload_n hx hb dL_law_278 rfl (lv_at hl 1 rfl) ?_
  refine lv_iload hx hb dL_law_279 (lv_at hl 5 rfl) ?_
  refine lv_iconst (v := 2) hx hb dL_law_281 (by decide) ?_
  refine l_sld (j := 2) C0 d0 hS (by omega) rfl dL_law_282 dL_law_283 ?_
  rw [← ha2]
  have hOk := cd_okr I (cd_start I hC)
  refine k_i (c_V0 (i := 141) (As := [.int a1, .int a2]) (rest := []) ⟨hx, hb, hml, hown, hts⟩ (metX6_start l X b w1 g1 hOk a1 a2) hK hW (by decide) Ent_M rfl q_655 q_656 q_657 q_6 q_658 hX6_start ⟨Nat.le_of_ble_eq_true rfl, Nat.le_of_ble_eq_true rfl, rfl, rfl⟩ rfl dL_law_284 rfl hl.1 (Nat.le_of_ble_eq_true rfl) ⟨by show 174 + 446 * k + 1 + 0 ≤ 614152; omega, by show 2027 + 3016 * k + 6 + 0 ≤ 7253648; omega⟩) hS (fun r' g2 H locs hp hW hS => ?_)
  obtain ⟨hth, hans, nb1, np1, I1⟩ := ca_start I hC hp
  rw [← her] at hth hans
  refine lv_istore (lv' := [(6, .int r'), (5, .int (nI er)), (0, .ref sb), (1, .ref (b + 0)), (2, .ref (b + 141)), (3, .ref (b + 173)), (4, .int (nI (4 * k)))]) hx hb dL_law_287 hl (by decide) rfl (fun ls hl => ?_)
  refine lv_aload_n hx hb dL_law_289 rfl (lv_at hl 4 rfl) ?_
  refine k_R (c_V0 (i := 141) (As := []) (rest := []) ⟨hx, hb, hml, hown, hts⟩ (metX6_thrown l X b w1 g2) hK hW (by decide) Ent_M rfl q_633 q_634 q_635 q_6 q_636 hX6_thrown ⟨Nat.le_of_ble_eq_true rfl, Nat.le_of_ble_eq_true rfl, rfl, rfl⟩ rfl dL_law_290 rfl hl.1 (Nat.le_of_ble_eq_true rfl) ⟨by show 174 + 446 * k + 1 + 0 + 0 ≤ 614152; omega, by show 2027 + 3016 * k + 6 + 0 + 0 ≤ 7253648; omega⟩) ?_
  refine w_top hth ?_
  refine lv_iload hx hb dL_law_293 (lv_at hl 1 rfl) ?_
  refine lv_icmp_eq (tgt := 300) hx hb dL_law_295 (by decide) (fun _ => ?_) (fun c_1 => absurd rfl c_1)
  refine lv_iload hx hb dL_law_300 (lv_at hl 1 rfl) ?_
  have fin : ∀ ls, lv_has ls 9 [(6, .int r'), (5, .int (nI er)), (0, .ref sb), (1, .ref (b + 0)), (2, .ref (b + 141)), (3, .ref (b + 173)), (4, .int (nI (4 * k)))] → W p l e room_1 (s.setDrawn d0) m #[Value.ref sb] below meth c H locs (174 + 446 * k + 1 + 0) (2027 + 3016 * k + 6 + 0) Q (F0 m 317 ls []) := by
    intro ls hl
    refine lv_goto (tgt := 1082) hx hb dL_law_317 (by decide) ?_
    refine W.widen (k := 174 + 446 * (k + 1)) (n := 2027 + 3016 * (k + 1)) (by omega) (by omega) ?_
    exact kk d0 nb1 np1 g2 w1 H locs ls hd0 I1 hW hS (lv_sub hl [2, 3, 4, 5, 6] rfl)
  refine lv_if_ne (tgt := 317) hx hb dL_law_302 (by decide) (fun _ => fin ls hl) (fun c_1 => ?_)
  have e0 : er = 0 := (nI_z0 (by omega)).mp c_1
  refine lv_aload_n hx hb dL_law_305 rfl (lv_at hl 5 rfl) ?_
  refine lv_iconst (v := 0) hx hb dL_law_306 (by decide) ?_
  refine w_lald hx hb hK hW dL_law_307 ?_
  refine lv_iload hx hb dL_law_308 (lv_at hl 0 rfl) ?_
  refine lv_i2l (v := r'.toInt64) hx hb dL_law_310 rfl ?_
  refine W.lcmp hx hb dL_law_311 ?_
  refine w_top (y := 0) (by rw [hw1 e0, hans e0, show lo0 r' = r'.toInt64 from rfl]; exact lg_self) ?_
  refine lv_if_eq (tgt := 317) hx hb dL_law_312 (by decide) (fun _ => fin ls hl) (fun c_1 => absurd rfl c_1)

set_option maxHeartbeats 1000000 in
set_option maxRecDepth 100000 in
theorem law_queue {p : Program} {l : Launch} {e : Env} {s : State} {m : MethodId} {below : List Frame} {meth : Method} {c : Code} {Q : State → Prop} {X : CX} {b sb L : Nat} {xs : Nat → Int32} (C0 : LC p l s m meth c X b sb L xs) {d0 : Drawn} (hd0 : s.drawn.sameBut d0 lw_cs) {k : Nat} (hk : 4 * k + 4 ≤ L) {nb np : Nat} {g : S2} {w : Int64} {H : Heap} {locs : List Loc} {ls : Array Slot} (I : Inv nb np g) (hW : wd X b g w H) (hS : va_S (AA b) s.heap H locs) (hl : lv_has ls 9 (LV b sb k)) (kk : ∀ (d1 : Drawn) (nb np : Nat) (g : S2) (w : Int64) (H : Heap) (locs : List Loc) (ls : Array Slot), s.drawn.sameBut d1 lw_cs → Inv nb np g → wd X b g w H → va_S (AA b) s.heap H locs → lv_has ls 9 (LV b sb k) → W p l e room_1 (s.setDrawn d1) m #[Value.ref sb] below meth c H locs (174 + 446 * (k + 1)) (2027 + 3016 * (k + 1)) Q (F0 m 1082 ls [])) : W p l e room_1 (s.setDrawn d0) m #[Value.ref sb] below meth c H locs (174 + 446 * k) (2027 + 3016 * k) Q (F0 m 320 ls []) := by
  have hx := C0.hx
  have hb := C0.hb
  have hL := C0.hL
  have hml := C0.hml
  have hst := C0.hst
  have hts := dr_words C0.hts d0
  have hown : (s.setDrawn d0).vm.findClass RL = some m.cls := C0.hown
  have hK : KK X (s.setDrawn d0) := C0.hK.dr d0
  have hT : KT b (s.setDrawn d0) (s.setDrawn d0).heap := C0.hT.dr d0
  have hkL : k < 512 := by omega
  have h := I.1.1.2.2.1.1
  obtain ⟨a1, ha1⟩ : ∃ z, z = xs (4 * k + 1) := ⟨_, rfl⟩
  obtain ⟨a2, ha2⟩ : ∃ z, z = xs (4 * k + 2) := ⟨_, rfl⟩
  refine lv_aload_n hx hb dL_law_320 rfl (lv_at hl 1 rfl) ?_
  refine lv_aload_n hx hb dL_law_321 rfl (lv_at hl 0 rfl) ?_
  refine lv_iload hx hb dL_law_322 (lv_at hl 4 rfl) ?_
  refine lv_iconst (v := 1) hx hb dL_law_324 (by decide) ?_
  refine l_sld (j := 1) C0 d0 hS (by omega) rfl dL_law_325 dL_law_326 ?_
  rw [← ha1]
  refine lv_aload_n hx hb dL_law_327 rfl (lv_at hl 0 rfl) ?_
  refine lv_iload hx hb dL_law_328 (lv_at hl 4 rfl) ?_
  refine lv_iconst (v := 2) hx hb dL_law_330 (by decide) ?_
  refine l_sld (j := 2) C0 d0 hS (by omega) rfl dL_law_331 dL_law_332 ?_
  rw [← ha2]
  refine lv_aload_n hx hb dL_law_333 rfl (lv_at hl 3 rfl) ?_
  refine va_calli (c_SW (As := [.ref (b + 0), .int a1, .int a2, .ref (b + 173)]) (rest := []) ⟨hx, hb, hml, hown, hts⟩ (metL_queue l hst X b w g h a1 a2) hK hT hS hW q_363 q_364 q_0 q_365 (n := 4) (by decide +kernel) ⟨Nat.le_of_ble_eq_true rfl, Nat.le_of_ble_eq_true rfl, rfl, rfl⟩ rfl dL_law_334 rfl hl.1 (Nat.le_of_ble_eq_true rfl) ⟨by show 174 + 446 * k + 1 ≤ 614152; omega, by show 2027 + 3016 * k + 6 ≤ 7253648; omega⟩) hS (fun _ _ h => h) (fun _ h => h) (fun kv u t H locs ht hvm hp hW hz hk1 hS => ?_)
  obtain ⟨g1, w1⟩ := u
  obtain ⟨r, hC, hkv, hw1, h4⟩ := hp
  replace hW : wd X b g1 w1 H := ht ▸ hW
  replace hC : CP g (er_queue (g 1 4) a1 a2) (fun r g1 => r = nI np ∧ g1 = f_addPas g 1 np a1 a2) r g1 := hC
  obtain ⟨er, her⟩ : ∃ z, z = (er_queue (g 1 4) a1 a2) := ⟨_, rfl⟩
  rw [← her] at hkv hw1 h4
  replace hw1 : er = 0 → w1 = lo0 r := hw1
  subst hkv
  refine lv_istore (lv' := [(5, .int (nI er)), (0, .ref sb), (1, .ref (b + 0)), (2, .ref (b + 141)), (3, .ref (b + 173)), (4, .int (nI (4 * k)))]) hx hb dL_law_337 hl (by decide) rfl (fun ls hl => ?_)
  refine lv_aload_n hx hb dL_law_339 rfl (lv_at hl 3 rfl) ?_
  refine lv_aload_n hx hb dL_law_340 rfl (lv_at hl 1 rfl) ?_
  refine lv_iload hx hb dL_law_341 (lv_at hl 5 rfl) ?_
  refine lv_iconst (v := 1) hx hb dL_law_343 (by decide) ?_
  refine l_sld (j := 1) C0 d0 hS (by omega) rfl dL_law_344 dL_law_345 ?_
  rw [← ha1]
  refine lv_aload_n hx hb dL_law_346 rfl (lv_at hl 1 rfl) ?_
  refine lv_iload hx hb dL_law_347 (lv_at hl 5 rfl) ?_
  refine lv_iconst (v := 2) hx hb dL_law_349 (by decide) ?_
  refine l_sld (j := 2) C0 d0 hS (by omega) rfl dL_law_350 dL_law_351 ?_
  rw [← ha2]
  have hOk := cd_okr I (cd_queue I hC)
  refine k_i (c_V0 (i := 141) (As := [.int a1, .int a2]) (rest := []) ⟨hx, hb, hml, hown, hts⟩ (metX6_queue l X b w1 g1 hOk a1 a2) hK hW (by decide) Ent_M rfl q_659 q_660 q_661 q_6 q_662 hX6_queue ⟨Nat.le_of_ble_eq_true rfl, Nat.le_of_ble_eq_true rfl, rfl, rfl⟩ rfl dL_law_352 rfl hl.1 (Nat.le_of_ble_eq_true rfl) ⟨by show 174 + 446 * k + 1 + 0 ≤ 614152; omega, by show 2027 + 3016 * k + 6 + 0 ≤ 7253648; omega⟩) hS (fun r' g2 H locs hp hW hS => ?_)
  obtain ⟨hth, hans, nb1, np1, I1⟩ := ca_queue I hC hp
  rw [← her] at hth hans
  refine lv_istore (lv' := [(6, .int r'), (5, .int (nI er)), (0, .ref sb), (1, .ref (b + 0)), (2, .ref (b + 141)), (3, .ref (b + 173)), (4, .int (nI (4 * k)))]) hx hb dL_law_355 hl (by decide) rfl (fun ls hl => ?_)
  refine lv_aload_n hx hb dL_law_357 rfl (lv_at hl 4 rfl) ?_
  refine k_R (c_V0 (i := 141) (As := []) (rest := []) ⟨hx, hb, hml, hown, hts⟩ (metX6_thrown l X b w1 g2) hK hW (by decide) Ent_M rfl q_633 q_634 q_635 q_6 q_636 hX6_thrown ⟨Nat.le_of_ble_eq_true rfl, Nat.le_of_ble_eq_true rfl, rfl, rfl⟩ rfl dL_law_358 rfl hl.1 (Nat.le_of_ble_eq_true rfl) ⟨by show 174 + 446 * k + 1 + 0 + 0 ≤ 614152; omega, by show 2027 + 3016 * k + 6 + 0 + 0 ≤ 7253648; omega⟩) ?_
  refine w_top hth ?_
  refine lv_iload hx hb dL_law_361 (lv_at hl 1 rfl) ?_
  refine lv_icmp_eq (tgt := 368) hx hb dL_law_363 (by decide) (fun _ => ?_) (fun c_1 => absurd rfl c_1)
  refine lv_iload hx hb dL_law_368 (lv_at hl 1 rfl) ?_
  have fin : ∀ ls, lv_has ls 9 [(6, .int r'), (5, .int (nI er)), (0, .ref sb), (1, .ref (b + 0)), (2, .ref (b + 141)), (3, .ref (b + 173)), (4, .int (nI (4 * k)))] → W p l e room_1 (s.setDrawn d0) m #[Value.ref sb] below meth c H locs (174 + 446 * k + 1 + 0) (2027 + 3016 * k + 6 + 0) Q (F0 m 385 ls []) := by
    intro ls hl
    refine lv_goto (tgt := 1082) hx hb dL_law_385 (by decide) ?_
    refine W.widen (k := 174 + 446 * (k + 1)) (n := 2027 + 3016 * (k + 1)) (by omega) (by omega) ?_
    exact kk d0 nb1 np1 g2 w1 H locs ls hd0 I1 hW hS (lv_sub hl [2, 3, 4, 5, 6] rfl)
  refine lv_if_ne (tgt := 385) hx hb dL_law_370 (by decide) (fun _ => fin ls hl) (fun c_1 => ?_)
  have e0 : er = 0 := (nI_z0 (by omega)).mp c_1
  refine lv_aload_n hx hb dL_law_373 rfl (lv_at hl 5 rfl) ?_
  refine lv_iconst (v := 0) hx hb dL_law_374 (by decide) ?_
  refine w_lald hx hb hK hW dL_law_375 ?_
  refine lv_iload hx hb dL_law_376 (lv_at hl 0 rfl) ?_
  refine lv_i2l (v := r'.toInt64) hx hb dL_law_378 rfl ?_
  refine W.lcmp hx hb dL_law_379 ?_
  refine w_top (y := 0) (by rw [hw1 e0, hans e0, show lo0 r' = r'.toInt64 from rfl]; exact lg_self) ?_
  refine lv_if_eq (tgt := 385) hx hb dL_law_380 (by decide) (fun _ => fin ls hl) (fun c_1 => absurd rfl c_1)

set_option maxHeartbeats 1000000 in
set_option maxRecDepth 100000 in
theorem law_change {p : Program} {l : Launch} {e : Env} {s : State} {m : MethodId} {below : List Frame} {meth : Method} {c : Code} {Q : State → Prop} {X : CX} {b sb L : Nat} {xs : Nat → Int32} (C0 : LC p l s m meth c X b sb L xs) {d0 : Drawn} (hd0 : s.drawn.sameBut d0 lw_cs) {k : Nat} (hk : 4 * k + 4 ≤ L) {nb np : Nat} {g : S2} {w : Int64} {H : Heap} {locs : List Loc} {ls : Array Slot} (I : Inv nb np g) (hW : wd X b g w H) (hS : va_S (AA b) s.heap H locs) (hl : lv_has ls 9 (LV b sb k)) (kk : ∀ (d1 : Drawn) (nb np : Nat) (g : S2) (w : Int64) (H : Heap) (locs : List Loc) (ls : Array Slot), s.drawn.sameBut d1 lw_cs → Inv nb np g → wd X b g w H → va_S (AA b) s.heap H locs → lv_has ls 9 (LV b sb k) → W p l e room_1 (s.setDrawn d1) m #[Value.ref sb] below meth c H locs (174 + 446 * (k + 1)) (2027 + 3016 * (k + 1)) Q (F0 m 1082 ls [])) : W p l e room_1 (s.setDrawn d0) m #[Value.ref sb] below meth c H locs (174 + 446 * k) (2027 + 3016 * k) Q (F0 m 388 ls []) := by
  have hx := C0.hx
  have hb := C0.hb
  have hL := C0.hL
  have hml := C0.hml
  have hst := C0.hst
  have hts := dr_words C0.hts d0
  have hown : (s.setDrawn d0).vm.findClass RL = some m.cls := C0.hown
  have hK : KK X (s.setDrawn d0) := C0.hK.dr d0
  have hT : KT b (s.setDrawn d0) (s.setDrawn d0).heap := C0.hT.dr d0
  have hkL : k < 512 := by omega
  have h := I.1.1.2.2.1.1
  obtain ⟨a1, ha1⟩ : ∃ z, z = xs (4 * k + 1) := ⟨_, rfl⟩
  obtain ⟨a2, ha2⟩ : ∃ z, z = xs (4 * k + 2) := ⟨_, rfl⟩
  refine lv_aload_n hx hb dL_law_388 rfl (lv_at hl 1 rfl) ?_
  refine lv_aload_n hx hb dL_law_389 rfl (lv_at hl 0 rfl) ?_
  refine lv_iload hx hb dL_law_390 (lv_at hl 4 rfl) ?_
  refine lv_iconst (v := 1) hx hb dL_law_392 (by decide) ?_
  refine l_sld (j := 1) C0 d0 hS (by omega) rfl dL_law_393 dL_law_394 ?_
  rw [← ha1]
  refine lv_aload_n hx hb dL_law_395 rfl (lv_at hl 0 rfl) ?_
  refine lv_iload hx hb dL_law_396 (lv_at hl 4 rfl) ?_
  refine lv_iconst (v := 2) hx hb dL_law_398 (by decide) ?_
  refine l_sld (j := 2) C0 d0 hS (by omega) rfl dL_law_399 dL_law_400 ?_
  rw [← ha2]
  refine lv_aload_n hx hb dL_law_401 rfl (lv_at hl 3 rfl) ?_
  refine va_calli (c_SW (As := [.ref (b + 0), .int a1, .int a2, .ref (b + 173)]) (rest := []) ⟨hx, hb, hml, hown, hts⟩ (metL_change l hst X b w g h a1 a2) hK hT hS hW q_376 q_377 q_0 q_378 (n := 4) (by decide +kernel) ⟨Nat.le_of_ble_eq_true rfl, Nat.le_of_ble_eq_true rfl, rfl, rfl⟩ rfl dL_law_402 rfl hl.1 (Nat.le_of_ble_eq_true rfl) ⟨by show 174 + 446 * k + 1 ≤ 614152; omega, by show 2027 + 3016 * k + 6 ≤ 7253648; omega⟩) hS (fun _ _ h => h) (fun _ h => h) (fun kv u t H locs ht hvm hp hW hz hk1 hS => ?_)
  obtain ⟨g1, w1⟩ := u
  obtain ⟨r, hC, hkv, hw1, h4⟩ := hp
  replace hW : wd X b g1 w1 H := ht ▸ hW
  replace hC : CP g (er_change (g 1 4) (g (1 + 20 + cl a1) 0) (g (1 + 20 + cl a1) 1) a1 a2) (fun r g1 => r = f_again g (1 + 20 + cl a1) a2 (g 1 5) (1 + 20 + cl a1) 7 ∧ g1 = f_again g (1 + 20 + cl a1) a2 (g 1 5)) r g1 := hC
  obtain ⟨er, her⟩ : ∃ z, z = (er_change (g 1 4) (g (1 + 20 + cl a1) 0) (g (1 + 20 + cl a1) 1) a1 a2) := ⟨_, rfl⟩
  rw [← her] at hkv hw1 h4
  replace hw1 : er = 0 → w1 = lo1 r := hw1
  subst hkv
  refine lv_istore (lv' := [(5, .int (nI er)), (0, .ref sb), (1, .ref (b + 0)), (2, .ref (b + 141)), (3, .ref (b + 173)), (4, .int (nI (4 * k)))]) hx hb dL_law_405 hl (by decide) rfl (fun ls hl => ?_)
  refine lv_aload_n hx hb dL_law_407 rfl (lv_at hl 3 rfl) ?_
  refine lv_aload_n hx hb dL_law_408 rfl (lv_at hl 1 rfl) ?_
  refine lv_iload hx hb dL_law_409 (lv_at hl 5 rfl) ?_
  refine lv_iconst (v := 1) hx hb dL_law_411 (by decide) ?_
  refine l_sld (j := 1) C0 d0 hS (by omega) rfl dL_law_412 dL_law_413 ?_
  rw [← ha1]
  refine lv_aload_n hx hb dL_law_414 rfl (lv_at hl 1 rfl) ?_
  refine lv_iload hx hb dL_law_415 (lv_at hl 5 rfl) ?_
  refine lv_iconst (v := 2) hx hb dL_law_417 (by decide) ?_
  refine l_sld (j := 2) C0 d0 hS (by omega) rfl dL_law_418 dL_law_419 ?_
  rw [← ha2]
  have hOk := cd_okr I (cd_change I hC)
  refine k_i (c_V0 (i := 141) (As := [.int a1, .int a2]) (rest := []) ⟨hx, hb, hml, hown, hts⟩ (metX6_change l X b w1 g1 hOk a1 a2) hK hW (by decide) Ent_M rfl q_663 q_664 q_665 q_6 q_666 hX6_change ⟨Nat.le_of_ble_eq_true rfl, Nat.le_of_ble_eq_true rfl, rfl, rfl⟩ rfl dL_law_420 rfl hl.1 (Nat.le_of_ble_eq_true rfl) ⟨by show 174 + 446 * k + 1 + 0 ≤ 614152; omega, by show 2027 + 3016 * k + 6 + 0 ≤ 7253648; omega⟩) hS (fun r' g2 H locs hp hW hS => ?_)
  obtain ⟨hth, hans, nb1, np1, I1⟩ := ca_change I hC hp
  rw [← her] at hth hans
  refine lv_istore (lv' := [(6, .int r'), (5, .int (nI er)), (0, .ref sb), (1, .ref (b + 0)), (2, .ref (b + 141)), (3, .ref (b + 173)), (4, .int (nI (4 * k)))]) hx hb dL_law_423 hl (by decide) rfl (fun ls hl => ?_)
  refine lv_aload_n hx hb dL_law_425 rfl (lv_at hl 4 rfl) ?_
  refine k_R (c_V0 (i := 141) (As := []) (rest := []) ⟨hx, hb, hml, hown, hts⟩ (metX6_thrown l X b w1 g2) hK hW (by decide) Ent_M rfl q_633 q_634 q_635 q_6 q_636 hX6_thrown ⟨Nat.le_of_ble_eq_true rfl, Nat.le_of_ble_eq_true rfl, rfl, rfl⟩ rfl dL_law_426 rfl hl.1 (Nat.le_of_ble_eq_true rfl) ⟨by show 174 + 446 * k + 1 + 0 + 0 ≤ 614152; omega, by show 2027 + 3016 * k + 6 + 0 + 0 ≤ 7253648; omega⟩) ?_
  refine w_top hth ?_
  refine lv_iload hx hb dL_law_429 (lv_at hl 1 rfl) ?_
  refine lv_icmp_eq (tgt := 436) hx hb dL_law_431 (by decide) (fun _ => ?_) (fun c_1 => absurd rfl c_1)
  refine lv_iload hx hb dL_law_436 (lv_at hl 1 rfl) ?_
  have fin : ∀ ls, lv_has ls 9 [(6, .int r'), (5, .int (nI er)), (0, .ref sb), (1, .ref (b + 0)), (2, .ref (b + 141)), (3, .ref (b + 173)), (4, .int (nI (4 * k)))] → W p l e room_1 (s.setDrawn d0) m #[Value.ref sb] below meth c H locs (174 + 446 * k + 1 + 0) (2027 + 3016 * k + 6 + 0) Q (F0 m 460 ls []) := by
    intro ls hl
    refine lv_goto (tgt := 1082) hx hb dL_law_460 (by decide) ?_
    refine W.widen (k := 174 + 446 * (k + 1)) (n := 2027 + 3016 * (k + 1)) (by omega) (by omega) ?_
    exact kk d0 nb1 np1 g2 w1 H locs ls hd0 I1 hW hS (lv_sub hl [2, 3, 4, 5, 6] rfl)
  refine lv_if_ne (tgt := 460) hx hb dL_law_438 (by decide) (fun _ => fin ls hl) (fun c_1 => ?_)
  have e0 : er = 0 := (nI_z0 (by omega)).mp c_1
  refine lv_aload_n hx hb dL_law_441 rfl (lv_at hl 5 rfl) ?_
  refine lv_iconst (v := 0) hx hb dL_law_442 (by decide) ?_
  refine w_lald hx hb hK hW dL_law_443 ?_
  refine lv_iload hx hb dL_law_444 (lv_at hl 0 rfl) ?_
  refine lv_if_eq (tgt := 453) hx hb dL_law_446 (by decide) (fun c_2 => ?_) (fun c_2 => ?_)
  · refine lv_lconst (v := 0) hx hb dL_law_453 (by decide) ?_
    refine W.lcmp hx hb dL_law_454 ?_
    refine w_top (y := 0) (by rw [hw1 e0, hans e0, show lo1 r' = 0 from if_pos c_2]; exact lg_self) ?_
    refine lv_if_eq (tgt := 460) hx hb dL_law_455 (by decide) (fun _ => fin ls hl) (fun c_1 => absurd rfl c_1)
  · refine lv_lconst (v := 1) hx hb dL_law_449 (by decide) ?_
    refine lv_goto (tgt := 454) hx hb dL_law_450 (by decide) ?_
    refine W.lcmp hx hb dL_law_454 ?_
    refine w_top (y := 0) (by rw [hw1 e0, hans e0, show lo1 r' = 1 from if_neg c_2]; exact lg_self) ?_
    refine lv_if_eq (tgt := 460) hx hb dL_law_455 (by decide) (fun _ => fin ls hl) (fun c_1 => absurd rfl c_1)

set_option maxHeartbeats 1000000 in
set_option maxRecDepth 100000 in
theorem law_fare {p : Program} {l : Launch} {e : Env} {s : State} {m : MethodId} {below : List Frame} {meth : Method} {c : Code} {Q : State → Prop} {X : CX} {b sb L : Nat} {xs : Nat → Int32} (C0 : LC p l s m meth c X b sb L xs) {d0 : Drawn} (hd0 : s.drawn.sameBut d0 lw_cs) {k : Nat} (hk : 4 * k + 4 ≤ L) {nb np : Nat} {g : S2} {w : Int64} {H : Heap} {locs : List Loc} {ls : Array Slot} (I : Inv nb np g) (hW : wd X b g w H) (hS : va_S (AA b) s.heap H locs) (hl : lv_has ls 9 (LV b sb k)) (kk : ∀ (d1 : Drawn) (nb np : Nat) (g : S2) (w : Int64) (H : Heap) (locs : List Loc) (ls : Array Slot), s.drawn.sameBut d1 lw_cs → Inv nb np g → wd X b g w H → va_S (AA b) s.heap H locs → lv_has ls 9 (LV b sb k) → W p l e room_1 (s.setDrawn d1) m #[Value.ref sb] below meth c H locs (174 + 446 * (k + 1)) (2027 + 3016 * (k + 1)) Q (F0 m 1082 ls [])) : W p l e room_1 (s.setDrawn d0) m #[Value.ref sb] below meth c H locs (174 + 446 * k) (2027 + 3016 * k) Q (F0 m 463 ls []) := by
  have hx := C0.hx
  have hb := C0.hb
  have hL := C0.hL
  have hml := C0.hml
  have hst := C0.hst
  have hts := dr_words C0.hts d0
  have hown : (s.setDrawn d0).vm.findClass RL = some m.cls := C0.hown
  have hK : KK X (s.setDrawn d0) := C0.hK.dr d0
  have hT : KT b (s.setDrawn d0) (s.setDrawn d0).heap := C0.hT.dr d0
  have hkL : k < 512 := by omega
  have h := I.1.1.2.2.1.1
  obtain ⟨a1, ha1⟩ : ∃ z, z = xs (4 * k + 1) := ⟨_, rfl⟩
  obtain ⟨a2, ha2⟩ : ∃ z, z = xs (4 * k + 2) := ⟨_, rfl⟩
  refine lv_aload_n hx hb dL_law_463 rfl (lv_at hl 1 rfl) ?_
  refine lv_aload_n hx hb dL_law_464 rfl (lv_at hl 0 rfl) ?_
  refine lv_iload hx hb dL_law_465 (lv_at hl 4 rfl) ?_
  refine lv_iconst (v := 1) hx hb dL_law_467 (by decide) ?_
  refine l_sld (j := 1) C0 d0 hS (by omega) rfl dL_law_468 dL_law_469 ?_
  rw [← ha1]
  refine lv_aload_n hx hb dL_law_470 rfl (lv_at hl 0 rfl) ?_
  refine lv_iload hx hb dL_law_471 (lv_at hl 4 rfl) ?_
  refine lv_iconst (v := 2) hx hb dL_law_473 (by decide) ?_
  refine l_sld (j := 2) C0 d0 hS (by omega) rfl dL_law_474 dL_law_475 ?_
  rw [← ha2]
  refine lv_aload_n hx hb dL_law_476 rfl (lv_at hl 3 rfl) ?_
  refine va_calli (c_SW (As := [.ref (b + 0), .int a1, .int a2, .ref (b + 173)]) (rest := []) ⟨hx, hb, hml, hown, hts⟩ (metL_fare l hst X b w g h a1 a2) hK hT hS hW q_393 q_394 q_0 q_395 (n := 4) (by decide +kernel) ⟨Nat.le_of_ble_eq_true rfl, Nat.le_of_ble_eq_true rfl, rfl, rfl⟩ rfl dL_law_477 rfl hl.1 (Nat.le_of_ble_eq_true rfl) ⟨by show 174 + 446 * k + 1 ≤ 614152; omega, by show 2027 + 3016 * k + 6 ≤ 7253648; omega⟩) hS (fun _ _ h => h) (fun _ h => h) (fun kv u t H locs ht hvm hp hW hz hk1 hS => ?_)
  obtain ⟨g1, w1⟩ := u
  obtain ⟨r, hC, hkv, hw1, h4⟩ := hp
  replace hW : wd X b g1 w1 H := ht ▸ hW
  replace hC : CP g (er_2 9 9 a1 a2) (fun r g1 => r = f_fareI (stg g 1) a1 a2 ∧ g1 = g) r g1 := hC
  obtain ⟨er, her⟩ : ∃ z, z = (er_2 9 9 a1 a2) := ⟨_, rfl⟩
  rw [← her] at hkv hw1 h4
  replace hw1 : er = 0 → w1 = lo0 r := hw1
  subst hkv
  refine lv_istore (lv' := [(5, .int (nI er)), (0, .ref sb), (1, .ref (b + 0)), (2, .ref (b + 141)), (3, .ref (b + 173)), (4, .int (nI (4 * k)))]) hx hb dL_law_480 hl (by decide) rfl (fun ls hl => ?_)
  refine lv_aload_n hx hb dL_law_482 rfl (lv_at hl 3 rfl) ?_
  refine lv_aload_n hx hb dL_law_483 rfl (lv_at hl 1 rfl) ?_
  refine lv_iload hx hb dL_law_484 (lv_at hl 5 rfl) ?_
  refine lv_iconst (v := 1) hx hb dL_law_486 (by decide) ?_
  refine l_sld (j := 1) C0 d0 hS (by omega) rfl dL_law_487 dL_law_488 ?_
  rw [← ha1]
  refine lv_aload_n hx hb dL_law_489 rfl (lv_at hl 1 rfl) ?_
  refine lv_iload hx hb dL_law_490 (lv_at hl 5 rfl) ?_
  refine lv_iconst (v := 2) hx hb dL_law_492 (by decide) ?_
  refine l_sld (j := 2) C0 d0 hS (by omega) rfl dL_law_493 dL_law_494 ?_
  rw [← ha2]
  have hOk := cd_okr I (cd_fare I hC)
  refine k_i (c_V0 (i := 141) (As := [.int a1, .int a2]) (rest := []) ⟨hx, hb, hml, hown, hts⟩ (metX6_fare l X b w1 g1 hOk a1 a2) hK hW (by decide) Ent_M rfl q_671 q_672 q_673 q_6 q_674 hX6_fare ⟨Nat.le_of_ble_eq_true rfl, Nat.le_of_ble_eq_true rfl, rfl, rfl⟩ rfl dL_law_495 rfl hl.1 (Nat.le_of_ble_eq_true rfl) ⟨by show 174 + 446 * k + 1 + 0 ≤ 614152; omega, by show 2027 + 3016 * k + 6 + 0 ≤ 7253648; omega⟩) hS (fun r' g2 H locs hp hW hS => ?_)
  obtain ⟨hth, hans, nb1, np1, I1⟩ := ca_fare I hC hp
  rw [← her] at hth hans
  refine lv_istore (lv' := [(6, .int r'), (5, .int (nI er)), (0, .ref sb), (1, .ref (b + 0)), (2, .ref (b + 141)), (3, .ref (b + 173)), (4, .int (nI (4 * k)))]) hx hb dL_law_498 hl (by decide) rfl (fun ls hl => ?_)
  refine lv_aload_n hx hb dL_law_500 rfl (lv_at hl 4 rfl) ?_
  refine k_R (c_V0 (i := 141) (As := []) (rest := []) ⟨hx, hb, hml, hown, hts⟩ (metX6_thrown l X b w1 g2) hK hW (by decide) Ent_M rfl q_633 q_634 q_635 q_6 q_636 hX6_thrown ⟨Nat.le_of_ble_eq_true rfl, Nat.le_of_ble_eq_true rfl, rfl, rfl⟩ rfl dL_law_501 rfl hl.1 (Nat.le_of_ble_eq_true rfl) ⟨by show 174 + 446 * k + 1 + 0 + 0 ≤ 614152; omega, by show 2027 + 3016 * k + 6 + 0 + 0 ≤ 7253648; omega⟩) ?_
  refine w_top hth ?_
  refine lv_iload hx hb dL_law_504 (lv_at hl 1 rfl) ?_
  refine lv_icmp_eq (tgt := 511) hx hb dL_law_506 (by decide) (fun _ => ?_) (fun c_1 => absurd rfl c_1)
  refine lv_iload hx hb dL_law_511 (lv_at hl 1 rfl) ?_
  have fin : ∀ ls, lv_has ls 9 [(6, .int r'), (5, .int (nI er)), (0, .ref sb), (1, .ref (b + 0)), (2, .ref (b + 141)), (3, .ref (b + 173)), (4, .int (nI (4 * k)))] → W p l e room_1 (s.setDrawn d0) m #[Value.ref sb] below meth c H locs (174 + 446 * k + 1 + 0) (2027 + 3016 * k + 6 + 0) Q (F0 m 528 ls []) := by
    intro ls hl
    refine lv_goto (tgt := 1082) hx hb dL_law_528 (by decide) ?_
    refine W.widen (k := 174 + 446 * (k + 1)) (n := 2027 + 3016 * (k + 1)) (by omega) (by omega) ?_
    exact kk d0 nb1 np1 g2 w1 H locs ls hd0 I1 hW hS (lv_sub hl [2, 3, 4, 5, 6] rfl)
  refine lv_if_ne (tgt := 528) hx hb dL_law_513 (by decide) (fun _ => fin ls hl) (fun c_1 => ?_)
  have e0 : er = 0 := (nI_z0 (by omega)).mp c_1
  refine lv_aload_n hx hb dL_law_516 rfl (lv_at hl 5 rfl) ?_
  refine lv_iconst (v := 0) hx hb dL_law_517 (by decide) ?_
  refine w_lald hx hb hK hW dL_law_518 ?_
  refine lv_iload hx hb dL_law_519 (lv_at hl 0 rfl) ?_
  refine lv_i2l (v := r'.toInt64) hx hb dL_law_521 rfl ?_
  refine W.lcmp hx hb dL_law_522 ?_
  refine w_top (y := 0) (by rw [hw1 e0, hans e0, show lo0 r' = r'.toInt64 from rfl]; exact lg_self) ?_
  refine lv_if_eq (tgt := 528) hx hb dL_law_523 (by decide) (fun _ => fin ls hl) (fun c_1 => absurd rfl c_1)

set_option maxHeartbeats 1000000 in
set_option maxRecDepth 100000 in
theorem law_bus {p : Program} {l : Launch} {e : Env} {s : State} {m : MethodId} {below : List Frame} {meth : Method} {c : Code} {Q : State → Prop} {X : CX} {b sb L : Nat} {xs : Nat → Int32} (C0 : LC p l s m meth c X b sb L xs) {d0 : Drawn} (hd0 : s.drawn.sameBut d0 lw_cs) {k : Nat} (hk : 4 * k + 4 ≤ L) {nb np : Nat} {g : S2} {w : Int64} {H : Heap} {locs : List Loc} {ls : Array Slot} (I : Inv nb np g) (hW : wd X b g w H) (hS : va_S (AA b) s.heap H locs) (hl : lv_has ls 9 (LV b sb k)) (kk : ∀ (d1 : Drawn) (nb np : Nat) (g : S2) (w : Int64) (H : Heap) (locs : List Loc) (ls : Array Slot), s.drawn.sameBut d1 lw_cs → Inv nb np g → wd X b g w H → va_S (AA b) s.heap H locs → lv_has ls 9 (LV b sb k) → W p l e room_1 (s.setDrawn d1) m #[Value.ref sb] below meth c H locs (174 + 446 * (k + 1)) (2027 + 3016 * (k + 1)) Q (F0 m 1082 ls [])) : W p l e room_1 (s.setDrawn d0) m #[Value.ref sb] below meth c H locs (174 + 446 * k) (2027 + 3016 * k) Q (F0 m 531 ls []) := by
  have hx := C0.hx
  have hb := C0.hb
  have hL := C0.hL
  have hml := C0.hml
  have hst := C0.hst
  have hts := dr_words C0.hts d0
  have hown : (s.setDrawn d0).vm.findClass RL = some m.cls := C0.hown
  have hK : KK X (s.setDrawn d0) := C0.hK.dr d0
  have hT : KT b (s.setDrawn d0) (s.setDrawn d0).heap := C0.hT.dr d0
  have hkL : k < 512 := by omega
  have h := I.1.1.2.2.1.1
  obtain ⟨a1, ha1⟩ : ∃ z, z = xs (4 * k + 1) := ⟨_, rfl⟩
  obtain ⟨a2, ha2⟩ : ∃ z, z = xs (4 * k + 2) := ⟨_, rfl⟩
  refine lv_aload_n hx hb dL_law_531 rfl (lv_at hl 1 rfl) ?_
  refine lv_aload_n hx hb dL_law_532 rfl (lv_at hl 0 rfl) ?_
  refine lv_iload hx hb dL_law_533 (lv_at hl 4 rfl) ?_
  refine lv_iconst (v := 1) hx hb dL_law_535 (by decide) ?_
  refine l_sld (j := 1) C0 d0 hS (by omega) rfl dL_law_536 dL_law_537 ?_
  rw [← ha1]
  refine lv_aload_n hx hb dL_law_538 rfl (lv_at hl 0 rfl) ?_
  refine lv_iload hx hb dL_law_539 (lv_at hl 4 rfl) ?_
  refine lv_iconst (v := 2) hx hb dL_law_541 (by decide) ?_
  refine l_sld (j := 2) C0 d0 hS (by omega) rfl dL_law_542 dL_law_543 ?_
  rw [← ha2]
  refine lv_aload_n hx hb dL_law_544 rfl (lv_at hl 3 rfl) ?_
  refine va_calli (c_SW (As := [.ref (b + 0), .int a1, .int a2, .ref (b + 173)]) (rest := []) ⟨hx, hb, hml, hown, hts⟩ (metL_bus l hst X b w g h a1 a2) hK hT hS hW q_404 q_405 q_0 q_406 (n := 4) (by decide +kernel) ⟨Nat.le_of_ble_eq_true rfl, Nat.le_of_ble_eq_true rfl, rfl, rfl⟩ rfl dL_law_545 rfl hl.1 (Nat.le_of_ble_eq_true rfl) ⟨by show 174 + 446 * k + 1 ≤ 614152; omega, by show 2027 + 3016 * k + 6 ≤ 7253648; omega⟩) hS (fun _ _ h => h) (fun _ h => h) (fun kv u t H locs ht hvm hp hW hz hk1 hS => ?_)
  obtain ⟨g1, w1⟩ := u
  obtain ⟨r, hC, hkv, hw1, h4⟩ := hp
  replace hW : wd X b g1 w1 H := ht ▸ hW
  replace hC : CP g (er_2 (g 1 3 - 1) 5 a1 a2) (fun r g1 => r = g (1 + 14 + cl a1) (cl a2 + 1) ∧ g1 = g) r g1 := hC
  obtain ⟨er, her⟩ : ∃ z, z = (er_2 (g 1 3 - 1) 5 a1 a2) := ⟨_, rfl⟩
  rw [← her] at hkv hw1 h4
  replace hw1 : er = 0 → w1 = lo0 r := hw1
  subst hkv
  refine lv_istore (lv' := [(5, .int (nI er)), (0, .ref sb), (1, .ref (b + 0)), (2, .ref (b + 141)), (3, .ref (b + 173)), (4, .int (nI (4 * k)))]) hx hb dL_law_548 hl (by decide) rfl (fun ls hl => ?_)
  refine lv_aload_n hx hb dL_law_550 rfl (lv_at hl 3 rfl) ?_
  refine lv_aload_n hx hb dL_law_551 rfl (lv_at hl 1 rfl) ?_
  refine lv_iload hx hb dL_law_552 (lv_at hl 5 rfl) ?_
  refine lv_iconst (v := 1) hx hb dL_law_554 (by decide) ?_
  refine l_sld (j := 1) C0 d0 hS (by omega) rfl dL_law_555 dL_law_556 ?_
  rw [← ha1]
  refine lv_aload_n hx hb dL_law_557 rfl (lv_at hl 1 rfl) ?_
  refine lv_iload hx hb dL_law_558 (lv_at hl 5 rfl) ?_
  refine lv_iconst (v := 2) hx hb dL_law_560 (by decide) ?_
  refine l_sld (j := 2) C0 d0 hS (by omega) rfl dL_law_561 dL_law_562 ?_
  rw [← ha2]
  have hOk := cd_okr I (cd_bus I hC)
  refine k_i (c_V0 (i := 141) (As := [.int a1, .int a2]) (rest := []) ⟨hx, hb, hml, hown, hts⟩ (metX6_bus l X b w1 g1 hOk a1 a2) hK hW (by decide) Ent_M rfl q_679 q_680 q_681 q_6 q_682 hX6_bus ⟨Nat.le_of_ble_eq_true rfl, Nat.le_of_ble_eq_true rfl, rfl, rfl⟩ rfl dL_law_563 rfl hl.1 (Nat.le_of_ble_eq_true rfl) ⟨by show 174 + 446 * k + 1 + 1 ≤ 614152; omega, by show 2027 + 3016 * k + 6 + 6 ≤ 7253648; omega⟩) hS (fun r' g2 H locs hp hW hS => ?_)
  obtain ⟨hth, hans, nb1, np1, I1⟩ := ca_bus I hC hp
  rw [← her] at hth hans
  refine lv_istore (lv' := [(6, .int r'), (5, .int (nI er)), (0, .ref sb), (1, .ref (b + 0)), (2, .ref (b + 141)), (3, .ref (b + 173)), (4, .int (nI (4 * k)))]) hx hb dL_law_566 hl (by decide) rfl (fun ls hl => ?_)
  refine lv_aload_n hx hb dL_law_568 rfl (lv_at hl 4 rfl) ?_
  refine k_R (c_V0 (i := 141) (As := []) (rest := []) ⟨hx, hb, hml, hown, hts⟩ (metX6_thrown l X b w1 g2) hK hW (by decide) Ent_M rfl q_633 q_634 q_635 q_6 q_636 hX6_thrown ⟨Nat.le_of_ble_eq_true rfl, Nat.le_of_ble_eq_true rfl, rfl, rfl⟩ rfl dL_law_569 rfl hl.1 (Nat.le_of_ble_eq_true rfl) ⟨by show 174 + 446 * k + 1 + 1 + 0 ≤ 614152; omega, by show 2027 + 3016 * k + 6 + 6 + 0 ≤ 7253648; omega⟩) ?_
  refine w_top hth ?_
  refine lv_iload hx hb dL_law_572 (lv_at hl 1 rfl) ?_
  refine lv_icmp_eq (tgt := 579) hx hb dL_law_574 (by decide) (fun _ => ?_) (fun c_1 => absurd rfl c_1)
  refine lv_iload hx hb dL_law_579 (lv_at hl 1 rfl) ?_
  have fin : ∀ ls, lv_has ls 9 [(6, .int r'), (5, .int (nI er)), (0, .ref sb), (1, .ref (b + 0)), (2, .ref (b + 141)), (3, .ref (b + 173)), (4, .int (nI (4 * k)))] → W p l e room_1 (s.setDrawn d0) m #[Value.ref sb] below meth c H locs (174 + 446 * k + 1 + 1) (2027 + 3016 * k + 6 + 6) Q (F0 m 596 ls []) := by
    intro ls hl
    refine lv_goto (tgt := 1082) hx hb dL_law_596 (by decide) ?_
    refine W.widen (k := 174 + 446 * (k + 1)) (n := 2027 + 3016 * (k + 1)) (by omega) (by omega) ?_
    exact kk d0 nb1 np1 g2 w1 H locs ls hd0 I1 hW hS (lv_sub hl [2, 3, 4, 5, 6] rfl)
  refine lv_if_ne (tgt := 596) hx hb dL_law_581 (by decide) (fun _ => fin ls hl) (fun c_1 => ?_)
  have e0 : er = 0 := (nI_z0 (by omega)).mp c_1
  refine lv_aload_n hx hb dL_law_584 rfl (lv_at hl 5 rfl) ?_
  refine lv_iconst (v := 0) hx hb dL_law_585 (by decide) ?_
  refine w_lald hx hb hK hW dL_law_586 ?_
  refine lv_iload hx hb dL_law_587 (lv_at hl 0 rfl) ?_
  refine lv_i2l (v := r'.toInt64) hx hb dL_law_589 rfl ?_
  refine W.lcmp hx hb dL_law_590 ?_
  refine w_top (y := 0) (by rw [hw1 e0, hans e0, show lo0 r' = r'.toInt64 from rfl]; exact lg_self) ?_
  refine lv_if_eq (tgt := 596) hx hb dL_law_591 (by decide) (fun _ => fin ls hl) (fun c_1 => absurd rfl c_1)

set_option maxHeartbeats 1000000 in
set_option maxRecDepth 100000 in
theorem law_passenger {p : Program} {l : Launch} {e : Env} {s : State} {m : MethodId} {below : List Frame} {meth : Method} {c : Code} {Q : State → Prop} {X : CX} {b sb L : Nat} {xs : Nat → Int32} (C0 : LC p l s m meth c X b sb L xs) {d0 : Drawn} (hd0 : s.drawn.sameBut d0 lw_cs) {k : Nat} (hk : 4 * k + 4 ≤ L) {nb np : Nat} {g : S2} {w : Int64} {H : Heap} {locs : List Loc} {ls : Array Slot} (I : Inv nb np g) (hW : wd X b g w H) (hS : va_S (AA b) s.heap H locs) (hl : lv_has ls 9 (LV b sb k)) (kk : ∀ (d1 : Drawn) (nb np : Nat) (g : S2) (w : Int64) (H : Heap) (locs : List Loc) (ls : Array Slot), s.drawn.sameBut d1 lw_cs → Inv nb np g → wd X b g w H → va_S (AA b) s.heap H locs → lv_has ls 9 (LV b sb k) → W p l e room_1 (s.setDrawn d1) m #[Value.ref sb] below meth c H locs (174 + 446 * (k + 1)) (2027 + 3016 * (k + 1)) Q (F0 m 1082 ls [])) : W p l e room_1 (s.setDrawn d0) m #[Value.ref sb] below meth c H locs (174 + 446 * k) (2027 + 3016 * k) Q (F0 m 599 ls []) := by
  have hx := C0.hx
  have hb := C0.hb
  have hL := C0.hL
  have hml := C0.hml
  have hst := C0.hst
  have hts := dr_words C0.hts d0
  have hown : (s.setDrawn d0).vm.findClass RL = some m.cls := C0.hown
  have hK : KK X (s.setDrawn d0) := C0.hK.dr d0
  have hT : KT b (s.setDrawn d0) (s.setDrawn d0).heap := C0.hT.dr d0
  have hkL : k < 512 := by omega
  have h := I.1.1.2.2.1.1
  obtain ⟨a1, ha1⟩ : ∃ z, z = xs (4 * k + 1) := ⟨_, rfl⟩
  obtain ⟨a2, ha2⟩ : ∃ z, z = xs (4 * k + 2) := ⟨_, rfl⟩
  refine lv_aload_n hx hb dL_law_599 rfl (lv_at hl 1 rfl) ?_
  refine lv_aload_n hx hb dL_law_600 rfl (lv_at hl 0 rfl) ?_
  refine lv_iload hx hb dL_law_601 (lv_at hl 4 rfl) ?_
  refine lv_iconst (v := 1) hx hb dL_law_603 (by decide) ?_
  refine l_sld (j := 1) C0 d0 hS (by omega) rfl dL_law_604 dL_law_605 ?_
  rw [← ha1]
  refine lv_aload_n hx hb dL_law_606 rfl (lv_at hl 0 rfl) ?_
  refine lv_iload hx hb dL_law_607 (lv_at hl 4 rfl) ?_
  refine lv_iconst (v := 2) hx hb dL_law_609 (by decide) ?_
  refine l_sld (j := 2) C0 d0 hS (by omega) rfl dL_law_610 dL_law_611 ?_
  rw [← ha2]
  refine lv_aload_n hx hb dL_law_612 rfl (lv_at hl 3 rfl) ?_
  refine va_calli (c_SW (As := [.ref (b + 0), .int a1, .int a2, .ref (b + 173)]) (rest := []) ⟨hx, hb, hml, hown, hts⟩ (metL_passenger l hst X b w g h a1 a2) hK hT hS hW q_412 q_413 q_0 q_414 (n := 4) (by decide +kernel) ⟨Nat.le_of_ble_eq_true rfl, Nat.le_of_ble_eq_true rfl, rfl, rfl⟩ rfl dL_law_613 rfl hl.1 (Nat.le_of_ble_eq_true rfl) ⟨by show 174 + 446 * k + 1 ≤ 614152; omega, by show 2027 + 3016 * k + 6 ≤ 7253648; omega⟩) hS (fun _ _ h => h) (fun _ h => h) (fun kv u t H locs ht hvm hp hW hz hk1 hS => ?_)
  obtain ⟨g1, w1⟩ := u
  obtain ⟨r, hC, hkv, hw1, h4⟩ := hp
  replace hW : wd X b g1 w1 H := ht ▸ hW
  replace hC : CP g (er_2 (g 1 4 - 1) 6 a1 a2) (fun r g1 => r = g (1 + 20 + cl a1) (cl a2) ∧ g1 = g) r g1 := hC
  obtain ⟨er, her⟩ : ∃ z, z = (er_2 (g 1 4 - 1) 6 a1 a2) := ⟨_, rfl⟩
  rw [← her] at hkv hw1 h4
  replace hw1 : er = 0 → w1 = lo0 r := hw1
  subst hkv
  refine lv_istore (lv' := [(5, .int (nI er)), (0, .ref sb), (1, .ref (b + 0)), (2, .ref (b + 141)), (3, .ref (b + 173)), (4, .int (nI (4 * k)))]) hx hb dL_law_616 hl (by decide) rfl (fun ls hl => ?_)
  refine lv_aload_n hx hb dL_law_618 rfl (lv_at hl 3 rfl) ?_
  refine lv_aload_n hx hb dL_law_619 rfl (lv_at hl 1 rfl) ?_
  refine lv_iload hx hb dL_law_620 (lv_at hl 5 rfl) ?_
  refine lv_iconst (v := 1) hx hb dL_law_622 (by decide) ?_
  refine l_sld (j := 1) C0 d0 hS (by omega) rfl dL_law_623 dL_law_624 ?_
  rw [← ha1]
  refine lv_aload_n hx hb dL_law_625 rfl (lv_at hl 1 rfl) ?_
  refine lv_iload hx hb dL_law_626 (lv_at hl 5 rfl) ?_
  refine lv_iconst (v := 2) hx hb dL_law_628 (by decide) ?_
  refine l_sld (j := 2) C0 d0 hS (by omega) rfl dL_law_629 dL_law_630 ?_
  rw [← ha2]
  have hOk := cd_okr I (cd_passenger I hC)
  refine k_i (c_V0 (i := 141) (As := [.int a1, .int a2]) (rest := []) ⟨hx, hb, hml, hown, hts⟩ (metX6_passenger l X b w1 g1 hOk a1 a2) hK hW (by decide) Ent_M rfl q_695 q_696 q_697 q_6 q_698 hX6_passenger ⟨Nat.le_of_ble_eq_true rfl, Nat.le_of_ble_eq_true rfl, rfl, rfl⟩ rfl dL_law_631 rfl hl.1 (Nat.le_of_ble_eq_true rfl) ⟨by show 174 + 446 * k + 1 + 1 ≤ 614152; omega, by show 2027 + 3016 * k + 6 + 7 ≤ 7253648; omega⟩) hS (fun r' g2 H locs hp hW hS => ?_)
  obtain ⟨hth, hans, nb1, np1, I1⟩ := ca_passenger I hC hp
  rw [← her] at hth hans
  refine lv_istore (lv' := [(6, .int r'), (5, .int (nI er)), (0, .ref sb), (1, .ref (b + 0)), (2, .ref (b + 141)), (3, .ref (b + 173)), (4, .int (nI (4 * k)))]) hx hb dL_law_634 hl (by decide) rfl (fun ls hl => ?_)
  refine lv_aload_n hx hb dL_law_636 rfl (lv_at hl 4 rfl) ?_
  refine k_R (c_V0 (i := 141) (As := []) (rest := []) ⟨hx, hb, hml, hown, hts⟩ (metX6_thrown l X b w1 g2) hK hW (by decide) Ent_M rfl q_633 q_634 q_635 q_6 q_636 hX6_thrown ⟨Nat.le_of_ble_eq_true rfl, Nat.le_of_ble_eq_true rfl, rfl, rfl⟩ rfl dL_law_637 rfl hl.1 (Nat.le_of_ble_eq_true rfl) ⟨by show 174 + 446 * k + 1 + 1 + 0 ≤ 614152; omega, by show 2027 + 3016 * k + 6 + 7 + 0 ≤ 7253648; omega⟩) ?_
  refine w_top hth ?_
  refine lv_iload hx hb dL_law_640 (lv_at hl 1 rfl) ?_
  refine lv_icmp_eq (tgt := 647) hx hb dL_law_642 (by decide) (fun _ => ?_) (fun c_1 => absurd rfl c_1)
  refine lv_iload hx hb dL_law_647 (lv_at hl 1 rfl) ?_
  have fin : ∀ ls, lv_has ls 9 [(6, .int r'), (5, .int (nI er)), (0, .ref sb), (1, .ref (b + 0)), (2, .ref (b + 141)), (3, .ref (b + 173)), (4, .int (nI (4 * k)))] → W p l e room_1 (s.setDrawn d0) m #[Value.ref sb] below meth c H locs (174 + 446 * k + 1 + 1) (2027 + 3016 * k + 6 + 7) Q (F0 m 664 ls []) := by
    intro ls hl
    refine lv_goto (tgt := 1082) hx hb dL_law_664 (by decide) ?_
    refine W.widen (k := 174 + 446 * (k + 1)) (n := 2027 + 3016 * (k + 1)) (by omega) (by omega) ?_
    exact kk d0 nb1 np1 g2 w1 H locs ls hd0 I1 hW hS (lv_sub hl [2, 3, 4, 5, 6] rfl)
  refine lv_if_ne (tgt := 664) hx hb dL_law_649 (by decide) (fun _ => fin ls hl) (fun c_1 => ?_)
  have e0 : er = 0 := (nI_z0 (by omega)).mp c_1
  refine lv_aload_n hx hb dL_law_652 rfl (lv_at hl 5 rfl) ?_
  refine lv_iconst (v := 0) hx hb dL_law_653 (by decide) ?_
  refine w_lald hx hb hK hW dL_law_654 ?_
  refine lv_iload hx hb dL_law_655 (lv_at hl 0 rfl) ?_
  refine lv_i2l (v := r'.toInt64) hx hb dL_law_657 rfl ?_
  refine W.lcmp hx hb dL_law_658 ?_
  refine w_top (y := 0) (by rw [hw1 e0, hans e0, show lo0 r' = r'.toInt64 from rfl]; exact lg_self) ?_
  refine lv_if_eq (tgt := 664) hx hb dL_law_659 (by decide) (fun _ => fin ls hl) (fun c_1 => absurd rfl c_1)

set_option maxHeartbeats 1000000 in
set_option maxRecDepth 100000 in
theorem law_stop {p : Program} {l : Launch} {e : Env} {s : State} {m : MethodId} {below : List Frame} {meth : Method} {c : Code} {Q : State → Prop} {X : CX} {b sb L : Nat} {xs : Nat → Int32} (C0 : LC p l s m meth c X b sb L xs) {d0 : Drawn} (hd0 : s.drawn.sameBut d0 lw_cs) {k : Nat} (hk : 4 * k + 4 ≤ L) {nb np : Nat} {g : S2} {w : Int64} {H : Heap} {locs : List Loc} {ls : Array Slot} (I : Inv nb np g) (hW : wd X b g w H) (hS : va_S (AA b) s.heap H locs) (hl : lv_has ls 9 (LV b sb k)) (kk : ∀ (d1 : Drawn) (nb np : Nat) (g : S2) (w : Int64) (H : Heap) (locs : List Loc) (ls : Array Slot), s.drawn.sameBut d1 lw_cs → Inv nb np g → wd X b g w H → va_S (AA b) s.heap H locs → lv_has ls 9 (LV b sb k) → W p l e room_1 (s.setDrawn d1) m #[Value.ref sb] below meth c H locs (174 + 446 * (k + 1)) (2027 + 3016 * (k + 1)) Q (F0 m 1082 ls [])) : W p l e room_1 (s.setDrawn d0) m #[Value.ref sb] below meth c H locs (174 + 446 * k) (2027 + 3016 * k) Q (F0 m 667 ls []) := by
  have hx := C0.hx
  have hb := C0.hb
  have hL := C0.hL
  have hml := C0.hml
  have hst := C0.hst
  have hts := dr_words C0.hts d0
  have hown : (s.setDrawn d0).vm.findClass RL = some m.cls := C0.hown
  have hK : KK X (s.setDrawn d0) := C0.hK.dr d0
  have hT : KT b (s.setDrawn d0) (s.setDrawn d0).heap := C0.hT.dr d0
  have hkL : k < 512 := by omega
  have h := I.1.1.2.2.1.1
  obtain ⟨a1, ha1⟩ : ∃ z, z = xs (4 * k + 1) := ⟨_, rfl⟩
  obtain ⟨a2, ha2⟩ : ∃ z, z = xs (4 * k + 2) := ⟨_, rfl⟩
  refine lv_aload_n hx hb dL_law_667 rfl (lv_at hl 1 rfl) ?_
  refine lv_aload_n hx hb dL_law_668 rfl (lv_at hl 0 rfl) ?_
  refine lv_iload hx hb dL_law_669 (lv_at hl 4 rfl) ?_
  refine lv_iconst (v := 1) hx hb dL_law_671 (by decide) ?_
  refine l_sld (j := 1) C0 d0 hS (by omega) rfl dL_law_672 dL_law_673 ?_
  rw [← ha1]
  refine lv_aload_n hx hb dL_law_674 rfl (lv_at hl 0 rfl) ?_
  refine lv_iload hx hb dL_law_675 (lv_at hl 4 rfl) ?_
  refine lv_iconst (v := 2) hx hb dL_law_677 (by decide) ?_
  refine l_sld (j := 2) C0 d0 hS (by omega) rfl dL_law_678 dL_law_679 ?_
  rw [← ha2]
  refine lv_aload_n hx hb dL_law_680 rfl (lv_at hl 3 rfl) ?_
  refine va_calli (c_SW (As := [.ref (b + 0), .int a1, .int a2, .ref (b + 173)]) (rest := []) ⟨hx, hb, hml, hown, hts⟩ (metL_stop l hst X b w g h a1 a2) hK hT hS hW q_420 q_421 q_0 q_422 (n := 4) (by decide +kernel) ⟨Nat.le_of_ble_eq_true rfl, Nat.le_of_ble_eq_true rfl, rfl, rfl⟩ rfl dL_law_681 rfl hl.1 (Nat.le_of_ble_eq_true rfl) ⟨by show 174 + 446 * k + 1 ≤ 614152; omega, by show 2027 + 3016 * k + 6 ≤ 7253648; omega⟩) hS (fun _ _ h => h) (fun _ h => h) (fun kv u t H locs ht hvm hp hW hz hk1 hS => ?_)
  obtain ⟨g1, w1⟩ := u
  obtain ⟨r, hC, hkv, hw1, h4⟩ := hp
  replace hW : wd X b g1 w1 H := ht ▸ hW
  replace hC : CP g (er_2 9 4 a1 a2) (fun r g1 => r = f_tellS g 1 nb np (cl a1) (cl a2) ∧ g1 = g) r g1 := hC
  obtain ⟨er, her⟩ : ∃ z, z = (er_2 9 4 a1 a2) := ⟨_, rfl⟩
  rw [← her] at hkv hw1 h4
  replace hw1 : er = 0 → w1 = lo0 r := hw1
  subst hkv
  refine lv_istore (lv' := [(5, .int (nI er)), (0, .ref sb), (1, .ref (b + 0)), (2, .ref (b + 141)), (3, .ref (b + 173)), (4, .int (nI (4 * k)))]) hx hb dL_law_684 hl (by decide) rfl (fun ls hl => ?_)
  refine lv_aload_n hx hb dL_law_686 rfl (lv_at hl 3 rfl) ?_
  refine lv_aload_n hx hb dL_law_687 rfl (lv_at hl 1 rfl) ?_
  refine lv_iload hx hb dL_law_688 (lv_at hl 5 rfl) ?_
  refine lv_iconst (v := 1) hx hb dL_law_690 (by decide) ?_
  refine l_sld (j := 1) C0 d0 hS (by omega) rfl dL_law_691 dL_law_692 ?_
  rw [← ha1]
  refine lv_aload_n hx hb dL_law_693 rfl (lv_at hl 1 rfl) ?_
  refine lv_iload hx hb dL_law_694 (lv_at hl 5 rfl) ?_
  refine lv_iconst (v := 2) hx hb dL_law_696 (by decide) ?_
  refine l_sld (j := 2) C0 d0 hS (by omega) rfl dL_law_697 dL_law_698 ?_
  rw [← ha2]
  have hOk := cd_okr I (cd_stop I hC)
  refine k_i (c_V0 (i := 141) (As := [.int a1, .int a2]) (rest := []) ⟨hx, hb, hml, hown, hts⟩ (metX6_stop l X b w1 g1 hOk a1 a2) hK hW (by decide) Ent_M rfl q_703 q_704 q_705 q_6 q_706 hX6_stop ⟨Nat.le_of_ble_eq_true rfl, Nat.le_of_ble_eq_true rfl, rfl, rfl⟩ rfl dL_law_699 rfl hl.1 (Nat.le_of_ble_eq_true rfl) ⟨by show 174 + 446 * k + 1 + 1 ≤ 614152; omega, by show 2027 + 3016 * k + 6 + 5 ≤ 7253648; omega⟩) hS (fun r' g2 H locs hp hW hS => ?_)
  obtain ⟨hth, hans, nb1, np1, I1⟩ := ca_stop I hC hp
  rw [← her] at hth hans
  refine lv_istore (lv' := [(6, .int r'), (5, .int (nI er)), (0, .ref sb), (1, .ref (b + 0)), (2, .ref (b + 141)), (3, .ref (b + 173)), (4, .int (nI (4 * k)))]) hx hb dL_law_702 hl (by decide) rfl (fun ls hl => ?_)
  refine lv_aload_n hx hb dL_law_704 rfl (lv_at hl 4 rfl) ?_
  refine k_R (c_V0 (i := 141) (As := []) (rest := []) ⟨hx, hb, hml, hown, hts⟩ (metX6_thrown l X b w1 g2) hK hW (by decide) Ent_M rfl q_633 q_634 q_635 q_6 q_636 hX6_thrown ⟨Nat.le_of_ble_eq_true rfl, Nat.le_of_ble_eq_true rfl, rfl, rfl⟩ rfl dL_law_705 rfl hl.1 (Nat.le_of_ble_eq_true rfl) ⟨by show 174 + 446 * k + 1 + 1 + 0 ≤ 614152; omega, by show 2027 + 3016 * k + 6 + 5 + 0 ≤ 7253648; omega⟩) ?_
  refine w_top hth ?_
  refine lv_iload hx hb dL_law_708 (lv_at hl 1 rfl) ?_
  refine lv_icmp_eq (tgt := 715) hx hb dL_law_710 (by decide) (fun _ => ?_) (fun c_1 => absurd rfl c_1)
  refine lv_iload hx hb dL_law_715 (lv_at hl 1 rfl) ?_
  have fin : ∀ ls, lv_has ls 9 [(6, .int r'), (5, .int (nI er)), (0, .ref sb), (1, .ref (b + 0)), (2, .ref (b + 141)), (3, .ref (b + 173)), (4, .int (nI (4 * k)))] → W p l e room_1 (s.setDrawn d0) m #[Value.ref sb] below meth c H locs (174 + 446 * k + 1 + 1) (2027 + 3016 * k + 6 + 5) Q (F0 m 732 ls []) := by
    intro ls hl
    refine lv_goto (tgt := 1082) hx hb dL_law_732 (by decide) ?_
    refine W.widen (k := 174 + 446 * (k + 1)) (n := 2027 + 3016 * (k + 1)) (by omega) (by omega) ?_
    exact kk d0 nb1 np1 g2 w1 H locs ls hd0 I1 hW hS (lv_sub hl [2, 3, 4, 5, 6] rfl)
  refine lv_if_ne (tgt := 732) hx hb dL_law_717 (by decide) (fun _ => fin ls hl) (fun c_1 => ?_)
  have e0 : er = 0 := (nI_z0 (by omega)).mp c_1
  refine lv_aload_n hx hb dL_law_720 rfl (lv_at hl 5 rfl) ?_
  refine lv_iconst (v := 0) hx hb dL_law_721 (by decide) ?_
  refine w_lald hx hb hK hW dL_law_722 ?_
  refine lv_iload hx hb dL_law_723 (lv_at hl 0 rfl) ?_
  refine lv_i2l (v := r'.toInt64) hx hb dL_law_725 rfl ?_
  refine W.lcmp hx hb dL_law_726 ?_
  refine w_top (y := 0) (by rw [hw1 e0, hans e0, show lo0 r' = r'.toInt64 from rfl]; exact lg_self) ?_
  refine lv_if_eq (tgt := 732) hx hb dL_law_727 (by decide) (fun _ => fin ls hl) (fun c_1 => absurd rfl c_1)

set_option maxHeartbeats 1000000 in
set_option maxRecDepth 100000 in
theorem law_count {p : Program} {l : Launch} {e : Env} {s : State} {m : MethodId} {below : List Frame} {meth : Method} {c : Code} {Q : State → Prop} {X : CX} {b sb L : Nat} {xs : Nat → Int32} (C0 : LC p l s m meth c X b sb L xs) {d0 : Drawn} (hd0 : s.drawn.sameBut d0 lw_cs) {k : Nat} (hk : 4 * k + 4 ≤ L) {nb np : Nat} {g : S2} {w : Int64} {H : Heap} {locs : List Loc} {ls : Array Slot} (I : Inv nb np g) (hW : wd X b g w H) (hS : va_S (AA b) s.heap H locs) (hl : lv_has ls 9 (LV b sb k)) (kk : ∀ (d1 : Drawn) (nb np : Nat) (g : S2) (w : Int64) (H : Heap) (locs : List Loc) (ls : Array Slot), s.drawn.sameBut d1 lw_cs → Inv nb np g → wd X b g w H → va_S (AA b) s.heap H locs → lv_has ls 9 (LV b sb k) → W p l e room_1 (s.setDrawn d1) m #[Value.ref sb] below meth c H locs (174 + 446 * (k + 1)) (2027 + 3016 * (k + 1)) Q (F0 m 1082 ls [])) : W p l e room_1 (s.setDrawn d0) m #[Value.ref sb] below meth c H locs (174 + 446 * k) (2027 + 3016 * k) Q (F0 m 735 ls []) := by
  have hx := C0.hx
  have hb := C0.hb
  have hL := C0.hL
  have hml := C0.hml
  have hst := C0.hst
  have hts := dr_words C0.hts d0
  have hown : (s.setDrawn d0).vm.findClass RL = some m.cls := C0.hown
  have hK : KK X (s.setDrawn d0) := C0.hK.dr d0
  have hT : KT b (s.setDrawn d0) (s.setDrawn d0).heap := C0.hT.dr d0
  have hkL : k < 512 := by omega
  have h := I.1.1.2.2.1.1
  obtain ⟨a1, ha1⟩ : ∃ z, z = xs (4 * k + 1) := ⟨_, rfl⟩
  refine lv_aload_n hx hb dL_law_735 rfl (lv_at hl 1 rfl) ?_
  refine lv_aload_n hx hb dL_law_736 rfl (lv_at hl 0 rfl) ?_
  refine lv_iload hx hb dL_law_737 (lv_at hl 4 rfl) ?_
  refine lv_iconst (v := 1) hx hb dL_law_739 (by decide) ?_
  refine l_sld (j := 1) C0 d0 hS (by omega) rfl dL_law_740 dL_law_741 ?_
  rw [← ha1]
  refine lv_aload_n hx hb dL_law_742 rfl (lv_at hl 3 rfl) ?_
  refine va_calli (c_SW (As := [.ref (b + 0), .int a1, .ref (b + 173)]) (rest := []) ⟨hx, hb, hml, hown, hts⟩ (metL_count l hst X b w g h a1) hK hT hS hW q_428 q_429 q_0 q_430 (n := 3) (by decide +kernel) ⟨Nat.le_of_ble_eq_true rfl, Nat.le_of_ble_eq_true rfl, rfl, rfl⟩ rfl dL_law_743 rfl hl.1 (Nat.le_of_ble_eq_true rfl) ⟨by show 174 + 446 * k + 1 ≤ 614152; omega, by show 2027 + 3016 * k + 6 ≤ 7253648; omega⟩) hS (fun _ _ h => h) (fun _ h => h) (fun kv u t H locs ht hvm hp hW hz hk1 hS => ?_)
  obtain ⟨g1, w1⟩ := u
  obtain ⟨r, hC, hkv, hw1, h4⟩ := hp
  replace hW : wd X b g1 w1 H := ht ▸ hW
  replace hC : CP g (er_1 0 9 a1) (fun r g1 => r = f_tellC g 1 nb np (cl a1) ∧ g1 = g) r g1 := hC
  obtain ⟨er, her⟩ : ∃ z, z = (er_1 0 9 a1) := ⟨_, rfl⟩
  rw [← her] at hkv hw1 h4
  replace hw1 : er = 0 → w1 = lo0 r := hw1
  subst hkv
  refine lv_istore (lv' := [(5, .int (nI er)), (0, .ref sb), (1, .ref (b + 0)), (2, .ref (b + 141)), (3, .ref (b + 173)), (4, .int (nI (4 * k)))]) hx hb dL_law_746 hl (by decide) rfl (fun ls hl => ?_)
  refine lv_aload_n hx hb dL_law_748 rfl (lv_at hl 3 rfl) ?_
  refine lv_aload_n hx hb dL_law_749 rfl (lv_at hl 1 rfl) ?_
  refine lv_iload hx hb dL_law_750 (lv_at hl 5 rfl) ?_
  refine lv_iconst (v := 1) hx hb dL_law_752 (by decide) ?_
  refine l_sld (j := 1) C0 d0 hS (by omega) rfl dL_law_753 dL_law_754 ?_
  rw [← ha1]
  have hOk := cd_okr I (cd_count I hC)
  refine k_i (c_V0 (i := 141) (As := [.int a1]) (rest := []) ⟨hx, hb, hml, hown, hts⟩ (metX6_count l X b w1 g1 hOk a1) hK hW (by decide) Ent_M rfl q_711 q_712 q_713 q_6 q_714 hX6_count ⟨Nat.le_of_ble_eq_true rfl, Nat.le_of_ble_eq_true rfl, rfl, rfl⟩ rfl dL_law_755 rfl hl.1 (Nat.le_of_ble_eq_true rfl) ⟨by show 174 + 446 * k + 1 + 1 ≤ 614152; omega, by show 2027 + 3016 * k + 6 + 10 ≤ 7253648; omega⟩) hS (fun r' g2 H locs hp hW hS => ?_)
  obtain ⟨hth, hans, nb1, np1, I1⟩ := ca_count I hC hp
  rw [← her] at hth hans
  refine lv_istore (lv' := [(6, .int r'), (5, .int (nI er)), (0, .ref sb), (1, .ref (b + 0)), (2, .ref (b + 141)), (3, .ref (b + 173)), (4, .int (nI (4 * k)))]) hx hb dL_law_758 hl (by decide) rfl (fun ls hl => ?_)
  refine lv_aload_n hx hb dL_law_760 rfl (lv_at hl 4 rfl) ?_
  refine k_R (c_V0 (i := 141) (As := []) (rest := []) ⟨hx, hb, hml, hown, hts⟩ (metX6_thrown l X b w1 g2) hK hW (by decide) Ent_M rfl q_633 q_634 q_635 q_6 q_636 hX6_thrown ⟨Nat.le_of_ble_eq_true rfl, Nat.le_of_ble_eq_true rfl, rfl, rfl⟩ rfl dL_law_761 rfl hl.1 (Nat.le_of_ble_eq_true rfl) ⟨by show 174 + 446 * k + 1 + 1 + 0 ≤ 614152; omega, by show 2027 + 3016 * k + 6 + 10 + 0 ≤ 7253648; omega⟩) ?_
  refine w_top hth ?_
  refine lv_iload hx hb dL_law_764 (lv_at hl 1 rfl) ?_
  refine lv_icmp_eq (tgt := 771) hx hb dL_law_766 (by decide) (fun _ => ?_) (fun c_1 => absurd rfl c_1)
  refine lv_iload hx hb dL_law_771 (lv_at hl 1 rfl) ?_
  have fin : ∀ ls, lv_has ls 9 [(6, .int r'), (5, .int (nI er)), (0, .ref sb), (1, .ref (b + 0)), (2, .ref (b + 141)), (3, .ref (b + 173)), (4, .int (nI (4 * k)))] → W p l e room_1 (s.setDrawn d0) m #[Value.ref sb] below meth c H locs (174 + 446 * k + 1 + 1) (2027 + 3016 * k + 6 + 10) Q (F0 m 788 ls []) := by
    intro ls hl
    refine lv_goto (tgt := 1082) hx hb dL_law_788 (by decide) ?_
    refine W.widen (k := 174 + 446 * (k + 1)) (n := 2027 + 3016 * (k + 1)) (by omega) (by omega) ?_
    exact kk d0 nb1 np1 g2 w1 H locs ls hd0 I1 hW hS (lv_sub hl [2, 3, 4, 5, 6] rfl)
  refine lv_if_ne (tgt := 788) hx hb dL_law_773 (by decide) (fun _ => fin ls hl) (fun c_1 => ?_)
  have e0 : er = 0 := (nI_z0 (by omega)).mp c_1
  refine lv_aload_n hx hb dL_law_776 rfl (lv_at hl 5 rfl) ?_
  refine lv_iconst (v := 0) hx hb dL_law_777 (by decide) ?_
  refine w_lald hx hb hK hW dL_law_778 ?_
  refine lv_iload hx hb dL_law_779 (lv_at hl 0 rfl) ?_
  refine lv_i2l (v := r'.toInt64) hx hb dL_law_781 rfl ?_
  refine W.lcmp hx hb dL_law_782 ?_
  refine w_top (y := 0) (by rw [hw1 e0, hans e0, show lo0 r' = r'.toInt64 from rfl]; exact lg_self) ?_
  refine lv_if_eq (tgt := 788) hx hb dL_law_783 (by decide) (fun _ => fin ls hl) (fun c_1 => absurd rfl c_1)

set_option maxHeartbeats 1000000 in
set_option maxRecDepth 100000 in
theorem law_go {p : Program} {l : Launch} {e : Env} {s : State} {m : MethodId} {below : List Frame} {meth : Method} {c : Code} {Q : State → Prop} {X : CX} {b sb L : Nat} {xs : Nat → Int32} (C0 : LC p l s m meth c X b sb L xs) {d0 : Drawn} (hd0 : s.drawn.sameBut d0 lw_cs) {k : Nat} (hk : 4 * k + 4 ≤ L) {nb np : Nat} {g : S2} {w : Int64} {H : Heap} {locs : List Loc} {ls : Array Slot} (I : Inv nb np g) (hW : wd X b g w H) (hS : va_S (AA b) s.heap H locs) (hl : lv_has ls 9 (LV b sb k)) (kk : ∀ (d1 : Drawn) (nb np : Nat) (g : S2) (w : Int64) (H : Heap) (locs : List Loc) (ls : Array Slot), s.drawn.sameBut d1 lw_cs → Inv nb np g → wd X b g w H → va_S (AA b) s.heap H locs → lv_has ls 9 (LV b sb k) → W p l e room_1 (s.setDrawn d1) m #[Value.ref sb] below meth c H locs (174 + 446 * (k + 1)) (2027 + 3016 * (k + 1)) Q (F0 m 1082 ls [])) : W p l e room_1 (s.setDrawn d0) m #[Value.ref sb] below meth c H locs (174 + 446 * k) (2027 + 3016 * k) Q (F0 m 791 ls []) := by
  have hx := C0.hx
  have hb := C0.hb
  have hL := C0.hL
  have hml := C0.hml
  have hst := C0.hst
  have hts := dr_words C0.hts d0
  have hown : (s.setDrawn d0).vm.findClass RL = some m.cls := C0.hown
  have hK : KK X (s.setDrawn d0) := C0.hK.dr d0
  have hT : KT b (s.setDrawn d0) (s.setDrawn d0).heap := C0.hT.dr d0
  have hkL : k < 512 := by omega
  have h := I.1.1.2.2.1.1
  obtain ⟨a1, ha1⟩ : ∃ z, z = xs (4 * k + 1) := ⟨_, rfl⟩
  refine lv_aload_n hx hb dL_law_791 rfl (lv_at hl 1 rfl) ?_
  refine lv_aload_n hx hb dL_law_792 rfl (lv_at hl 0 rfl) ?_
  refine lv_iload hx hb dL_law_793 (lv_at hl 4 rfl) ?_
  refine lv_iconst (v := 1) hx hb dL_law_795 (by decide) ?_
  refine l_sld (j := 1) C0 d0 hS (by omega) rfl dL_law_796 dL_law_797 ?_
  rw [← ha1]
  refine lv_aload_n hx hb dL_law_798 rfl (lv_at hl 3 rfl) ?_
  refine va_calli (c_SW (As := [.ref (b + 0), .int a1, .ref (b + 173)]) (rest := []) ⟨hx, hb, hml, hown, hts⟩ (metL_go l hst X b w g h a1) hK hT hS hW q_436 q_437 q_0 q_438 (n := 3) (by decide +kernel) ⟨Nat.le_of_ble_eq_true rfl, Nat.le_of_ble_eq_true rfl, rfl, rfl⟩ rfl dL_law_799 rfl hl.1 (Nat.le_of_ble_eq_true rfl) ⟨by show 174 + 446 * k + 1 ≤ 614152; omega, by show 2027 + 3016 * k + 6 ≤ 7253648; omega⟩) hS (fun _ _ h => h) (fun _ h => h) (fun kv u t H locs ht hvm hp hW hz hk1 hS => ?_)
  obtain ⟨g1, w1⟩ := u
  obtain ⟨r, hC, hkv, hw1, h4⟩ := hp
  replace hW : wd X b g1 w1 H := ht ▸ hW
  replace hC : CP g (er_1 1 120 a1) (fun r g1 => r = nI (cnB (q_in g1 1 2) np) - nI (cnB (q_in g 1 2) np) ∧ g1 = f_mins g 1 nb np (cl a1)) r g1 := hC
  obtain ⟨er, her⟩ : ∃ z, z = (er_1 1 120 a1) := ⟨_, rfl⟩
  rw [← her] at hkv hw1 h4
  replace hw1 : er = 0 → w1 = lo0 r := hw1
  subst hkv
  refine lv_istore (lv' := [(5, .int (nI er)), (0, .ref sb), (1, .ref (b + 0)), (2, .ref (b + 141)), (3, .ref (b + 173)), (4, .int (nI (4 * k)))]) hx hb dL_law_802 hl (by decide) rfl (fun ls hl => ?_)
  refine lv_aload_n hx hb dL_law_804 rfl (lv_at hl 3 rfl) ?_
  refine lv_aload_n hx hb dL_law_805 rfl (lv_at hl 1 rfl) ?_
  refine lv_iload hx hb dL_law_806 (lv_at hl 5 rfl) ?_
  refine lv_iconst (v := 1) hx hb dL_law_808 (by decide) ?_
  refine l_sld (j := 1) C0 d0 hS (by omega) rfl dL_law_809 dL_law_810 ?_
  rw [← ha1]
  have hOk := cd_okr I (cd_go I hC)
  refine k_i (c_V0 (i := 141) (As := [.int a1]) (rest := []) ⟨hx, hb, hml, hown, hts⟩ (metX6_go l X b w1 g1 hOk a1) hK hW (by decide) Ent_M rfl q_731 q_732 q_733 q_6 q_734 hX6_go ⟨Nat.le_of_ble_eq_true rfl, Nat.le_of_ble_eq_true rfl, rfl, rfl⟩ rfl dL_law_811 rfl hl.1 (Nat.le_of_ble_eq_true rfl) ⟨by show 174 + 446 * k + 1 + 0 ≤ 614152; omega, by show 2027 + 3016 * k + 6 + 0 ≤ 7253648; omega⟩) hS (fun r' g2 H locs hp hW hS => ?_)
  obtain ⟨hth, hans, nb1, np1, I1⟩ := ca_go I hC hp
  rw [← her] at hth hans
  refine lv_istore (lv' := [(6, .int r'), (5, .int (nI er)), (0, .ref sb), (1, .ref (b + 0)), (2, .ref (b + 141)), (3, .ref (b + 173)), (4, .int (nI (4 * k)))]) hx hb dL_law_814 hl (by decide) rfl (fun ls hl => ?_)
  refine lv_aload_n hx hb dL_law_816 rfl (lv_at hl 4 rfl) ?_
  refine k_R (c_V0 (i := 141) (As := []) (rest := []) ⟨hx, hb, hml, hown, hts⟩ (metX6_thrown l X b w1 g2) hK hW (by decide) Ent_M rfl q_633 q_634 q_635 q_6 q_636 hX6_thrown ⟨Nat.le_of_ble_eq_true rfl, Nat.le_of_ble_eq_true rfl, rfl, rfl⟩ rfl dL_law_817 rfl hl.1 (Nat.le_of_ble_eq_true rfl) ⟨by show 174 + 446 * k + 1 + 0 + 0 ≤ 614152; omega, by show 2027 + 3016 * k + 6 + 0 + 0 ≤ 7253648; omega⟩) ?_
  refine w_top hth ?_
  refine lv_iload hx hb dL_law_820 (lv_at hl 1 rfl) ?_
  refine lv_icmp_eq (tgt := 827) hx hb dL_law_822 (by decide) (fun _ => ?_) (fun c_1 => absurd rfl c_1)
  refine lv_iload hx hb dL_law_827 (lv_at hl 1 rfl) ?_
  have fin : ∀ ls, lv_has ls 9 [(6, .int r'), (5, .int (nI er)), (0, .ref sb), (1, .ref (b + 0)), (2, .ref (b + 141)), (3, .ref (b + 173)), (4, .int (nI (4 * k)))] → W p l e room_1 (s.setDrawn d0) m #[Value.ref sb] below meth c H locs (174 + 446 * k + 1 + 0) (2027 + 3016 * k + 6 + 0) Q (F0 m 844 ls []) := by
    intro ls hl
    refine lv_goto (tgt := 1082) hx hb dL_law_844 (by decide) ?_
    refine W.widen (k := 174 + 446 * (k + 1)) (n := 2027 + 3016 * (k + 1)) (by omega) (by omega) ?_
    exact kk d0 nb1 np1 g2 w1 H locs ls hd0 I1 hW hS (lv_sub hl [2, 3, 4, 5, 6] rfl)
  refine lv_if_ne (tgt := 844) hx hb dL_law_829 (by decide) (fun _ => fin ls hl) (fun c_1 => ?_)
  have e0 : er = 0 := (nI_z0 (by omega)).mp c_1
  refine lv_aload_n hx hb dL_law_832 rfl (lv_at hl 5 rfl) ?_
  refine lv_iconst (v := 0) hx hb dL_law_833 (by decide) ?_
  refine w_lald hx hb hK hW dL_law_834 ?_
  refine lv_iload hx hb dL_law_835 (lv_at hl 0 rfl) ?_
  refine lv_i2l (v := r'.toInt64) hx hb dL_law_837 rfl ?_
  refine W.lcmp hx hb dL_law_838 ?_
  refine w_top (y := 0) (by rw [hw1 e0, hans e0, show lo0 r' = r'.toInt64 from rfl]; exact lg_self) ?_
  refine lv_if_eq (tgt := 844) hx hb dL_law_839 (by decide) (fun _ => fin ls hl) (fun c_1 => absurd rfl c_1)

set_option maxHeartbeats 1000000 in
set_option maxRecDepth 100000 in
theorem law_arrives {p : Program} {l : Launch} {e : Env} {s : State} {m : MethodId} {below : List Frame} {meth : Method} {c : Code} {Q : State → Prop} {X : CX} {b sb L : Nat} {xs : Nat → Int32} (C0 : LC p l s m meth c X b sb L xs) {d0 : Drawn} (hd0 : s.drawn.sameBut d0 lw_cs) {k : Nat} (hk : 4 * k + 4 ≤ L) {nb np : Nat} {g : S2} {w : Int64} {H : Heap} {locs : List Loc} {ls : Array Slot} (I : Inv nb np g) (hW : wd X b g w H) (hS : va_S (AA b) s.heap H locs) (hl : lv_has ls 9 (LV b sb k)) (kk : ∀ (d1 : Drawn) (nb np : Nat) (g : S2) (w : Int64) (H : Heap) (locs : List Loc) (ls : Array Slot), s.drawn.sameBut d1 lw_cs → Inv nb np g → wd X b g w H → va_S (AA b) s.heap H locs → lv_has ls 9 (LV b sb k) → W p l e room_1 (s.setDrawn d1) m #[Value.ref sb] below meth c H locs (174 + 446 * (k + 1)) (2027 + 3016 * (k + 1)) Q (F0 m 1082 ls [])) : W p l e room_1 (s.setDrawn d0) m #[Value.ref sb] below meth c H locs (174 + 446 * k) (2027 + 3016 * k) Q (F0 m 847 ls []) := by
  have hx := C0.hx
  have hb := C0.hb
  have hL := C0.hL
  have hml := C0.hml
  have hst := C0.hst
  have hts := dr_words C0.hts d0
  have hown : (s.setDrawn d0).vm.findClass RL = some m.cls := C0.hown
  have hK : KK X (s.setDrawn d0) := C0.hK.dr d0
  have hT : KT b (s.setDrawn d0) (s.setDrawn d0).heap := C0.hT.dr d0
  have hkL : k < 512 := by omega
  have h := I.1.1.2.2.1.1
  obtain ⟨a1, ha1⟩ : ∃ z, z = xs (4 * k + 1) := ⟨_, rfl⟩
  refine lv_aload_n hx hb dL_law_847 rfl (lv_at hl 1 rfl) ?_
  refine lv_aload_n hx hb dL_law_848 rfl (lv_at hl 0 rfl) ?_
  refine lv_iload hx hb dL_law_849 (lv_at hl 4 rfl) ?_
  refine lv_iconst (v := 1) hx hb dL_law_851 (by decide) ?_
  refine l_sld (j := 1) C0 d0 hS (by omega) rfl dL_law_852 dL_law_853 ?_
  rw [← ha1]
  refine lv_aload_n hx hb dL_law_854 rfl (lv_at hl 3 rfl) ?_
  refine va_calli (c_SW (As := [.ref (b + 0), .int a1, .ref (b + 173)]) (rest := []) ⟨hx, hb, hml, hown, hts⟩ (metL_arrives l hst X b w g h I.2 a1) hK hT hS hW q_486 q_487 q_0 q_488 (n := 3) (by decide +kernel) ⟨Nat.le_of_ble_eq_true rfl, Nat.le_of_ble_eq_true rfl, rfl, rfl⟩ rfl dL_law_855 rfl hl.1 (Nat.le_of_ble_eq_true rfl) ⟨by show 174 + 446 * k + 1 ≤ 614152; omega, by show 2027 + 3016 * k + 6 ≤ 7253648; omega⟩) hS (fun _ _ h => h) (fun _ h => h) (fun kv u t H locs ht hvm hp hW hz hk1 hS => ?_)
  obtain ⟨g1, w1⟩ := u
  obtain ⟨r, hC, hkv, hw1, h4⟩ := hp
  replace hW : wd X b g1 w1 H := ht ▸ hW
  replace hC : CP g (er_1 0 (g 1 4 - 1) a1) (fun r g1 => f_arrP (f_copy g 71 1 nb np) g1 nb np (cl a1) r) r g1 := hC
  obtain ⟨er, her⟩ : ∃ z, z = (er_1 0 (g 1 4 - 1) a1) := ⟨_, rfl⟩
  rw [← her] at hkv hw1 h4
  replace hw1 : er = 0 → w1 = lo0 r := hw1
  subst hkv
  refine lv_istore (lv' := [(5, .int (nI er)), (0, .ref sb), (1, .ref (b + 0)), (2, .ref (b + 141)), (3, .ref (b + 173)), (4, .int (nI (4 * k)))]) hx hb dL_law_858 hl (by decide) rfl (fun ls hl => ?_)
  refine lv_aload_n hx hb dL_law_860 rfl (lv_at hl 3 rfl) ?_
  refine lv_aload_n hx hb dL_law_861 rfl (lv_at hl 1 rfl) ?_
  refine lv_iload hx hb dL_law_862 (lv_at hl 5 rfl) ?_
  refine lv_iconst (v := 1) hx hb dL_law_864 (by decide) ?_
  refine l_sld (j := 1) C0 d0 hS (by omega) rfl dL_law_865 dL_law_866 ?_
  rw [← ha1]
  have hOk := cd_okr I (cd_arrives I hC)
  refine k_i (c_V0 (i := 141) (As := [.int a1]) (rest := []) ⟨hx, hb, hml, hown, hts⟩ (metX6_arrives l X b w1 g1 hOk a1) hK hW (by decide) Ent_M rfl q_761 q_762 q_763 q_6 q_764 hX6_arrives ⟨Nat.le_of_ble_eq_true rfl, Nat.le_of_ble_eq_true rfl, rfl, rfl⟩ rfl dL_law_867 rfl hl.1 (Nat.le_of_ble_eq_true rfl) ⟨by show 174 + 446 * k + 1 + 0 ≤ 614152; omega, by show 2027 + 3016 * k + 6 + 0 ≤ 7253648; omega⟩) hS (fun r' g2 H locs hp hW hS => ?_)
  obtain ⟨hth, hans, nb1, np1, I1⟩ := ca_arrives I hC hp
  rw [← her] at hth hans
  refine lv_istore (lv' := [(6, .int r'), (5, .int (nI er)), (0, .ref sb), (1, .ref (b + 0)), (2, .ref (b + 141)), (3, .ref (b + 173)), (4, .int (nI (4 * k)))]) hx hb dL_law_870 hl (by decide) rfl (fun ls hl => ?_)
  refine lv_aload_n hx hb dL_law_872 rfl (lv_at hl 4 rfl) ?_
  refine k_R (c_V0 (i := 141) (As := []) (rest := []) ⟨hx, hb, hml, hown, hts⟩ (metX6_thrown l X b w1 g2) hK hW (by decide) Ent_M rfl q_633 q_634 q_635 q_6 q_636 hX6_thrown ⟨Nat.le_of_ble_eq_true rfl, Nat.le_of_ble_eq_true rfl, rfl, rfl⟩ rfl dL_law_873 rfl hl.1 (Nat.le_of_ble_eq_true rfl) ⟨by show 174 + 446 * k + 1 + 0 + 0 ≤ 614152; omega, by show 2027 + 3016 * k + 6 + 0 + 0 ≤ 7253648; omega⟩) ?_
  refine w_top hth ?_
  refine lv_iload hx hb dL_law_876 (lv_at hl 1 rfl) ?_
  refine lv_icmp_eq (tgt := 883) hx hb dL_law_878 (by decide) (fun _ => ?_) (fun c_1 => absurd rfl c_1)
  refine lv_iload hx hb dL_law_883 (lv_at hl 1 rfl) ?_
  have fin : ∀ ls, lv_has ls 9 [(6, .int r'), (5, .int (nI er)), (0, .ref sb), (1, .ref (b + 0)), (2, .ref (b + 141)), (3, .ref (b + 173)), (4, .int (nI (4 * k)))] → W p l e room_1 (s.setDrawn d0) m #[Value.ref sb] below meth c H locs (174 + 446 * k + 1 + 0) (2027 + 3016 * k + 6 + 0) Q (F0 m 900 ls []) := by
    intro ls hl
    refine lv_goto (tgt := 1082) hx hb dL_law_900 (by decide) ?_
    refine W.widen (k := 174 + 446 * (k + 1)) (n := 2027 + 3016 * (k + 1)) (by omega) (by omega) ?_
    exact kk d0 nb1 np1 g2 w1 H locs ls hd0 I1 hW hS (lv_sub hl [2, 3, 4, 5, 6] rfl)
  refine lv_if_ne (tgt := 900) hx hb dL_law_885 (by decide) (fun _ => fin ls hl) (fun c_1 => ?_)
  have e0 : er = 0 := (nI_z0 (by omega)).mp c_1
  refine lv_aload_n hx hb dL_law_888 rfl (lv_at hl 5 rfl) ?_
  refine lv_iconst (v := 0) hx hb dL_law_889 (by decide) ?_
  refine w_lald hx hb hK hW dL_law_890 ?_
  refine lv_iload hx hb dL_law_891 (lv_at hl 0 rfl) ?_
  refine lv_i2l (v := r'.toInt64) hx hb dL_law_893 rfl ?_
  refine W.lcmp hx hb dL_law_894 ?_
  refine w_top (y := 0) (by rw [hw1 e0, hans e0, show lo0 r' = r'.toInt64 from rfl]; exact lg_self) ?_
  refine lv_if_eq (tgt := 900) hx hb dL_law_895 (by decide) (fun _ => fin ls hl) (fun c_1 => absurd rfl c_1)

set_option maxHeartbeats 1000000 in
set_option maxRecDepth 100000 in
theorem law_foresee {p : Program} {l : Launch} {e : Env} {s : State} {m : MethodId} {below : List Frame} {meth : Method} {c : Code} {Q : State → Prop} {X : CX} {b sb L : Nat} {xs : Nat → Int32} (C0 : LC p l s m meth c X b sb L xs) {d0 : Drawn} (hd0 : s.drawn.sameBut d0 lw_cs) {k : Nat} (hk : 4 * k + 4 ≤ L) {nb np : Nat} {g : S2} {w : Int64} {H : Heap} {locs : List Loc} {ls : Array Slot} (I : Inv nb np g) (hW : wd X b g w H) (hS : va_S (AA b) s.heap H locs) (hl : lv_has ls 9 (LV b sb k)) (kk : ∀ (d1 : Drawn) (nb np : Nat) (g : S2) (w : Int64) (H : Heap) (locs : List Loc) (ls : Array Slot), s.drawn.sameBut d1 lw_cs → Inv nb np g → wd X b g w H → va_S (AA b) s.heap H locs → lv_has ls 9 (LV b sb k) → W p l e room_1 (s.setDrawn d1) m #[Value.ref sb] below meth c H locs (174 + 446 * (k + 1)) (2027 + 3016 * (k + 1)) Q (F0 m 1082 ls [])) : W p l e room_1 (s.setDrawn d0) m #[Value.ref sb] below meth c H locs (174 + 446 * k) (2027 + 3016 * k) Q (F0 m 903 ls []) := by
  have hx := C0.hx
  have hb := C0.hb
  have hL := C0.hL
  have hml := C0.hml
  have hst := C0.hst
  have hts := dr_words C0.hts d0
  have hown : (s.setDrawn d0).vm.findClass RL = some m.cls := C0.hown
  have hK : KK X (s.setDrawn d0) := C0.hK.dr d0
  have hT : KT b (s.setDrawn d0) (s.setDrawn d0).heap := C0.hT.dr d0
  have hkL : k < 512 := by omega
  have h := I.1.1.2.2.1.1
  obtain ⟨a1, ha1⟩ : ∃ z, z = xs (4 * k + 1) := ⟨_, rfl⟩
  obtain ⟨a2, ha2⟩ : ∃ z, z = xs (4 * k + 2) := ⟨_, rfl⟩
  refine lv_aload_n hx hb dL_law_903 rfl (lv_at hl 1 rfl) ?_
  refine lv_aload_n hx hb dL_law_904 rfl (lv_at hl 0 rfl) ?_
  refine lv_iload hx hb dL_law_905 (lv_at hl 4 rfl) ?_
  refine lv_iconst (v := 1) hx hb dL_law_907 (by decide) ?_
  refine l_sld (j := 1) C0 d0 hS (by omega) rfl dL_law_908 dL_law_909 ?_
  rw [← ha1]
  refine lv_aload_n hx hb dL_law_910 rfl (lv_at hl 0 rfl) ?_
  refine lv_iload hx hb dL_law_911 (lv_at hl 4 rfl) ?_
  refine lv_iconst (v := 2) hx hb dL_law_913 (by decide) ?_
  refine l_sld (j := 2) C0 d0 hS (by omega) rfl dL_law_914 dL_law_915 ?_
  rw [← ha2]
  refine lv_aload_n hx hb dL_law_916 rfl (lv_at hl 3 rfl) ?_
  refine va_calli (c_SW (As := [.ref (b + 0), .int a1, .int a2, .ref (b + 173)]) (rest := []) ⟨hx, hb, hml, hown, hts⟩ (metL_foresee l hst X b w g h I.2 a1 a2) hK hT hS hW q_511 q_512 q_0 q_513 (n := 4) (by decide +kernel) ⟨Nat.le_of_ble_eq_true rfl, Nat.le_of_ble_eq_true rfl, rfl, rfl⟩ rfl dL_law_917 rfl hl.1 (Nat.le_of_ble_eq_true rfl) ⟨by show 174 + 446 * k + 1 ≤ 614152; omega, by show 2027 + 3016 * k + 6 ≤ 7253648; omega⟩) hS (fun _ _ h => h) (fun _ h => h) (fun kv u t H locs ht hvm hp hW hz hk1 hS => ?_)
  obtain ⟨g1, w1⟩ := u
  obtain ⟨r, hC, hkv, hw1, h4⟩ := hp
  replace hW : wd X b g1 w1 H := ht ▸ hW
  replace hC : CP g (er_see a1 a2) (fun r g1 => r = f_see g1 nb np (cl a2) ∧ g1 = f_mins (f_copy g 71 1 nb np) 71 nb np (cl a1)) r g1 := hC
  obtain ⟨er, her⟩ : ∃ z, z = (er_see a1 a2) := ⟨_, rfl⟩
  rw [← her] at hkv hw1 h4
  replace hw1 : er = 0 → w1 = lo0 r := hw1
  subst hkv
  refine lv_istore (lv' := [(5, .int (nI er)), (0, .ref sb), (1, .ref (b + 0)), (2, .ref (b + 141)), (3, .ref (b + 173)), (4, .int (nI (4 * k)))]) hx hb dL_law_920 hl (by decide) rfl (fun ls hl => ?_)
  refine lv_aload_n hx hb dL_law_922 rfl (lv_at hl 3 rfl) ?_
  refine lv_aload_n hx hb dL_law_923 rfl (lv_at hl 1 rfl) ?_
  refine lv_iload hx hb dL_law_924 (lv_at hl 5 rfl) ?_
  refine lv_iconst (v := 1) hx hb dL_law_926 (by decide) ?_
  refine l_sld (j := 1) C0 d0 hS (by omega) rfl dL_law_927 dL_law_928 ?_
  rw [← ha1]
  refine lv_aload_n hx hb dL_law_929 rfl (lv_at hl 1 rfl) ?_
  refine lv_iload hx hb dL_law_930 (lv_at hl 5 rfl) ?_
  refine lv_iconst (v := 2) hx hb dL_law_932 (by decide) ?_
  refine l_sld (j := 2) C0 d0 hS (by omega) rfl dL_law_933 dL_law_934 ?_
  rw [← ha2]
  have hOk := cd_okr I (cd_foresee I hC)
  refine k_i (c_V0 (i := 141) (As := [.int a1, .int a2]) (rest := []) ⟨hx, hb, hml, hown, hts⟩ (metX6_foresee l X b w1 g1 hOk a1 a2) hK hW (by decide) Ent_M rfl q_777 q_778 q_779 q_6 q_780 hX6_foresee ⟨Nat.le_of_ble_eq_true rfl, Nat.le_of_ble_eq_true rfl, rfl, rfl⟩ rfl dL_law_935 rfl hl.1 (Nat.le_of_ble_eq_true rfl) ⟨by show 174 + 446 * k + 1 + 0 ≤ 614152; omega, by show 2027 + 3016 * k + 6 + 0 ≤ 7253648; omega⟩) hS (fun r' g2 H locs hp hW hS => ?_)
  obtain ⟨hth, hans, nb1, np1, I1⟩ := ca_foresee I hC hp
  rw [← her] at hth hans
  refine lv_istore (lv' := [(6, .int r'), (5, .int (nI er)), (0, .ref sb), (1, .ref (b + 0)), (2, .ref (b + 141)), (3, .ref (b + 173)), (4, .int (nI (4 * k)))]) hx hb dL_law_938 hl (by decide) rfl (fun ls hl => ?_)
  refine lv_aload_n hx hb dL_law_940 rfl (lv_at hl 4 rfl) ?_
  refine k_R (c_V0 (i := 141) (As := []) (rest := []) ⟨hx, hb, hml, hown, hts⟩ (metX6_thrown l X b w1 g2) hK hW (by decide) Ent_M rfl q_633 q_634 q_635 q_6 q_636 hX6_thrown ⟨Nat.le_of_ble_eq_true rfl, Nat.le_of_ble_eq_true rfl, rfl, rfl⟩ rfl dL_law_941 rfl hl.1 (Nat.le_of_ble_eq_true rfl) ⟨by show 174 + 446 * k + 1 + 0 + 0 ≤ 614152; omega, by show 2027 + 3016 * k + 6 + 0 + 0 ≤ 7253648; omega⟩) ?_
  refine w_top hth ?_
  refine lv_iload hx hb dL_law_944 (lv_at hl 1 rfl) ?_
  refine lv_icmp_eq (tgt := 951) hx hb dL_law_946 (by decide) (fun _ => ?_) (fun c_1 => absurd rfl c_1)
  refine lv_iload hx hb dL_law_951 (lv_at hl 1 rfl) ?_
  have fin : ∀ ls, lv_has ls 9 [(6, .int r'), (5, .int (nI er)), (0, .ref sb), (1, .ref (b + 0)), (2, .ref (b + 141)), (3, .ref (b + 173)), (4, .int (nI (4 * k)))] → W p l e room_1 (s.setDrawn d0) m #[Value.ref sb] below meth c H locs (174 + 446 * k + 1 + 0) (2027 + 3016 * k + 6 + 0) Q (F0 m 968 ls []) := by
    intro ls hl
    refine lv_goto (tgt := 1082) hx hb dL_law_968 (by decide) ?_
    refine W.widen (k := 174 + 446 * (k + 1)) (n := 2027 + 3016 * (k + 1)) (by omega) (by omega) ?_
    exact kk d0 nb1 np1 g2 w1 H locs ls hd0 I1 hW hS (lv_sub hl [2, 3, 4, 5, 6] rfl)
  refine lv_if_ne (tgt := 968) hx hb dL_law_953 (by decide) (fun _ => fin ls hl) (fun c_1 => ?_)
  have e0 : er = 0 := (nI_z0 (by omega)).mp c_1
  refine lv_aload_n hx hb dL_law_956 rfl (lv_at hl 5 rfl) ?_
  refine lv_iconst (v := 0) hx hb dL_law_957 (by decide) ?_
  refine w_lald hx hb hK hW dL_law_958 ?_
  refine lv_iload hx hb dL_law_959 (lv_at hl 0 rfl) ?_
  refine lv_i2l (v := r'.toInt64) hx hb dL_law_961 rfl ?_
  refine W.lcmp hx hb dL_law_962 ?_
  refine w_top (y := 0) (by rw [hw1 e0, hans e0, show lo0 r' = r'.toInt64 from rfl]; exact lg_self) ?_
  refine lv_if_eq (tgt := 968) hx hb dL_law_963 (by decide) (fun _ => fin ls hl) (fun c_1 => absurd rfl c_1)

set_option maxHeartbeats 1000000 in
set_option maxRecDepth 100000 in
theorem law_advise {p : Program} {l : Launch} {e : Env} {s : State} {m : MethodId} {below : List Frame} {meth : Method} {c : Code} {Q : State → Prop} {X : CX} {b sb L : Nat} {xs : Nat → Int32} (C0 : LC p l s m meth c X b sb L xs) {d0 : Drawn} (hd0 : s.drawn.sameBut d0 lw_cs) {k : Nat} (hk : 4 * k + 4 ≤ L) {nb np : Nat} {g : S2} {w : Int64} {H : Heap} {locs : List Loc} {ls : Array Slot} (I : Inv nb np g) (hW : wd X b g w H) (hS : va_S (AA b) s.heap H locs) (hl : lv_has ls 9 (LV b sb k)) (kk : ∀ (d1 : Drawn) (nb np : Nat) (g : S2) (w : Int64) (H : Heap) (locs : List Loc) (ls : Array Slot), s.drawn.sameBut d1 lw_cs → Inv nb np g → wd X b g w H → va_S (AA b) s.heap H locs → lv_has ls 9 (LV b sb k) → W p l e room_1 (s.setDrawn d1) m #[Value.ref sb] below meth c H locs (174 + 446 * (k + 1)) (2027 + 3016 * (k + 1)) Q (F0 m 1082 ls [])) : W p l e room_1 (s.setDrawn d0) m #[Value.ref sb] below meth c H locs (174 + 446 * k) (2027 + 3016 * k) Q (F0 m 971 ls []) := by
  have hx := C0.hx
  have hb := C0.hb
  have hL := C0.hL
  have hml := C0.hml
  have hst := C0.hst
  have hts := dr_words C0.hts d0
  have hown : (s.setDrawn d0).vm.findClass RL = some m.cls := C0.hown
  have hK : KK X (s.setDrawn d0) := C0.hK.dr d0
  have hT : KT b (s.setDrawn d0) (s.setDrawn d0).heap := C0.hT.dr d0
  have hkL : k < 512 := by omega
  have h := I.1.1.2.2.1.1
  obtain ⟨a1, ha1⟩ : ∃ z, z = xs (4 * k + 1) := ⟨_, rfl⟩
  refine lv_aload_n hx hb dL_law_971 rfl (lv_at hl 1 rfl) ?_
  refine lv_aload_n hx hb dL_law_972 rfl (lv_at hl 0 rfl) ?_
  refine lv_iload hx hb dL_law_973 (lv_at hl 4 rfl) ?_
  refine lv_iconst (v := 1) hx hb dL_law_975 (by decide) ?_
  refine l_sld (j := 1) C0 d0 hS (by omega) rfl dL_law_976 dL_law_977 ?_
  rw [← ha1]
  refine lv_aload_n hx hb dL_law_978 rfl (lv_at hl 3 rfl) ?_
  refine va_calli (c_SW (As := [.ref (b + 0), .int a1, .ref (b + 173)]) (rest := []) ⟨hx, hb, hml, hown, hts⟩ (metL_advise l hst X b w g h I.2 a1) hK hT hS hW q_520 q_521 q_0 q_522 (n := 3) (by decide +kernel) ⟨Nat.le_of_ble_eq_true rfl, Nat.le_of_ble_eq_true rfl, rfl, rfl⟩ rfl dL_law_979 rfl hl.1 (Nat.le_of_ble_eq_true rfl) ⟨by show 174 + 446 * k + 1 ≤ 614152; omega, by show 2027 + 3016 * k + 6 ≤ 7253648; omega⟩) hS (fun _ _ h => h) (fun _ h => h) (fun kv u t H locs ht hvm hp hW hz hk1 hS => ?_)
  obtain ⟨g1, w1⟩ := u
  obtain ⟨r, hC, hkv, hw1, h4⟩ := hp
  replace hW : wd X b g1 w1 H := ht ▸ hW
  replace hC : CP g (er_1 1 120 a1) (fun r g1 => r = nI (f_adv g nb np (cl a1) 16).2.1 ∧ g1 = (f_adv g nb np (cl a1) 16).1) r g1 := hC
  obtain ⟨er, her⟩ : ∃ z, z = (er_1 1 120 a1) := ⟨_, rfl⟩
  rw [← her] at hkv hw1 h4
  replace hw1 : er = 0 → w1 = lo0 r := hw1
  subst hkv
  refine lv_istore (lv' := [(5, .int (nI er)), (0, .ref sb), (1, .ref (b + 0)), (2, .ref (b + 141)), (3, .ref (b + 173)), (4, .int (nI (4 * k)))]) hx hb dL_law_982 hl (by decide) rfl (fun ls hl => ?_)
  refine lv_aload_n hx hb dL_law_984 rfl (lv_at hl 3 rfl) ?_
  refine lv_aload_n hx hb dL_law_985 rfl (lv_at hl 1 rfl) ?_
  refine lv_iload hx hb dL_law_986 (lv_at hl 5 rfl) ?_
  refine lv_iconst (v := 1) hx hb dL_law_988 (by decide) ?_
  refine l_sld (j := 1) C0 d0 hS (by omega) rfl dL_law_989 dL_law_990 ?_
  rw [← ha1]
  have hOk := cd_okr I (cd_advise I hC)
  refine k_i (c_V0 (i := 141) (As := [.int a1]) (rest := []) ⟨hx, hb, hml, hown, hts⟩ (metX6_advise l X b w1 g1 hOk a1) hK hW (by decide) Ent_M rfl q_781 q_782 q_783 q_6 q_784 hX6_advise ⟨Nat.le_of_ble_eq_true rfl, Nat.le_of_ble_eq_true rfl, rfl, rfl⟩ rfl dL_law_991 rfl hl.1 (Nat.le_of_ble_eq_true rfl) ⟨by show 174 + 446 * k + 1 + 0 ≤ 614152; omega, by show 2027 + 3016 * k + 6 + 0 ≤ 7253648; omega⟩) hS (fun r' g2 H locs hp hW hS => ?_)
  obtain ⟨hth, hans, nb1, np1, I1⟩ := ca_advise I hC hp
  rw [← her] at hth hans
  refine lv_istore (lv' := [(6, .int r'), (5, .int (nI er)), (0, .ref sb), (1, .ref (b + 0)), (2, .ref (b + 141)), (3, .ref (b + 173)), (4, .int (nI (4 * k)))]) hx hb dL_law_994 hl (by decide) rfl (fun ls hl => ?_)
  refine lv_aload_n hx hb dL_law_996 rfl (lv_at hl 4 rfl) ?_
  refine k_R (c_V0 (i := 141) (As := []) (rest := []) ⟨hx, hb, hml, hown, hts⟩ (metX6_thrown l X b w1 g2) hK hW (by decide) Ent_M rfl q_633 q_634 q_635 q_6 q_636 hX6_thrown ⟨Nat.le_of_ble_eq_true rfl, Nat.le_of_ble_eq_true rfl, rfl, rfl⟩ rfl dL_law_997 rfl hl.1 (Nat.le_of_ble_eq_true rfl) ⟨by show 174 + 446 * k + 1 + 0 + 0 ≤ 614152; omega, by show 2027 + 3016 * k + 6 + 0 + 0 ≤ 7253648; omega⟩) ?_
  refine w_top hth ?_
  refine lv_iload hx hb dL_law_1000 (lv_at hl 1 rfl) ?_
  refine lv_icmp_eq (tgt := 1007) hx hb dL_law_1002 (by decide) (fun _ => ?_) (fun c_1 => absurd rfl c_1)
  refine lv_iload hx hb dL_law_1007 (lv_at hl 1 rfl) ?_
  have fin : ∀ ls, lv_has ls 9 [(6, .int r'), (5, .int (nI er)), (0, .ref sb), (1, .ref (b + 0)), (2, .ref (b + 141)), (3, .ref (b + 173)), (4, .int (nI (4 * k)))] → W p l e room_1 (s.setDrawn d0) m #[Value.ref sb] below meth c H locs (174 + 446 * k + 1 + 0) (2027 + 3016 * k + 6 + 0) Q (F0 m 1024 ls []) := by
    intro ls hl
    refine lv_goto (tgt := 1082) hx hb dL_law_1024 (by decide) ?_
    refine W.widen (k := 174 + 446 * (k + 1)) (n := 2027 + 3016 * (k + 1)) (by omega) (by omega) ?_
    exact kk d0 nb1 np1 g2 w1 H locs ls hd0 I1 hW hS (lv_sub hl [2, 3, 4, 5, 6] rfl)
  refine lv_if_ne (tgt := 1024) hx hb dL_law_1009 (by decide) (fun _ => fin ls hl) (fun c_1 => ?_)
  have e0 : er = 0 := (nI_z0 (by omega)).mp c_1
  refine lv_aload_n hx hb dL_law_1012 rfl (lv_at hl 5 rfl) ?_
  refine lv_iconst (v := 0) hx hb dL_law_1013 (by decide) ?_
  refine w_lald hx hb hK hW dL_law_1014 ?_
  refine lv_iload hx hb dL_law_1015 (lv_at hl 0 rfl) ?_
  refine lv_i2l (v := r'.toInt64) hx hb dL_law_1017 rfl ?_
  refine W.lcmp hx hb dL_law_1018 ?_
  refine w_top (y := 0) (by rw [hw1 e0, hans e0, show lo0 r' = r'.toInt64 from rfl]; exact lg_self) ?_
  refine lv_if_eq (tgt := 1024) hx hb dL_law_1019 (by decide) (fun _ => fin ls hl) (fun c_1 => absurd rfl c_1)

set_option maxHeartbeats 1000000 in
set_option maxRecDepth 100000 in
theorem law_mean {p : Program} {l : Launch} {e : Env} {s : State} {m : MethodId} {below : List Frame} {meth : Method} {c : Code} {Q : State → Prop} {X : CX} {b sb L : Nat} {xs : Nat → Int32} (C0 : LC p l s m meth c X b sb L xs) {d0 : Drawn} (hd0 : s.drawn.sameBut d0 lw_cs) {k : Nat} (hk : 4 * k + 4 ≤ L) {nb np : Nat} {g : S2} {w : Int64} {H : Heap} {locs : List Loc} {ls : Array Slot} (I : Inv nb np g) (hW : wd X b g w H) (hS : va_S (AA b) s.heap H locs) (hl : lv_has ls 9 (LV b sb k)) (kk : ∀ (d1 : Drawn) (nb np : Nat) (g : S2) (w : Int64) (H : Heap) (locs : List Loc) (ls : Array Slot), s.drawn.sameBut d1 lw_cs → Inv nb np g → wd X b g w H → va_S (AA b) s.heap H locs → lv_has ls 9 (LV b sb k) → W p l e room_1 (s.setDrawn d1) m #[Value.ref sb] below meth c H locs (174 + 446 * (k + 1)) (2027 + 3016 * (k + 1)) Q (F0 m 1082 ls [])) : W p l e room_1 (s.setDrawn d0) m #[Value.ref sb] below meth c H locs (174 + 446 * k) (2027 + 3016 * k) Q (F0 m 1027 ls []) := by
  have hx := C0.hx
  have hb := C0.hb
  have hL := C0.hL
  have hml := C0.hml
  have hst := C0.hst
  have hts := dr_words C0.hts d0
  have hown : (s.setDrawn d0).vm.findClass RL = some m.cls := C0.hown
  have hK : KK X (s.setDrawn d0) := C0.hK.dr d0
  have hT : KT b (s.setDrawn d0) (s.setDrawn d0).heap := C0.hT.dr d0
  have hkL : k < 512 := by omega
  have h := I.1.1.2.2.1.1
  have hn50 := h.2.1.2
  refine lv_aload_n hx hb dL_law_1027 rfl (lv_at hl 1 rfl) ?_
  refine va_calldD hd0 (c_V0D (i := 0) (As := []) (rest := []) ⟨hx, hb, hml, hown, hts⟩ (metX4_mean l X b w g h) hK hW (by decide) Ent_0 rfl q_163 q_164 q_165 q_1 q_166 hX4_mean ⟨Nat.le_of_ble_eq_true rfl, Nat.le_of_ble_eq_true rfl, rfl, rfl⟩ rfl dL_law_1028 rfl hl.1 (Nat.le_of_ble_eq_true rfl) ⟨by show _ + 0 ≤ 614152; omega, by show _ + 0 ≤ 7253648; omega⟩) hS (fun _ _ h => h) (fun _ h => h) (fun r g1 t H locs ht hvm hp hW hz hk1 hS d1 hd1 => ?_)
  obtain ⟨hp, hg⟩ := hp
  rw [hg, ht] at hW
  refine lv_dstore (lv' := [(5, .double r), (0, .ref sb), (1, .ref (b + 0)), (2, .ref (b + 141)), (3, .ref (b + 173)), (4, .int (nI (4 * k)))]) hx hb dL_law_1031 hl (by decide) rfl (fun ls hl => ?_)
  have hts := dr_words C0.hts d1
  have hown : (s.setDrawn d1).vm.findClass RL = some m.cls := C0.hown
  have hK : KK X (s.setDrawn d1) := C0.hK.dr d1
  refine lv_aload_n hx hb dL_law_1033 rfl (lv_at hl 3 rfl) ?_
  refine va_calldD hd1 (c_V0D (i := 141) (As := []) (rest := []) ⟨hx, hb, hml, hown, hts⟩ (metX6_mean l X b w g I.1.1.2.2.1.2) hK hW (by decide) Ent_M rfl q_785 q_786 q_787 q_6 q_788 hX6_mean ⟨Nat.le_of_ble_eq_true rfl, Nat.le_of_ble_eq_true rfl, rfl, rfl⟩ rfl dL_law_1034 rfl hl.1 (Nat.le_of_ble_eq_true rfl) ⟨by show _ + 0 ≤ 614152; omega, by show _ + 0 ≤ 7253648; omega⟩) hS (fun _ _ h => h) (fun _ h => h) (fun r' g2 t H locs ht hvm hp' hW hz hk1 hS d2 hd2 => ?_)
  obtain ⟨hp', hg'⟩ := hp'
  rw [hg', ht] at hW
  have hs : sumF (fun q => g (1 + 20 + q) 5) np = sumF (g 156) 50 := a_sum (k := 5) I.1.1.1 hn50 (by omega) (fun q h1 h2 => (I.1.2.2.2.2 q h1 h2).2.2.1)
  rw [hs] at hp
  have hsame := mv_same hp hp'
  refine lv_dstore (lv' := [(7, .double r'), (5, .double r), (0, .ref sb), (1, .ref (b + 0)), (2, .ref (b + 141)), (3, .ref (b + 173)), (4, .int (nI (4 * k)))]) hx hb dL_law_1037 hl (by decide) rfl (fun ls hl => ?_)
  have fin : ∀ ls, lv_has ls 9 [(7, .double r'), (5, .double r), (0, .ref sb), (1, .ref (b + 0)), (2, .ref (b + 141)), (3, .ref (b + 173)), (4, .int (nI (4 * k)))] → W p l e room_1 (s.setDrawn d2) m #[Value.ref sb] below meth c H locs (174 + 446 * k + 0 + 0) (2027 + 3016 * k + 0 + 0) Q (F0 m 1065 ls []) := by
    intro ls hl
    refine lv_goto (tgt := 1082) hx hb dL_law_1065 (by decide) ?_
    refine W.widen (k := 174 + 446 * (k + 1)) (n := 2027 + 3016 * (k + 1)) (by omega) (by omega) ?_
    exact kk d2 nb np (thr0 g) w H locs ls hd2 (inv_thr I) hW hS (lv_sub hl [2, 3, 4, 5, 6] rfl)
  refine lv_dload hx hb dL_law_1039 (lv_at hl 1 rfl) ?_
  refine lv_dload hx hb dL_law_1041 (lv_at hl 0 rfl) ?_
  refine lv_dcmp hx hb dL_law_1043 ?_
  refine lv_if_eq (tgt := 1065) hx hb dL_law_1044 (by decide) (fun _ => fin ls hl) (fun c_1 => ?_)
  have k1 : ¬ Op.cmpValue (FP.dcmp r r) CmpOp.l = 0 := by
    rcases hsame with rfl | ⟨z, _⟩
    · exact c_1
    · rw [nan_cmp z]; decide
  have k2 : ¬ Op.cmpValue (FP.dcmp r' r') CmpOp.l = 0 := by
    rcases hsame with rfl | ⟨_, z⟩
    · exact c_1
    · rw [nan_cmp z]; decide
  refine lv_dload hx hb dL_law_1047 (lv_at hl 1 rfl) ?_
  refine lv_dload hx hb dL_law_1049 (lv_at hl 1 rfl) ?_
  refine lv_dcmp hx hb dL_law_1051 ?_
  refine lv_if_eq (tgt := 1063) hx hb dL_law_1052 (by decide) (fun c_2 => absurd c_2 k1) (fun _ => ?_)
  refine lv_dload hx hb dL_law_1055 (lv_at hl 0 rfl) ?_
  refine lv_dload hx hb dL_law_1057 (lv_at hl 0 rfl) ?_
  refine lv_dcmp hx hb dL_law_1059 ?_
  refine lv_if_ne (tgt := 1065) hx hb dL_law_1060 (by decide) (fun _ => fin ls hl) (fun c_2 => absurd c_2 k2)

set_option maxHeartbeats 1000000 in
set_option maxRecDepth 100000 in
theorem law_digest {p : Program} {l : Launch} {e : Env} {s : State} {m : MethodId} {below : List Frame} {meth : Method} {c : Code} {Q : State → Prop} {X : CX} {b sb L : Nat} {xs : Nat → Int32} (C0 : LC p l s m meth c X b sb L xs) {d0 : Drawn} (hd0 : s.drawn.sameBut d0 lw_cs) {k : Nat} (hk : 4 * k + 4 ≤ L) {nb np : Nat} {g : S2} {w : Int64} {H : Heap} {locs : List Loc} {ls : Array Slot} (I : Inv nb np g) (hW : wd X b g w H) (hS : va_S (AA b) s.heap H locs) (hl : lv_has ls 9 (LV b sb k)) (kk : ∀ (d1 : Drawn) (nb np : Nat) (g : S2) (w : Int64) (H : Heap) (locs : List Loc) (ls : Array Slot), s.drawn.sameBut d1 lw_cs → Inv nb np g → wd X b g w H → va_S (AA b) s.heap H locs → lv_has ls 9 (LV b sb k) → W p l e room_1 (s.setDrawn d1) m #[Value.ref sb] below meth c H locs (174 + 446 * (k + 1)) (2027 + 3016 * (k + 1)) Q (F0 m 1082 ls [])) : W p l e room_1 (s.setDrawn d0) m #[Value.ref sb] below meth c H locs (174 + 446 * k) (2027 + 3016 * k) Q (F0 m 1068 ls []) := by
  have hx := C0.hx
  have hb := C0.hb
  have hL := C0.hL
  have hml := C0.hml
  have hst := C0.hst
  have hts := dr_words C0.hts d0
  have hown : (s.setDrawn d0).vm.findClass RL = some m.cls := C0.hown
  have hK : KK X (s.setDrawn d0) := C0.hK.dr d0
  have hT : KT b (s.setDrawn d0) (s.setDrawn d0).heap := C0.hT.dr d0
  have hkL : k < 512 := by omega
  have h := I.1.1.2.2.1.1
  refine lv_aload_n hx hb dL_law_1068 rfl (lv_at hl 1 rfl) ?_
  refine k_RL (c_V0 (i := 0) (As := []) (rest := []) ⟨hx, hb, hml, hown, hts⟩ (metX4_digest l X b w g h) hK hW (by decide) Ent_0 rfl q_171 q_172 q_173 q_1 q_174 hX4_digest ⟨Nat.le_of_ble_eq_true rfl, Nat.le_of_ble_eq_true rfl, rfl, rfl⟩ rfl dL_law_1069 rfl hl.1 (Nat.le_of_ble_eq_true rfl) ⟨by show _ + 0 ≤ 614152; omega, by show _ + 0 ≤ 7253648; omega⟩) ?_
  refine lv_aload_n hx hb dL_law_1072 rfl (lv_at hl 2 rfl) ?_
  refine k_l (c_V0 (i := 141) (As := []) (rest := [.long (f_dig g nb np)]) ⟨hx, hb, hml, hown, hts⟩ (metX6_digest l X b w g I.1.1.2.2.1.2) hK hW (by decide) Ent_M rfl q_789 q_790 q_791 q_6 q_792 hX6_digest ⟨Nat.le_of_ble_eq_true rfl, Nat.le_of_ble_eq_true rfl, rfl, rfl⟩ rfl dL_law_1073 rfl hl.1 (Nat.le_of_ble_eq_true rfl) ⟨by show _ + 446 ≤ 614152; omega, by show _ + 3016 ≤ 7253648; omega⟩) hS (fun r g2 H locs hp hW hS => ?_)
  obtain ⟨rfl, rfl⟩ := hp
  have hI2 : Inv2 nb np g (thr0 g) := inv2_eq I.1 EqC.rf eqd_thr
  refine W.lcmp hx hb dL_law_1076 ?_
  refine w_top (y := 0) (by rw [a_dig hI2]; exact lg_self) ?_
  refine lv_if_eq (tgt := 1082) hx hb dL_law_1077 (by decide) (fun _ => ?_) (fun c_1 => absurd rfl c_1)
  refine W.widen (k := 174 + 446 * (k + 1)) (n := 2027 + 3016 * (k + 1)) (by omega) (by omega) ?_
  exact kk d0 nb np (thr0 g) w H locs ls hd0 (inv_thr I) hW hS hl
