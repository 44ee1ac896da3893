set_option maxHeartbeats 40000000 in
set_option maxRecDepth 100000 in
/-- the law's case 0 -/
theorem law_c0 {p : Program} {e : Env} {s : State} {m : MethodId} {below : List Frame} {meth : Method} {c : Code} (l : Launch) (hl9 : l.stackTraces = false) {b L : Nat} {xs : Nat → Int32} (hLN : L ≤ 3072) (hx : p.tables.exec = Jvm.exec) (hb : c.code = code) (hr : meth.sig.returnType = ret) (hml : c.maxLocals = 7) (hown : s.vm.findClass R_law = some m.cls) (hA : ∀ w ∈ AL, w.before #[Value.ref b] s = true) (hXs : va_X b L xs s s.heap) (hbl : b < s.heap.size) (hlocks : meth.locks = false) {dC : Nat → ClassId} {dI : Nat → Nat → Nat} {dA : Nat → ClassId} {sz : Nat} (hE : en dC dI dA sz s) (hsz : sz = s.heap.size) (hbA : ¬ ty_A sz b) (X : va_W) (q1 q13 q29 : Nat) (n : Nat) (ih : LJ p l e s m below meth c b dC dI dA sz X q1 q13 q29 n) (i : Int32) (Γ : ty_G) (g : gh) (kc ks : Nat) (H : Heap) (locs : List Loc) (ls : Array Slot) (hm : (3073 - i.toInt : Int) < (n + 1 : Nat)) (hi0 : 0 ≤ i.toInt ∧ i.toInt ≤ 3072) (hy4 : g 4 0 ≤ i.toInt) (hRL : RLA g) (hIJ : IJ g) (hBd : Bd Γ g) (hU : Un Γ) (t_q1 : ty Γ q1 1) (t_q13 : ty Γ q13 30) (t_q29 : ty Γ q29 25) (hkc : kc ≤ 300 + i.toInt.toNat) (hks : ks ≤ 30000 + 28 * i.toInt.toNat) (hG : ty_ok (dC, dI) vwCl Γ (TP dA Γ g) sz X H) (hS : va_S (ty_A sz) s.heap H locs) (hl : lv_has ls 7 [(4, .int i), (3, .ref q29), (2, .ref q13), (1, .ref q1), (0, .ref b)]) (hiL : i.toInt + 6 ≤ (L : Int)) : W p l e room_1 s m #[Value.ref b] below meth c H locs kc ks (lw_Z below #[Value.ref b] s) (F0 m 152 ls []) := by
  refine lv_aload_n hx hb dL_law_152 rfl (lv_at hl 3 rfl) ?_
  refine lv_aload_n hx hb dL_law_153 rfl (lv_at hl 4 rfl) ?_
  refine lv_iload hx hb dL_law_154 (lv_at hl 0 rfl) ?_
  refine ty_iconst hx hb (1) dL_law_156 (by decide) (fun x85 h86 => ?_)
  refine ty_iadd hx hb dL_law_157 (fun x87 h88 => ?_)
  have h89 := lw_ix (k := 1) h86 h88 hi0 hiL hLN (by decide)
  refine va_sld hx hb hXs hbl hbA hS (i := x87) (ty_ix h89.2) dL_law_158 ?_
  refine W.eq (g2 := F0 m 159 ls [.int (xs (i.toInt.toNat + 1)), .ref q1]) (by rw [lw_xs (xs := xs) h89.1 hi0.1]) ?_
  clear h89 h88 h86
  refine lv_topi (fun x90 s91 => ?_)
  refine lv_aload_n hx hb dL_law_159 rfl (lv_at hl 4 rfl) ?_
  refine lv_iload hx hb dL_law_160 (lv_at hl 0 rfl) ?_
  refine ty_iconst hx hb (2) dL_law_162 (by decide) (fun x92 h93 => ?_)
  refine ty_iadd hx hb dL_law_163 (fun x94 h95 => ?_)
  have h96 := lw_ix (k := 2) h93 h95 hi0 hiL hLN (by decide)
  refine va_sld hx hb hXs hbl hbA hS (i := x94) (ty_ix h96.2) dL_law_164 ?_
  refine W.eq (g2 := F0 m 165 ls [.int (xs (i.toInt.toNat + 2)), .int x90, .ref q1]) (by rw [lw_xs (xs := xs) h96.1 hi0.1]) ?_
  clear h96 h95 h93
  refine lv_topi (fun x97 s98 => ?_)
  refine cIB (va_runV (C := RX8) (As := [.int x90, .int x97]) (rest := []) ⟨hx, hb, hml, hown, hA⟩ (k_X8_flat l dC dI dA sz X Γ hU g q1 t_q1 x90 x97   (RL_1 hRL) (hBd)) ⟨callB_of 2 hA (al_A wd_1_200) rfl rfl rfl (hA _ wd_1_1) (hA _ wd_1_197) (by decide +kernel) ⟨Nat.le_of_ble_eq_true rfl, Nat.le_of_ble_eq_true rfl⟩, hA _ wd_1_198, hA _ wd_1_199⟩ ⟨bl, recv_X8 hE hG t_q1, fun U hU9 hW9 => ⟨rfl, by rw [hU9]; exact hG, hE.go hS hU9 hW9⟩⟩ rfl rfl hl.1 rfl (lv_room (Nat.le_of_ble_eq_true rfl)) dL_law_165 ⟨(Nat.le_trans (show kc + 4 ≤ 300000 by omega) (Nat.le_of_ble_eq_true rfl)), (Nat.le_trans (show ks + 165 ≤ 300000 by omega) (Nat.le_of_ble_eq_true rfl))⟩) hS (fun x101 u99 H locs w100 hG hS => ?_)
  obtain ⟨Γ102, g103⟩ := u99
  dsimp only at w100 hG
  obtain ⟨hx104, hU, hB108, hf105, w106, hq109, hq110, hq111, hq112, hq113⟩ := w100
  have hX114 : ext Γ Γ102 := ext.trans ext.rf hx104
  replace t_q29 : ty Γ102 q29 25 := hx104.one t_q29 (by decide)
  replace t_q13 : ty Γ102 q13 30 := hx104.one t_q13 (by decide)
  replace t_q1 : ty Γ102 q1 1 := hx104.one t_q1 (by decide)
  replace w106 := HD.mk w106
  replace hq109 := HD.mk hq109
  replace hq110 := HD.mk hq110
  replace hq111 := HD.mk hq111
  replace hq112 := HD.mk hq112
  replace hq113 := HD.mk hq113
  have hw115 : ∀ c, c ∉ ([1, 33, 41, 42, 43, 44, 45] : List Nat) → g103 c = g c := fun c hc => funext fun j => hf105 c j (fun q => hc (by rw [q]; decide)) (fun q => hc (by rw [q]; decide)) (fun q => hc (by rw [q]; decide)) (fun q => hc (by rw [q]; decide)) (fun q => hc (by rw [q]; decide)) (fun q => hc (by rw [q]; decide)) (fun q => hc (by rw [q]; decide))
  have hj116 : IJ g103 := IJ_e hIJ (hw115 126 (by decide)) (hw115 132 (by decide)) (hw115 134 (by decide))
  refine lv_pop hx hb dL_law_168 rfl ?_
  refine lv_aload_n hx hb dL_law_169 rfl (lv_at hl 2 rfl) ?_
  refine lv_aload_n hx hb dL_law_170 rfl (lv_at hl 4 rfl) ?_
  refine lv_iload hx hb dL_law_171 (lv_at hl 0 rfl) ?_
  refine ty_iconst hx hb (1) dL_law_173 (by decide) (fun x117 h118 => ?_)
  refine ty_iadd hx hb dL_law_174 (fun x119 h120 => ?_)
  have h121 := lw_ix (k := 1) h118 h120 hi0 hiL hLN (by decide)
  refine va_sld hx hb hXs hbl hbA hS (i := x119) (ty_ix h121.2) dL_law_175 ?_
  refine W.eq (g2 := F0 m 176 ls [.int (xs (i.toInt.toNat + 1)), .ref q13]) (by rw [lw_xs (xs := xs) h121.1 hi0.1]) ?_
  clear h121 h120 h118
  refine W.eq (g2 := F0 m 176 ls [.int x90, .ref q13]) (by rw [s91]) ?_
  refine lv_aload_n hx hb dL_law_176 rfl (lv_at hl 4 rfl) ?_
  refine lv_iload hx hb dL_law_177 (lv_at hl 0 rfl) ?_
  refine ty_iconst hx hb (2) dL_law_179 (by decide) (fun x122 h123 => ?_)
  refine ty_iadd hx hb dL_law_180 (fun x124 h125 => ?_)
  have h126 := lw_ix (k := 2) h123 h125 hi0 hiL hLN (by decide)
  refine va_sld hx hb hXs hbl hbA hS (i := x124) (ty_ix h126.2) dL_law_181 ?_
  refine W.eq (g2 := F0 m 182 ls [.int (xs (i.toInt.toNat + 2)), .int x90, .ref q13]) (by rw [lw_xs (xs := xs) h126.1 hi0.1]) ?_
  clear h126 h125 h123
  refine W.eq (g2 := F0 m 182 ls [.int x97, .int x90, .ref q13]) (by rw [s98]) ?_
  refine cI (va_runV (C := RX9) (As := [.int x90, .int x97]) (rest := []) ⟨hx, hb, hml, hown, hA⟩ (k_X9_flat l dC dI dA sz X Γ102 hU g103 q13 t_q13 x90 x97   (RM_101 hRL (hw115 101 (by decide)))) ⟨callB_of 2 hA (al_A wd_5_35) rfl rfl rfl (hA _ wd_1_7) (hA _ wd_5_32) (by decide +kernel) ⟨Nat.le_of_ble_eq_true rfl, Nat.le_of_ble_eq_true rfl⟩, hA _ wd_5_33, hA _ wd_5_34⟩ ⟨bl, recv_X9 hE hG t_q13, fun U hU9 hW9 => ⟨rfl, by rw [hU9]; exact hG, hE.go hS hU9 hW9⟩⟩ rfl rfl hl.1 rfl (lv_room (Nat.le_of_ble_eq_true rfl)) dL_law_182 ⟨(Nat.le_trans (show (kc + 4) + 0 ≤ 300000 by omega) (Nat.le_of_ble_eq_true rfl)), (Nat.le_trans (show (ks + 165) + 0 ≤ 300000 by omega) (Nat.le_of_ble_eq_true rfl))⟩) hS (fun x129 u127 H locs w128 hG hS => ?_)
  obtain ⟨hf131, w128, hq130⟩ := w128
  replace w128 := HD.mk w128
  replace hq130 := HD.mk hq130
  have hw132 : ∀ c, c ∉ ([100, 101, 102, 103] : List Nat) → u127 c = g103 c := fun c hc => funext fun j => hf131 c j (fun q => hc (by rw [q]; decide)) (fun q => hc (by rw [q]; decide)) (fun q => hc (by rw [q]; decide)) (fun q => hc (by rw [q]; decide))
  have hst133 := st_flat (g := g) (u1 := g103) (u2 := u127) (r1 := x101) (r2 := x129) hRL hw115 hw132 w106.v.1 w106.v.2 hq109.v hq110.v hq111.v hq112.v hq113.v w128.v.1 w128.v.2 hq130.v
  have hrr134 := hst133.2
  refine lv_pop hx hb dL_law_185 rfl ?_
  refine lv_goto (tgt := 1047) hx hb dL_law_186 (by decide) ?_
  obtain ⟨x135, h136⟩ : ∃ y : Int32, y = i + Int32.ofInt (6) := ⟨_, rfl⟩
  try have h137 : x135.toInt = i.toInt + (6) := ty_inc h136 (by decide) (by omega) (by omega)
  refine lv_iinc (v := x135) (lv' := [(4, .int x135), (3, .ref q29), (2, .ref q13), (1, .ref q1), (0, .ref b)]) hx hb dL_law_1047 hl (k := 0) rfl h136.symm (by decide) rfl (fun ls hl => ?_)
  refine lv_goto (tgt := 23) hx hb dL_law_1050 (by decide) ?_
  exact ih x135 Γ102 u127 ((kc + 4)) ((ks + 165)) _ _ ls (by omega) (by omega) (by have a9 := congrFun (hw132 4 (by decide)) 0; have b9 := congrFun (hw115 4 (by decide)) 0; omega) hst133.1 (IJ_e hj116 (hw132 126 (by decide)) (hw132 132 (by decide)) (hw132 134 (by decide))) (Bd_e hB108 (hw132 33 (by decide)) (hw132 34 (by decide)) (hw132 35 (by decide))) hU t_q1 t_q13 t_q29 (by omega) (by omega) hG hS (lv_sub hl [0, 1, 2, 3, 4] rfl)
set_option maxHeartbeats 40000000 in
set_option maxRecDepth 100000 in
/-- the law's case 1 -/
theorem law_c1 {p : Program} {e : Env} {s : State} {m : MethodId} {below : List Frame} {meth : Method} {c : Code} (l : Launch) (hl9 : l.stackTraces = false) {b L : Nat} {xs : Nat → Int32} (hLN : L ≤ 3072) (hx : p.tables.exec = Jvm.exec) (hb : c.code = code) (hr : meth.sig.returnType = ret) (hml : c.maxLocals = 7) (hown : s.vm.findClass R_law = some m.cls) (hA : ∀ w ∈ AL, w.before #[Value.ref b] s = true) (hXs : va_X b L xs s s.heap) (hbl : b < s.heap.size) (hlocks : meth.locks = false) {dC : Nat → ClassId} {dI : Nat → Nat → Nat} {dA : Nat → ClassId} {sz : Nat} (hE : en dC dI dA sz s) (hsz : sz = s.heap.size) (hbA : ¬ ty_A sz b) (X : va_W) (q1 q13 q29 : Nat) (n : Nat) (ih : LJ p l e s m below meth c b dC dI dA sz X q1 q13 q29 n) (i : Int32) (Γ : ty_G) (g : gh) (kc ks : Nat) (H : Heap) (locs : List Loc) (ls : Array Slot) (hm : (3073 - i.toInt : Int) < (n + 1 : Nat)) (hi0 : 0 ≤ i.toInt ∧ i.toInt ≤ 3072) (hy4 : g 4 0 ≤ i.toInt) (hRL : RLA g) (hIJ : IJ g) (hBd : Bd Γ g) (hU : Un Γ) (t_q1 : ty Γ q1 1) (t_q13 : ty Γ q13 30) (t_q29 : ty Γ q29 25) (hkc : kc ≤ 300 + i.toInt.toNat) (hks : ks ≤ 30000 + 28 * i.toInt.toNat) (hG : ty_ok (dC, dI) vwCl Γ (TP dA Γ g) sz X H) (hS : va_S (ty_A sz) s.heap H locs) (hl : lv_has ls 7 [(4, .int i), (3, .ref q29), (2, .ref q13), (1, .ref q1), (0, .ref b)]) (hiL : i.toInt + 6 ≤ (L : Int)) : W p l e room_1 s m #[Value.ref b] below meth c H locs kc ks (lw_Z below #[Value.ref b] s) (F0 m 189 ls []) := by
  refine lv_aload_n hx hb dL_law_189 rfl (lv_at hl 3 rfl) ?_
  refine lv_aload_n hx hb dL_law_190 rfl (lv_at hl 4 rfl) ?_
  refine lv_iload hx hb dL_law_191 (lv_at hl 0 rfl) ?_
  refine ty_iconst hx hb (1) dL_law_193 (by decide) (fun x138 h139 => ?_)
  refine ty_iadd hx hb dL_law_194 (fun x140 h141 => ?_)
  have h142 := lw_ix (k := 1) h139 h141 hi0 hiL hLN (by decide)
  refine va_sld hx hb hXs hbl hbA hS (i := x140) (ty_ix h142.2) dL_law_195 ?_
  refine W.eq (g2 := F0 m 196 ls [.int (xs (i.toInt.toNat + 1)), .ref q1]) (by rw [lw_xs (xs := xs) h142.1 hi0.1]) ?_
  clear h142 h141 h139
  refine lv_topi (fun x143 s144 => ?_)
  refine cIB (va_runV (C := RX8) (As := [.int x143]) (rest := []) ⟨hx, hb, hml, hown, hA⟩ (k_X8_owner l dC dI dA sz X Γ hU g q1 t_q1 x143   (RL_2 hRL) (hBd)) ⟨callB_of 1 hA (al_A wd_2_0) rfl rfl rfl (hA _ wd_1_1) (hA _ wd_1_237) (by decide +kernel) ⟨Nat.le_of_ble_eq_true rfl, Nat.le_of_ble_eq_true rfl⟩, hA _ wd_1_238, hA _ wd_1_239⟩ ⟨bl, recv_X8 hE hG t_q1, fun U hU9 hW9 => ⟨rfl, by rw [hU9]; exact hG, hE.go hS hU9 hW9⟩⟩ rfl rfl hl.1 rfl (lv_room (Nat.le_of_ble_eq_true rfl)) dL_law_196 ⟨(Nat.le_trans (show kc + 1 ≤ 300000 by omega) (Nat.le_of_ble_eq_true rfl)), (Nat.le_trans (show ks + 8 ≤ 300000 by omega) (Nat.le_of_ble_eq_true rfl))⟩) hS (fun x147 u145 H locs w146 hG hS => ?_)
  obtain ⟨Γ148, g149⟩ := u145
  dsimp only at w146 hG
  obtain ⟨hx150, hU, hB154, hf151, w152, hq155, hq156, hq157, hq158, hq159, hq160, hq161⟩ := w146
  have hX162 : ext Γ Γ148 := ext.trans ext.rf hx150
  replace t_q29 : ty Γ148 q29 25 := hx150.one t_q29 (by decide)
  replace t_q13 : ty Γ148 q13 30 := hx150.one t_q13 (by decide)
  replace t_q1 : ty Γ148 q1 1 := hx150.one t_q1 (by decide)
  replace w152 := HD.mk w152
  replace hq155 := HD.mk hq155
  replace hq156 := HD.mk hq156
  replace hq157 := HD.mk hq157
  replace hq158 := HD.mk hq158
  replace hq159 := HD.mk hq159
  replace hq160 := HD.mk hq160
  replace hq161 := HD.mk hq161
  have hw163 : ∀ c, c ∉ ([2, 34, 50, 51, 52, 53, 54, 55, 56] : List Nat) → g149 c = g c := fun c hc => funext fun j => hf151 c j (fun q => hc (by rw [q]; decide)) (fun q => hc (by rw [q]; decide)) (fun q => hc (by rw [q]; decide)) (fun q => hc (by rw [q]; decide)) (fun q => hc (by rw [q]; decide)) (fun q => hc (by rw [q]; decide)) (fun q => hc (by rw [q]; decide)) (fun q => hc (by rw [q]; decide)) (fun q => hc (by rw [q]; decide))
  have hj164 : IJ g149 := IJ_e hIJ (hw163 126 (by decide)) (hw163 132 (by decide)) (hw163 134 (by decide))
  refine lv_pop hx hb dL_law_199 rfl ?_
  refine lv_aload_n hx hb dL_law_200 rfl (lv_at hl 2 rfl) ?_
  refine lv_aload_n hx hb dL_law_201 rfl (lv_at hl 4 rfl) ?_
  refine lv_iload hx hb dL_law_202 (lv_at hl 0 rfl) ?_
  refine ty_iconst hx hb (1) dL_law_204 (by decide) (fun x165 h166 => ?_)
  refine ty_iadd hx hb dL_law_205 (fun x167 h168 => ?_)
  have h169 := lw_ix (k := 1) h166 h168 hi0 hiL hLN (by decide)
  refine va_sld hx hb hXs hbl hbA hS (i := x167) (ty_ix h169.2) dL_law_206 ?_
  refine W.eq (g2 := F0 m 207 ls [.int (xs (i.toInt.toNat + 1)), .ref q13]) (by rw [lw_xs (xs := xs) h169.1 hi0.1]) ?_
  clear h169 h168 h166
  refine W.eq (g2 := F0 m 207 ls [.int x143, .ref q13]) (by rw [s144]) ?_
  refine cI (va_runV (C := RX9) (As := [.int x143]) (rest := []) ⟨hx, hb, hml, hown, hA⟩ (k_X9_owner l dC dI dA sz X Γ148 hU g149 q13 t_q13 x143   (RM_104 hRL (hw163 104 (by decide)))) ⟨callB_of 1 hA (al_A wd_5_42) rfl rfl rfl (hA _ wd_1_7) (hA _ wd_5_39) (by decide +kernel) ⟨Nat.le_of_ble_eq_true rfl, Nat.le_of_ble_eq_true rfl⟩, hA _ wd_5_40, hA _ wd_5_41⟩ ⟨bl, recv_X9 hE hG t_q13, fun U hU9 hW9 => ⟨rfl, by rw [hU9]; exact hG, hE.go hS hU9 hW9⟩⟩ rfl rfl hl.1 rfl (lv_room (Nat.le_of_ble_eq_true rfl)) dL_law_207 ⟨(Nat.le_trans (show (kc + 1) + 0 ≤ 300000 by omega) (Nat.le_of_ble_eq_true rfl)), (Nat.le_trans (show (ks + 8) + 0 ≤ 300000 by omega) (Nat.le_of_ble_eq_true rfl))⟩) hS (fun x172 u170 H locs w171 hG hS => ?_)
  obtain ⟨hf174, w171, hq173⟩ := w171
  replace w171 := HD.mk w171
  replace hq173 := HD.mk hq173
  have hw175 : ∀ c, c ∉ ([100, 104, 105] : List Nat) → u170 c = g149 c := fun c hc => funext fun j => hf174 c j (fun q => hc (by rw [q]; decide)) (fun q => hc (by rw [q]; decide)) (fun q => hc (by rw [q]; decide))
  have hst176 := st_owner (g := g) (u1 := g149) (u2 := u170) (r1 := x147) (r2 := x172) hRL hw163 hw175 w152.v.1 w152.v.2 hq155.v hq156.v hq157.v hq158.v hq159.v hq160.v hq161.v w171.v.1 w171.v.2 hq173.v
  have hrr177 := hst176.2
  refine lv_pop hx hb dL_law_210 rfl ?_
  refine lv_goto (tgt := 1047) hx hb dL_law_211 (by decide) ?_
  obtain ⟨x178, h179⟩ : ∃ y : Int32, y = i + Int32.ofInt (6) := ⟨_, rfl⟩
  try have h180 : x178.toInt = i.toInt + (6) := ty_inc h179 (by decide) (by omega) (by omega)
  refine lv_iinc (v := x178) (lv' := [(4, .int x178), (3, .ref q29), (2, .ref q13), (1, .ref q1), (0, .ref b)]) hx hb dL_law_1047 hl (k := 0) rfl h179.symm (by decide) rfl (fun ls hl => ?_)
  refine lv_goto (tgt := 23) hx hb dL_law_1050 (by decide) ?_
  exact ih x178 Γ148 u170 ((kc + 1)) ((ks + 8)) _ _ ls (by omega) (by omega) (by have a9 := congrFun (hw175 4 (by decide)) 0; have b9 := congrFun (hw163 4 (by decide)) 0; omega) hst176.1 (IJ_e hj164 (hw175 126 (by decide)) (hw175 132 (by decide)) (hw175 134 (by decide))) (Bd_e hB154 (hw175 33 (by decide)) (hw175 34 (by decide)) (hw175 35 (by decide))) hU t_q1 t_q13 t_q29 (by omega) (by omega) hG hS (lv_sub hl [0, 1, 2, 3, 4] rfl)
set_option maxHeartbeats 40000000 in
set_option maxRecDepth 100000 in
/-- the law's case 2 -/
theorem law_c2 {p : Program} {e : Env} {s : State} {m : MethodId} {below : List Frame} {meth : Method} {c : Code} (l : Launch) (hl9 : l.stackTraces = false) {b L : Nat} {xs : Nat → Int32} (hLN : L ≤ 3072) (hx : p.tables.exec = Jvm.exec) (hb : c.code = code) (hr : meth.sig.returnType = ret) (hml : c.maxLocals = 7) (hown : s.vm.findClass R_law = some m.cls) (hA : ∀ w ∈ AL, w.before #[Value.ref b] s = true) (hXs : va_X b L xs s s.heap) (hbl : b < s.heap.size) (hlocks : meth.locks = false) {dC : Nat → ClassId} {dI : Nat → Nat → Nat} {dA : Nat → ClassId} {sz : Nat} (hE : en dC dI dA sz s) (hsz : sz = s.heap.size) (hbA : ¬ ty_A sz b) (X : va_W) (q1 q13 q29 : Nat) (n : Nat) (ih : LJ p l e s m below meth c b dC dI dA sz X q1 q13 q29 n) (i : Int32) (Γ : ty_G) (g : gh) (kc ks : Nat) (H : Heap) (locs : List Loc) (ls : Array Slot) (hm : (3073 - i.toInt : Int) < (n + 1 : Nat)) (hi0 : 0 ≤ i.toInt ∧ i.toInt ≤ 3072) (hy4 : g 4 0 ≤ i.toInt) (hRL : RLA g) (hIJ : IJ g) (hBd : Bd Γ g) (hU : Un Γ) (t_q1 : ty Γ q1 1) (t_q13 : ty Γ q13 30) (t_q29 : ty Γ q29 25) (hkc : kc ≤ 300 + i.toInt.toNat) (hks : ks ≤ 30000 + 28 * i.toInt.toNat) (hG : ty_ok (dC, dI) vwCl Γ (TP dA Γ g) sz X H) (hS : va_S (ty_A sz) s.heap H locs) (hl : lv_has ls 7 [(4, .int i), (3, .ref q29), (2, .ref q13), (1, .ref q1), (0, .ref b)]) (hiL : i.toInt + 6 ≤ (L : Int)) : W p l e room_1 s m #[Value.ref b] below meth c H locs kc ks (lw_Z below #[Value.ref b] s) (F0 m 214 ls []) := by
  refine lv_aload_n hx hb dL_law_214 rfl (lv_at hl 3 rfl) ?_
  refine lv_aload_n hx hb dL_law_215 rfl (lv_at hl 4 rfl) ?_
  refine lv_iload hx hb dL_law_216 (lv_at hl 0 rfl) ?_
  refine ty_iconst hx hb (1) dL_law_218 (by decide) (fun x181 h182 => ?_)
  refine ty_iadd hx hb dL_law_219 (fun x183 h184 => ?_)
  have h185 := lw_ix (k := 1) h182 h184 hi0 hiL hLN (by decide)
  refine va_sld hx hb hXs hbl hbA hS (i := x183) (ty_ix h185.2) dL_law_220 ?_
  refine W.eq (g2 := F0 m 221 ls [.int (xs (i.toInt.toNat + 1)), .ref q1]) (by rw [lw_xs (xs := xs) h185.1 hi0.1]) ?_
  clear h185 h184 h182
  refine lv_topi (fun x186 s187 => ?_)
  refine lv_aload_n hx hb dL_law_221 rfl (lv_at hl 4 rfl) ?_
  refine lv_iload hx hb dL_law_222 (lv_at hl 0 rfl) ?_
  refine ty_iconst hx hb (2) dL_law_224 (by decide) (fun x188 h189 => ?_)
  refine ty_iadd hx hb dL_law_225 (fun x190 h191 => ?_)
  have h192 := lw_ix (k := 2) h189 h191 hi0 hiL hLN (by decide)
  refine va_sld hx hb hXs hbl hbA hS (i := x190) (ty_ix h192.2) dL_law_226 ?_
  refine W.eq (g2 := F0 m 227 ls [.int (xs (i.toInt.toNat + 2)), .int x186, .ref q1]) (by rw [lw_xs (xs := xs) h192.1 hi0.1]) ?_
  clear h192 h191 h189
  refine lv_topi (fun x193 s194 => ?_)
  refine lv_aload_n hx hb dL_law_227 rfl (lv_at hl 4 rfl) ?_
  refine lv_iload hx hb dL_law_228 (lv_at hl 0 rfl) ?_
  refine ty_iconst hx hb (3) dL_law_230 (by decide) (fun x195 h196 => ?_)
  refine ty_iadd hx hb dL_law_231 (fun x197 h198 => ?_)
  have h199 := lw_ix (k := 3) h196 h198 hi0 hiL hLN (by decide)
  refine va_sld hx hb hXs hbl hbA hS (i := x197) (ty_ix h199.2) dL_law_232 ?_
  refine W.eq (g2 := F0 m 233 ls [.int (xs (i.toInt.toNat + 3)), .int x193, .int x186, .ref q1]) (by rw [lw_xs (xs := xs) h199.1 hi0.1]) ?_
  clear h199 h198 h196
  refine lv_topi (fun x200 s201 => ?_)
  refine cI (va_runV (C := RX8) (As := [.int x186, .int x193, .int x200]) (rest := []) ⟨hx, hb, hml, hown, hA⟩ (k_X8_own l dC dI dA sz X Γ hU g q1 t_q1 x186 x193 x200   (RL_1 hRL) (RL_2 hRL)) ⟨callB_of 3 hA (al_A wd_2_44) rfl rfl rfl (hA _ wd_1_1) (hA _ wd_2_41) (by decide +kernel) ⟨Nat.le_of_ble_eq_true rfl, Nat.le_of_ble_eq_true rfl⟩, hA _ wd_2_42, hA _ wd_2_43⟩ ⟨bl, recv_X8 hE hG t_q1, fun U hU9 hW9 => ⟨rfl, by rw [hU9]; exact hG, hE.go hS hU9 hW9⟩⟩ rfl rfl hl.1 rfl (lv_room (Nat.le_of_ble_eq_true rfl)) dL_law_233 ⟨(Nat.le_trans (show kc + 0 ≤ 300000 by omega) (Nat.le_of_ble_eq_true rfl)), (Nat.le_trans (show ks + 0 ≤ 300000 by omega) (Nat.le_of_ble_eq_true rfl))⟩) hS (fun x204 u202 H locs w203 hG hS => ?_)
  obtain ⟨hf206, hq205⟩ := w203
  replace hq205 := HD.mk hq205
  have hw207 : ∀ c, c ∉ ([43, 53] : List Nat) → u202 c = g c := fun c hc => funext fun j => hf206 c j (fun q => hc (by rw [q]; decide)) (fun q => hc (by rw [q]; decide))
  have hb208 : Bd Γ u202 := Bd_e hBd (hw207 33 (by decide)) (hw207 34 (by decide)) (hw207 35 (by decide))
  have hj209 : IJ u202 := IJ_e hIJ (hw207 126 (by decide)) (hw207 132 (by decide)) (hw207 134 (by decide))
  refine lv_pop hx hb dL_law_236 rfl ?_
  refine lv_aload_n hx hb dL_law_237 rfl (lv_at hl 2 rfl) ?_
  refine lv_aload_n hx hb dL_law_238 rfl (lv_at hl 4 rfl) ?_
  refine lv_iload hx hb dL_law_239 (lv_at hl 0 rfl) ?_
  refine ty_iconst hx hb (1) dL_law_241 (by decide) (fun x210 h211 => ?_)
  refine ty_iadd hx hb dL_law_242 (fun x212 h213 => ?_)
  have h214 := lw_ix (k := 1) h211 h213 hi0 hiL hLN (by decide)
  refine va_sld hx hb hXs hbl hbA hS (i := x212) (ty_ix h214.2) dL_law_243 ?_
  refine W.eq (g2 := F0 m 244 ls [.int (xs (i.toInt.toNat + 1)), .ref q13]) (by rw [lw_xs (xs := xs) h214.1 hi0.1]) ?_
  clear h214 h213 h211
  refine W.eq (g2 := F0 m 244 ls [.int x186, .ref q13]) (by rw [s187]) ?_
  refine lv_aload_n hx hb dL_law_244 rfl (lv_at hl 4 rfl) ?_
  refine lv_iload hx hb dL_law_245 (lv_at hl 0 rfl) ?_
  refine ty_iconst hx hb (2) dL_law_247 (by decide) (fun x215 h216 => ?_)
  refine ty_iadd hx hb dL_law_248 (fun x217 h218 => ?_)
  have h219 := lw_ix (k := 2) h216 h218 hi0 hiL hLN (by decide)
  refine va_sld hx hb hXs hbl hbA hS (i := x217) (ty_ix h219.2) dL_law_249 ?_
  refine W.eq (g2 := F0 m 250 ls [.int (xs (i.toInt.toNat + 2)), .int x186, .ref q13]) (by rw [lw_xs (xs := xs) h219.1 hi0.1]) ?_
  clear h219 h218 h216
  refine W.eq (g2 := F0 m 250 ls [.int x193, .int x186, .ref q13]) (by rw [s194]) ?_
  refine lv_aload_n hx hb dL_law_250 rfl (lv_at hl 4 rfl) ?_
  refine lv_iload hx hb dL_law_251 (lv_at hl 0 rfl) ?_
  refine ty_iconst hx hb (3) dL_law_253 (by decide) (fun x220 h221 => ?_)
  refine ty_iadd hx hb dL_law_254 (fun x222 h223 => ?_)
  have h224 := lw_ix (k := 3) h221 h223 hi0 hiL hLN (by decide)
  refine va_sld hx hb hXs hbl hbA hS (i := x222) (ty_ix h224.2) dL_law_255 ?_
  refine W.eq (g2 := F0 m 256 ls [.int (xs (i.toInt.toNat + 3)), .int x193, .int x186, .ref q13]) (by rw [lw_xs (xs := xs) h224.1 hi0.1]) ?_
  clear h224 h223 h221
  refine W.eq (g2 := F0 m 256 ls [.int x200, .int x193, .int x186, .ref q13]) (by rw [s201]) ?_
  refine cI (va_runV (C := RX9) (As := [.int x186, .int x193, .int x200]) (rest := []) ⟨hx, hb, hml, hown, hA⟩ (k_X9_own l dC dI dA sz X Γ hU u202 q13 t_q13 x186 x193 x200   (RM_101 hRL (hw207 101 (by decide))) (RM_104 hRL (hw207 104 (by decide))) (RM_126 hRL (hw207 126 (by decide)))) ⟨callB_of 3 hA (al_A wd_5_46) rfl rfl rfl (hA _ wd_1_7) (hA _ wd_5_43) (by decide +kernel) ⟨Nat.le_of_ble_eq_true rfl, Nat.le_of_ble_eq_true rfl⟩, hA _ wd_5_44, hA _ wd_5_45⟩ ⟨bl, recv_X9 hE hG t_q13, fun U hU9 hW9 => ⟨rfl, by rw [hU9]; exact hG, hE.go hS hU9 hW9⟩⟩ rfl rfl hl.1 rfl (lv_room (Nat.le_of_ble_eq_true rfl)) dL_law_256 ⟨(Nat.le_trans (show kc + 0 ≤ 300000 by omega) (Nat.le_of_ble_eq_true rfl)), (Nat.le_trans (show ks + 0 ≤ 300000 by omega) (Nat.le_of_ble_eq_true rfl))⟩) hS (fun x227 u225 H locs w226 hG hS => ?_)
  obtain ⟨hf229, hq228⟩ := w226
  replace hq228 := HD.mk hq228
  have hw230 : ∀ c, c ∉ ([100, 109] : List Nat) → u225 c = u202 c := fun c hc => funext fun j => hf229 c j (fun q => hc (by rw [q]; decide)) (fun q => hc (by rw [q]; decide))
  have hst231 := st_own (g := g) (u1 := u202) (u2 := u225) (r1 := x204) (r2 := x227) hRL hw207 hw230 hq205.v hq228.v
  have hrr232 := hst231.2
  refine lv_pop hx hb dL_law_259 rfl ?_
  refine lv_goto (tgt := 1047) hx hb dL_law_260 (by decide) ?_
  obtain ⟨x233, h234⟩ : ∃ y : Int32, y = i + Int32.ofInt (6) := ⟨_, rfl⟩
  try have h235 : x233.toInt = i.toInt + (6) := ty_inc h234 (by decide) (by omega) (by omega)
  refine lv_iinc (v := x233) (lv' := [(4, .int x233), (3, .ref q29), (2, .ref q13), (1, .ref q1), (0, .ref b)]) hx hb dL_law_1047 hl (k := 0) rfl h234.symm (by decide) rfl (fun ls hl => ?_)
  refine lv_goto (tgt := 23) hx hb dL_law_1050 (by decide) ?_
  exact ih x233 Γ u225 (kc) (ks) _ _ ls (by omega) (by omega) (by have a9 := congrFun (hw230 4 (by decide)) 0; have b9 := congrFun (hw207 4 (by decide)) 0; omega) hst231.1 (IJ_e hj209 (hw230 126 (by decide)) (hw230 132 (by decide)) (hw230 134 (by decide))) (Bd_e hb208 (hw230 33 (by decide)) (hw230 34 (by decide)) (hw230 35 (by decide))) hU t_q1 t_q13 t_q29 (by omega) (by omega) hG hS (lv_sub hl [0, 1, 2, 3, 4] rfl)
set_option maxHeartbeats 40000000 in
set_option maxRecDepth 100000 in
/-- the law's case 3 -/
theorem law_c3 {p : Program} {e : Env} {s : State} {m : MethodId} {below : List Frame} {meth : Method} {c : Code} (l : Launch) (hl9 : l.stackTraces = false) {b L : Nat} {xs : Nat → Int32} (hLN : L ≤ 3072) (hx : p.tables.exec = Jvm.exec) (hb : c.code = code) (hr : meth.sig.returnType = ret) (hml : c.maxLocals = 7) (hown : s.vm.findClass R_law = some m.cls) (hA : ∀ w ∈ AL, w.before #[Value.ref b] s = true) (hXs : va_X b L xs s s.heap) (hbl : b < s.heap.size) (hlocks : meth.locks = false) {dC : Nat → ClassId} {dI : Nat → Nat → Nat} {dA : Nat → ClassId} {sz : Nat} (hE : en dC dI dA sz s) (hsz : sz = s.heap.size) (hbA : ¬ ty_A sz b) (X : va_W) (q1 q13 q29 : Nat) (n : Nat) (ih : LJ p l e s m below meth c b dC dI dA sz X q1 q13 q29 n) (i : Int32) (Γ : ty_G) (g : gh) (kc ks : Nat) (H : Heap) (locs : List Loc) (ls : Array Slot) (hm : (3073 - i.toInt : Int) < (n + 1 : Nat)) (hi0 : 0 ≤ i.toInt ∧ i.toInt ≤ 3072) (hy4 : g 4 0 ≤ i.toInt) (hRL : RLA g) (hIJ : IJ g) (hBd : Bd Γ g) (hU : Un Γ) (t_q1 : ty Γ q1 1) (t_q13 : ty Γ q13 30) (t_q29 : ty Γ q29 25) (hkc : kc ≤ 300 + i.toInt.toNat) (hks : ks ≤ 30000 + 28 * i.toInt.toNat) (hG : ty_ok (dC, dI) vwCl Γ (TP dA Γ g) sz X H) (hS : va_S (ty_A sz) s.heap H locs) (hl : lv_has ls 7 [(4, .int i), (3, .ref q29), (2, .ref q13), (1, .ref q1), (0, .ref b)]) (hiL : i.toInt + 6 ≤ (L : Int)) : W p l e room_1 s m #[Value.ref b] below meth c H locs kc ks (lw_Z below #[Value.ref b] s) (F0 m 263 ls []) := by
  refine lv_aload_n hx hb dL_law_263 rfl (lv_at hl 3 rfl) ?_
  refine lv_aload_n hx hb dL_law_264 rfl (lv_at hl 4 rfl) ?_
  refine lv_iload hx hb dL_law_265 (lv_at hl 0 rfl) ?_
  refine ty_iconst hx hb (1) dL_law_267 (by decide) (fun x236 h237 => ?_)
  refine ty_iadd hx hb dL_law_268 (fun x238 h239 => ?_)
  have h240 := lw_ix (k := 1) h237 h239 hi0 hiL hLN (by decide)
  refine va_sld hx hb hXs hbl hbA hS (i := x238) (ty_ix h240.2) dL_law_269 ?_
  refine W.eq (g2 := F0 m 270 ls [.int (xs (i.toInt.toNat + 1)), .ref q1]) (by rw [lw_xs (xs := xs) h240.1 hi0.1]) ?_
  clear h240 h239 h237
  refine lv_topi (fun x241 s242 => ?_)
  refine lv_aload_n hx hb dL_law_270 rfl (lv_at hl 4 rfl) ?_
  refine lv_iload hx hb dL_law_271 (lv_at hl 0 rfl) ?_
  refine ty_iconst hx hb (2) dL_law_273 (by decide) (fun x243 h244 => ?_)
  refine ty_iadd hx hb dL_law_274 (fun x245 h246 => ?_)
  have h247 := lw_ix (k := 2) h244 h246 hi0 hiL hLN (by decide)
  refine va_sld hx hb hXs hbl hbA hS (i := x245) (ty_ix h247.2) dL_law_275 ?_
  refine W.eq (g2 := F0 m 276 ls [.int (xs (i.toInt.toNat + 2)), .int x241, .ref q1]) (by rw [lw_xs (xs := xs) h247.1 hi0.1]) ?_
  clear h247 h246 h244
  refine lv_topi (fun x248 s249 => ?_)
  refine lv_aload_n hx hb dL_law_276 rfl (lv_at hl 4 rfl) ?_
  refine lv_iload hx hb dL_law_277 (lv_at hl 0 rfl) ?_
  refine ty_iconst hx hb (3) dL_law_279 (by decide) (fun x250 h251 => ?_)
  refine ty_iadd hx hb dL_law_280 (fun x252 h253 => ?_)
  have h254 := lw_ix (k := 3) h251 h253 hi0 hiL hLN (by decide)
  refine va_sld hx hb hXs hbl hbA hS (i := x252) (ty_ix h254.2) dL_law_281 ?_
  refine W.eq (g2 := F0 m 282 ls [.int (xs (i.toInt.toNat + 3)), .int x248, .int x241, .ref q1]) (by rw [lw_xs (xs := xs) h254.1 hi0.1]) ?_
  clear h254 h253 h251
  refine lv_topi (fun x255 s256 => ?_)
  refine lv_aload_n hx hb dL_law_282 rfl (lv_at hl 4 rfl) ?_
  refine lv_iload hx hb dL_law_283 (lv_at hl 0 rfl) ?_
  refine ty_iconst hx hb (4) dL_law_285 (by decide) (fun x257 h258 => ?_)
  refine ty_iadd hx hb dL_law_286 (fun x259 h260 => ?_)
  have h261 := lw_ix (k := 4) h258 h260 hi0 hiL hLN (by decide)
  refine va_sld hx hb hXs hbl hbA hS (i := x259) (ty_ix h261.2) dL_law_287 ?_
  refine W.eq (g2 := F0 m 288 ls [.int (xs (i.toInt.toNat + 4)), .int x255, .int x248, .int x241, .ref q1]) (by rw [lw_xs (xs := xs) h261.1 hi0.1]) ?_
  clear h261 h260 h258
  refine lv_topi (fun x262 s263 => ?_)
  refine lv_aload_n hx hb dL_law_288 rfl (lv_at hl 4 rfl) ?_
  refine lv_iload hx hb dL_law_289 (lv_at hl 0 rfl) ?_
  refine ty_iconst hx hb (5) dL_law_291 (by decide) (fun x264 h265 => ?_)
  refine ty_iadd hx hb dL_law_292 (fun x266 h267 => ?_)
  have h268 := lw_ix (k := 5) h265 h267 hi0 hiL hLN (by decide)
  refine va_sld hx hb hXs hbl hbA hS (i := x266) (ty_ix h268.2) dL_law_293 ?_
  refine W.eq (g2 := F0 m 294 ls [.int (xs (i.toInt.toNat + 5)), .int x262, .int x255, .int x248, .int x241, .ref q1]) (by rw [lw_xs (xs := xs) h268.1 hi0.1]) ?_
  clear h268 h267 h265
  refine lv_topi (fun x269 s270 => ?_)
  refine cI (va_runV (C := RX8) (As := [.int x241, .int x248, .int x255, .int x262, .int x269]) (rest := []) ⟨hx, hb, hml, hown, hA⟩ (k_X8_feed l dC dI dA sz X Γ hU g q1 t_q1 x241 x248 x255 x262 x269   (RL_6 hRL)) ⟨callB_of 5 hA (al_A wd_2_76) rfl rfl rfl (hA _ wd_1_1) (hA _ wd_2_73) (by decide +kernel) ⟨Nat.le_of_ble_eq_true rfl, Nat.le_of_ble_eq_true rfl⟩, hA _ wd_2_74, hA _ wd_2_75⟩ ⟨bl, recv_X8 hE hG t_q1, fun U hU9 hW9 => ⟨rfl, by rw [hU9]; exact hG, hE.go hS hU9 hW9⟩⟩ rfl rfl hl.1 rfl (lv_room (Nat.le_of_ble_eq_true rfl)) dL_law_294 ⟨(Nat.le_trans (show kc + 0 ≤ 300000 by omega) (Nat.le_of_ble_eq_true rfl)), (Nat.le_trans (show ks + 0 ≤ 300000 by omega) (Nat.le_of_ble_eq_true rfl))⟩) hS (fun x273 u271 H locs w272 hG hS => ?_)
  obtain ⟨hf275, w272, hq274⟩ := w272
  replace w272 := HD.mk w272
  replace hq274 := HD.mk hq274
  have hw276 : ∀ c, c ∉ ([6, 19] : List Nat) → u271 c = g c := fun c hc => funext fun j => hf275 c j (fun q => hc (by rw [q]; decide)) (fun q => hc (by rw [q]; decide))
  have hb277 : Bd Γ u271 := Bd_e hBd (hw276 33 (by decide)) (hw276 34 (by decide)) (hw276 35 (by decide))
  have hj278 : IJ u271 := IJ_e hIJ (hw276 126 (by decide)) (hw276 132 (by decide)) (hw276 134 (by decide))
  refine lv_pop hx hb dL_law_297 rfl ?_
  refine lv_aload_n hx hb dL_law_298 rfl (lv_at hl 2 rfl) ?_
  refine lv_aload_n hx hb dL_law_299 rfl (lv_at hl 4 rfl) ?_
  refine lv_iload hx hb dL_law_300 (lv_at hl 0 rfl) ?_
  refine ty_iconst hx hb (1) dL_law_302 (by decide) (fun x279 h280 => ?_)
  refine ty_iadd hx hb dL_law_303 (fun x281 h282 => ?_)
  have h283 := lw_ix (k := 1) h280 h282 hi0 hiL hLN (by decide)
  refine va_sld hx hb hXs hbl hbA hS (i := x281) (ty_ix h283.2) dL_law_304 ?_
  refine W.eq (g2 := F0 m 305 ls [.int (xs (i.toInt.toNat + 1)), .ref q13]) (by rw [lw_xs (xs := xs) h283.1 hi0.1]) ?_
  clear h283 h282 h280
  refine W.eq (g2 := F0 m 305 ls [.int x241, .ref q13]) (by rw [s242]) ?_
  refine lv_aload_n hx hb dL_law_305 rfl (lv_at hl 4 rfl) ?_
  refine lv_iload hx hb dL_law_306 (lv_at hl 0 rfl) ?_
  refine ty_iconst hx hb (2) dL_law_308 (by decide) (fun x284 h285 => ?_)
  refine ty_iadd hx hb dL_law_309 (fun x286 h287 => ?_)
  have h288 := lw_ix (k := 2) h285 h287 hi0 hiL hLN (by decide)
  refine va_sld hx hb hXs hbl hbA hS (i := x286) (ty_ix h288.2) dL_law_310 ?_
  refine W.eq (g2 := F0 m 311 ls [.int (xs (i.toInt.toNat + 2)), .int x241, .ref q13]) (by rw [lw_xs (xs := xs) h288.1 hi0.1]) ?_
  clear h288 h287 h285
  refine W.eq (g2 := F0 m 311 ls [.int x248, .int x241, .ref q13]) (by rw [s249]) ?_
  refine lv_aload_n hx hb dL_law_311 rfl (lv_at hl 4 rfl) ?_
  refine lv_iload hx hb dL_law_312 (lv_at hl 0 rfl) ?_
  refine ty_iconst hx hb (3) dL_law_314 (by decide) (fun x289 h290 => ?_)
  refine ty_iadd hx hb dL_law_315 (fun x291 h292 => ?_)
  have h293 := lw_ix (k := 3) h290 h292 hi0 hiL hLN (by decide)
  refine va_sld hx hb hXs hbl hbA hS (i := x291) (ty_ix h293.2) dL_law_316 ?_
  refine W.eq (g2 := F0 m 317 ls [.int (xs (i.toInt.toNat + 3)), .int x248, .int x241, .ref q13]) (by rw [lw_xs (xs := xs) h293.1 hi0.1]) ?_
  clear h293 h292 h290
  refine W.eq (g2 := F0 m 317 ls [.int x255, .int x248, .int x241, .ref q13]) (by rw [s256]) ?_
  refine lv_aload_n hx hb dL_law_317 rfl (lv_at hl 4 rfl) ?_
  refine lv_iload hx hb dL_law_318 (lv_at hl 0 rfl) ?_
  refine ty_iconst hx hb (4) dL_law_320 (by decide) (fun x294 h295 => ?_)
  refine ty_iadd hx hb dL_law_321 (fun x296 h297 => ?_)
  have h298 := lw_ix (k := 4) h295 h297 hi0 hiL hLN (by decide)
  refine va_sld hx hb hXs hbl hbA hS (i := x296) (ty_ix h298.2) dL_law_322 ?_
  refine W.eq (g2 := F0 m 323 ls [.int (xs (i.toInt.toNat + 4)), .int x255, .int x248, .int x241, .ref q13]) (by rw [lw_xs (xs := xs) h298.1 hi0.1]) ?_
  clear h298 h297 h295
  refine W.eq (g2 := F0 m 323 ls [.int x262, .int x255, .int x248, .int x241, .ref q13]) (by rw [s263]) ?_
  refine lv_aload_n hx hb dL_law_323 rfl (lv_at hl 4 rfl) ?_
  refine lv_iload hx hb dL_law_324 (lv_at hl 0 rfl) ?_
  refine ty_iconst hx hb (5) dL_law_326 (by decide) (fun x299 h300 => ?_)
  refine ty_iadd hx hb dL_law_327 (fun x301 h302 => ?_)
  have h303 := lw_ix (k := 5) h300 h302 hi0 hiL hLN (by decide)
  refine va_sld hx hb hXs hbl hbA hS (i := x301) (ty_ix h303.2) dL_law_328 ?_
  refine W.eq (g2 := F0 m 329 ls [.int (xs (i.toInt.toNat + 5)), .int x262, .int x255, .int x248, .int x241, .ref q13]) (by rw [lw_xs (xs := xs) h303.1 hi0.1]) ?_
  clear h303 h302 h300
  refine W.eq (g2 := F0 m 329 ls [.int x269, .int x262, .int x255, .int x248, .int x241, .ref q13]) (by rw [s270]) ?_
  refine cI (va_runV (C := RX9) (As := [.int x241, .int x248, .int x255, .int x262, .int x269]) (rest := []) ⟨hx, hb, hml, hown, hA⟩ (k_X9_feed l dC dI dA sz X Γ hU u271 q13 t_q13 x241 x248 x255 x262 x269   (RM_114 hRL (hw276 114 (by decide)))) ⟨callB_of 5 hA (al_A wd_5_62) rfl rfl rfl (hA _ wd_1_7) (hA _ wd_5_59) (by decide +kernel) ⟨Nat.le_of_ble_eq_true rfl, Nat.le_of_ble_eq_true rfl⟩, hA _ wd_5_60, hA _ wd_5_61⟩ ⟨bl, recv_X9 hE hG t_q13, fun U hU9 hW9 => ⟨rfl, by rw [hU9]; exact hG, hE.go hS hU9 hW9⟩⟩ rfl rfl hl.1 rfl (lv_room (Nat.le_of_ble_eq_true rfl)) dL_law_329 ⟨(Nat.le_trans (show kc + 0 ≤ 300000 by omega) (Nat.le_of_ble_eq_true rfl)), (Nat.le_trans (show ks + 0 ≤ 300000 by omega) (Nat.le_of_ble_eq_true rfl))⟩) hS (fun x306 u304 H locs w305 hG hS => ?_)
  obtain ⟨hf308, w305, hq307⟩ := w305
  replace w305 := HD.mk w305
  replace hq307 := HD.mk hq307
  have hw309 : ∀ c, c ∉ ([100, 113, 114] : List Nat) → u304 c = u271 c := fun c hc => funext fun j => hf308 c j (fun q => hc (by rw [q]; decide)) (fun q => hc (by rw [q]; decide)) (fun q => hc (by rw [q]; decide))
  have hst310 := st_feed (g := g) (u1 := u271) (u2 := u304) (r1 := x273) (r2 := x306) hRL hw276 hw309 w272.v.1 w272.v.2 hq274.v w305.v.1 w305.v.2 hq307.v
  have hrr311 := hst310.2
  refine lv_pop hx hb dL_law_332 rfl ?_
  refine lv_goto (tgt := 1047) hx hb dL_law_333 (by decide) ?_
  obtain ⟨x312, h313⟩ : ∃ y : Int32, y = i + Int32.ofInt (6) := ⟨_, rfl⟩
  try have h314 : x312.toInt = i.toInt + (6) := ty_inc h313 (by decide) (by omega) (by omega)
  refine lv_iinc (v := x312) (lv' := [(4, .int x312), (3, .ref q29), (2, .ref q13), (1, .ref q1), (0, .ref b)]) hx hb dL_law_1047 hl (k := 0) rfl h313.symm (by decide) rfl (fun ls hl => ?_)
  refine lv_goto (tgt := 23) hx hb dL_law_1050 (by decide) ?_
  exact ih x312 Γ u304 (kc) (ks) _ _ ls (by omega) (by omega) (by have a9 := congrFun (hw309 4 (by decide)) 0; have b9 := congrFun (hw276 4 (by decide)) 0; omega) hst310.1 (IJ_e hj278 (hw309 126 (by decide)) (hw309 132 (by decide)) (hw309 134 (by decide))) (Bd_e hb277 (hw309 33 (by decide)) (hw309 34 (by decide)) (hw309 35 (by decide))) hU t_q1 t_q13 t_q29 (by omega) (by omega) hG hS (lv_sub hl [0, 1, 2, 3, 4] rfl)
set_option maxHeartbeats 40000000 in
set_option maxRecDepth 100000 in
/-- the law's case 4 -/
theorem law_c4 {p : Program} {e : Env} {s : State} {m : MethodId} {below : List Frame} {meth : Method} {c : Code} (l : Launch) (hl9 : l.stackTraces = false) {b L : Nat} {xs : Nat → Int32} (hLN : L ≤ 3072) (hx : p.tables.exec = Jvm.exec) (hb : c.code = code) (hr : meth.sig.returnType = ret) (hml : c.maxLocals = 7) (hown : s.vm.findClass R_law = some m.cls) (hA : ∀ w ∈ AL, w.before #[Value.ref b] s = true) (hXs : va_X b L xs s s.heap) (hbl : b < s.heap.size) (hlocks : meth.locks = false) {dC : Nat → ClassId} {dI : Nat → Nat → Nat} {dA : Nat → ClassId} {sz : Nat} (hE : en dC dI dA sz s) (hsz : sz = s.heap.size) (hbA : ¬ ty_A sz b) (X : va_W) (q1 q13 q29 : Nat) (n : Nat) (ih : LJ p l e s m below meth c b dC dI dA sz X q1 q13 q29 n) (i : Int32) (Γ : ty_G) (g : gh) (kc ks : Nat) (H : Heap) (locs : List Loc) (ls : Array Slot) (hm : (3073 - i.toInt : Int) < (n + 1 : Nat)) (hi0 : 0 ≤ i.toInt ∧ i.toInt ≤ 3072) (hy4 : g 4 0 ≤ i.toInt) (hRL : RLA g) (hIJ : IJ g) (hBd : Bd Γ g) (hU : Un Γ) (t_q1 : ty Γ q1 1) (t_q13 : ty Γ q13 30) (t_q29 : ty Γ q29 25) (hkc : kc ≤ 300 + i.toInt.toNat) (hks : ks ≤ 30000 + 28 * i.toInt.toNat) (hG : ty_ok (dC, dI) vwCl Γ (TP dA Γ g) sz X H) (hS : va_S (ty_A sz) s.heap H locs) (hl : lv_has ls 7 [(4, .int i), (3, .ref q29), (2, .ref q13), (1, .ref q1), (0, .ref b)]) (hiL : i.toInt + 6 ≤ (L : Int)) : W p l e room_1 s m #[Value.ref b] below meth c H locs kc ks (lw_Z below #[Value.ref b] s) (F0 m 336 ls []) := by
  refine lv_aload_n hx hb dL_law_336 rfl (lv_at hl 3 rfl) ?_
  refine lv_aload_n hx hb dL_law_337 rfl (lv_at hl 4 rfl) ?_
  refine lv_iload hx hb dL_law_338 (lv_at hl 0 rfl) ?_
  refine ty_iconst hx hb (1) dL_law_340 (by decide) (fun x315 h316 => ?_)
  refine ty_iadd hx hb dL_law_341 (fun x317 h318 => ?_)
  have h319 := lw_ix (k := 1) h316 h318 hi0 hiL hLN (by decide)
  refine va_sld hx hb hXs hbl hbA hS (i := x317) (ty_ix h319.2) dL_law_342 ?_
  refine W.eq (g2 := F0 m 343 ls [.int (xs (i.toInt.toNat + 1)), .ref q1]) (by rw [lw_xs (xs := xs) h319.1 hi0.1]) ?_
  clear h319 h318 h316
  refine lv_topi (fun x320 s321 => ?_)
  refine cI (va_runV (C := RX8) (As := [.int x320]) (rest := []) ⟨hx, hb, hml, hown, hA⟩ (k_X8_end l dC dI dA sz X Γ hU g q1 t_q1 x320   (RL_6 hRL)) ⟨callB_of 1 hA (al_A wd_2_84) rfl rfl rfl (hA _ wd_1_1) (hA _ wd_2_81) (by decide +kernel) ⟨Nat.le_of_ble_eq_true rfl, Nat.le_of_ble_eq_true rfl⟩, hA _ wd_2_82, hA _ wd_2_83⟩ ⟨bl, recv_X8 hE hG t_q1, fun U hU9 hW9 => ⟨rfl, by rw [hU9]; exact hG, hE.go hS hU9 hW9⟩⟩ rfl rfl hl.1 rfl (lv_room (Nat.le_of_ble_eq_true rfl)) dL_law_343 ⟨(Nat.le_trans (show kc + 0 ≤ 300000 by omega) (Nat.le_of_ble_eq_true rfl)), (Nat.le_trans (show ks + 0 ≤ 300000 by omega) (Nat.le_of_ble_eq_true rfl))⟩) hS (fun x324 u322 H locs w323 hG hS => ?_)
  obtain ⟨hf325, w323⟩ := w323
  replace w323 := HD.mk w323
  have hw326 : ∀ c, c ∉ ([6] : List Nat) → u322 c = g c := fun c hc => funext fun j => hf325 c j (fun q => hc (by rw [q]; decide))
  have hb327 : Bd Γ u322 := Bd_e hBd (hw326 33 (by decide)) (hw326 34 (by decide)) (hw326 35 (by decide))
  have hj328 : IJ u322 := IJ_e hIJ (hw326 126 (by decide)) (hw326 132 (by decide)) (hw326 134 (by decide))
  refine lv_pop hx hb dL_law_346 rfl ?_
  refine lv_aload_n hx hb dL_law_347 rfl (lv_at hl 2 rfl) ?_
  refine lv_aload_n hx hb dL_law_348 rfl (lv_at hl 4 rfl) ?_
  refine lv_iload hx hb dL_law_349 (lv_at hl 0 rfl) ?_
  refine ty_iconst hx hb (1) dL_law_351 (by decide) (fun x329 h330 => ?_)
  refine ty_iadd hx hb dL_law_352 (fun x331 h332 => ?_)
  have h333 := lw_ix (k := 1) h330 h332 hi0 hiL hLN (by decide)
  refine va_sld hx hb hXs hbl hbA hS (i := x331) (ty_ix h333.2) dL_law_353 ?_
  refine W.eq (g2 := F0 m 354 ls [.int (xs (i.toInt.toNat + 1)), .ref q13]) (by rw [lw_xs (xs := xs) h333.1 hi0.1]) ?_
  clear h333 h332 h330
  refine W.eq (g2 := F0 m 354 ls [.int x320, .ref q13]) (by rw [s321]) ?_
  refine cI (va_runV (C := RX9) (As := [.int x320]) (rest := []) ⟨hx, hb, hml, hown, hA⟩ (k_X9_end l dC dI dA sz X Γ hU u322 q13 t_q13 x320   (RM_114 hRL (hw326 114 (by decide)))) ⟨callB_of 1 hA (al_A wd_5_66) rfl rfl rfl (hA _ wd_1_7) (hA _ wd_5_63) (by decide +kernel) ⟨Nat.le_of_ble_eq_true rfl, Nat.le_of_ble_eq_true rfl⟩, hA _ wd_5_64, hA _ wd_5_65⟩ ⟨bl, recv_X9 hE hG t_q13, fun U hU9 hW9 => ⟨rfl, by rw [hU9]; exact hG, hE.go hS hU9 hW9⟩⟩ rfl rfl hl.1 rfl (lv_room (Nat.le_of_ble_eq_true rfl)) dL_law_354 ⟨(Nat.le_trans (show kc + 0 ≤ 300000 by omega) (Nat.le_of_ble_eq_true rfl)), (Nat.le_trans (show ks + 0 ≤ 300000 by omega) (Nat.le_of_ble_eq_true rfl))⟩) hS (fun x336 u334 H locs w335 hG hS => ?_)
  obtain ⟨hf337, w335⟩ := w335
  replace w335 := HD.mk w335
  have hw338 : ∀ c, c ∉ ([100, 114] : List Nat) → u334 c = u322 c := fun c hc => funext fun j => hf337 c j (fun q => hc (by rw [q]; decide)) (fun q => hc (by rw [q]; decide))
  have hst339 := st_end (g := g) (u1 := u322) (u2 := u334) (r1 := x324) (r2 := x336) hRL hw326 hw338 w323.v.1 w323.v.2 w335.v.1 w335.v.2
  have hrr340 := hst339.2
  refine lv_pop hx hb dL_law_357 rfl ?_
  refine lv_goto (tgt := 1047) hx hb dL_law_358 (by decide) ?_
  obtain ⟨x341, h342⟩ : ∃ y : Int32, y = i + Int32.ofInt (6) := ⟨_, rfl⟩
  try have h343 : x341.toInt = i.toInt + (6) := ty_inc h342 (by decide) (by omega) (by omega)
  refine lv_iinc (v := x341) (lv' := [(4, .int x341), (3, .ref q29), (2, .ref q13), (1, .ref q1), (0, .ref b)]) hx hb dL_law_1047 hl (k := 0) rfl h342.symm (by decide) rfl (fun ls hl => ?_)
  refine lv_goto (tgt := 23) hx hb dL_law_1050 (by decide) ?_
  exact ih x341 Γ u334 (kc) (ks) _ _ ls (by omega) (by omega) (by have a9 := congrFun (hw338 4 (by decide)) 0; have b9 := congrFun (hw326 4 (by decide)) 0; omega) hst339.1 (IJ_e hj328 (hw338 126 (by decide)) (hw338 132 (by decide)) (hw338 134 (by decide))) (Bd_e hb327 (hw338 33 (by decide)) (hw338 34 (by decide)) (hw338 35 (by decide))) hU t_q1 t_q13 t_q29 (by omega) (by omega) hG hS (lv_sub hl [0, 1, 2, 3, 4] rfl)
set_option maxHeartbeats 40000000 in
set_option maxRecDepth 100000 in
/-- the law's case 5 -/
theorem law_c5 {p : Program} {e : Env} {s : State} {m : MethodId} {below : List Frame} {meth : Method} {c : Code} (l : Launch) (hl9 : l.stackTraces = false) {b L : Nat} {xs : Nat → Int32} (hLN : L ≤ 3072) (hx : p.tables.exec = Jvm.exec) (hb : c.code = code) (hr : meth.sig.returnType = ret) (hml : c.maxLocals = 7) (hown : s.vm.findClass R_law = some m.cls) (hA : ∀ w ∈ AL, w.before #[Value.ref b] s = true) (hXs : va_X b L xs s s.heap) (hbl : b < s.heap.size) (hlocks : meth.locks = false) {dC : Nat → ClassId} {dI : Nat → Nat → Nat} {dA : Nat → ClassId} {sz : Nat} (hE : en dC dI dA sz s) (hsz : sz = s.heap.size) (hbA : ¬ ty_A sz b) (X : va_W) (q1 q13 q29 : Nat) (n : Nat) (ih : LJ p l e s m below meth c b dC dI dA sz X q1 q13 q29 n) (i : Int32) (Γ : ty_G) (g : gh) (kc ks : Nat) (H : Heap) (locs : List Loc) (ls : Array Slot) (hm : (3073 - i.toInt : Int) < (n + 1 : Nat)) (hi0 : 0 ≤ i.toInt ∧ i.toInt ≤ 3072) (hy4 : g 4 0 ≤ i.toInt) (hRL : RLA g) (hIJ : IJ g) (hBd : Bd Γ g) (hU : Un Γ) (t_q1 : ty Γ q1 1) (t_q13 : ty Γ q13 30) (t_q29 : ty Γ q29 25) (hkc : kc ≤ 300 + i.toInt.toNat) (hks : ks ≤ 30000 + 28 * i.toInt.toNat) (hG : ty_ok (dC, dI) vwCl Γ (TP dA Γ g) sz X H) (hS : va_S (ty_A sz) s.heap H locs) (hl : lv_has ls 7 [(4, .int i), (3, .ref q29), (2, .ref q13), (1, .ref q1), (0, .ref b)]) (hiL : i.toInt + 6 ≤ (L : Int)) : W p l e room_1 s m #[Value.ref b] below meth c H locs kc ks (lw_Z below #[Value.ref b] s) (F0 m 361 ls []) := by
  refine lv_aload_n hx hb dL_law_361 rfl (lv_at hl 3 rfl) ?_
  refine cI (va_runV (C := RX8) (As := []) (rest := []) ⟨hx, hb, hml, hown, hA⟩ (k_X8_rules l dC dI dA sz X Γ hU g q1 t_q1 (g 19) (g 6 0).toNat  (RL_6 hRL) (rfl) (RL_N hRL)) ⟨callB_of 0 hA (al_A wd_2_88) rfl rfl rfl (hA _ wd_1_1) (hA _ wd_2_85) (by decide +kernel) ⟨Nat.le_of_ble_eq_true rfl, Nat.le_of_ble_eq_true rfl⟩, hA _ wd_2_86, hA _ wd_2_87⟩ ⟨bl, recv_X8 hE hG t_q1, fun U hU9 hW9 => ⟨rfl, by rw [hU9]; exact hG, hE.go hS hU9 hW9⟩⟩ rfl rfl hl.1 rfl (lv_room (Nat.le_of_ble_eq_true rfl)) dL_law_362 ⟨(Nat.le_trans (show kc + 0 ≤ 300000 by omega) (Nat.le_of_ble_eq_true rfl)), (Nat.le_trans (show ks + 0 ≤ 300000 by omega) (Nat.le_of_ble_eq_true rfl))⟩) hS (fun x346 u344 H locs w345 hG hS => ?_)
  obtain ⟨hf350, w345, hq347, hq348, hq349⟩ := w345
  replace w345 := HD.mk w345
  replace hq347 := HD.mk hq347
  replace hq348 := HD.mk hq348
  replace hq349 := HD.mk hq349
  have hw351 : ∀ c, c ∉ ([6, 9, 10, 11, 12, 13, 14, 15, 16, 17, 18, 80, 81, 82] : List Nat) → u344 c = g c := fun c hc => funext fun j => hf350 c j (fun q => hc (by rw [q]; decide)) (fun q => hc (by rw [q]; decide)) (fun q => hc (by rw [q]; decide)) (fun q => hc (by rw [q]; decide)) (fun q => hc (by rw [q]; decide)) (fun q => hc (by rw [q]; decide)) (fun q => hc (by rw [q]; decide)) (fun q => hc (by rw [q]; decide)) (fun q => hc (by rw [q]; decide)) (fun q => hc (by rw [q]; decide)) (fun q => hc (by rw [q]; decide)) (fun q => hc (by rw [q]; decide)) (fun q => hc (by rw [q]; decide)) (fun q => hc (by rw [q]; decide))
  have hb352 : Bd Γ u344 := Bd_e hBd (hw351 33 (by decide)) (hw351 34 (by decide)) (hw351 35 (by decide))
  have hj353 : IJ u344 := IJ_e hIJ (hw351 126 (by decide)) (hw351 132 (by decide)) (hw351 134 (by decide))
  refine lv_pop hx hb dL_law_365 rfl ?_
  refine lv_aload_n hx hb dL_law_366 rfl (lv_at hl 2 rfl) ?_
  refine cI (va_runV (C := RX9) (As := []) (rest := []) ⟨hx, hb, hml, hown, hA⟩ (k_X9_rules l dC dI dA sz X Γ hU u344 q13 t_q13 (g 19) (g 6 0).toNat  (RM_114 hRL (hw351 114 (by decide))) (RM_T hRL (hw351 113 (by decide))) (RM_N hRL (hw351 114 (by decide)))) ⟨callB_of 0 hA (al_A wd_5_70) rfl rfl rfl (hA _ wd_1_7) (hA _ wd_5_67) (by decide +kernel) ⟨Nat.le_of_ble_eq_true rfl, Nat.le_of_ble_eq_true rfl⟩, hA _ wd_5_68, hA _ wd_5_69⟩ ⟨bl, recv_X9 hE hG t_q13, fun U hU9 hW9 => ⟨rfl, by rw [hU9]; exact hG, hE.go hS hU9 hW9⟩⟩ rfl rfl hl.1 rfl (lv_room (Nat.le_of_ble_eq_true rfl)) dL_law_367 ⟨(Nat.le_trans (show kc + 0 ≤ 300000 by omega) (Nat.le_of_ble_eq_true rfl)), (Nat.le_trans (show ks + 0 ≤ 300000 by omega) (Nat.le_of_ble_eq_true rfl))⟩) hS (fun x356 u354 H locs w355 hG hS => ?_)
  obtain ⟨hf360, w355, hq357, hq358, hq359⟩ := w355
  replace w355 := HD.mk w355
  replace hq357 := HD.mk hq357
  replace hq358 := HD.mk hq358
  replace hq359 := HD.mk hq359
  have hw361 : ∀ c, c ∉ ([100, 114, 115, 116, 117, 118, 119, 120, 121, 122, 123, 124, 125] : List Nat) → u354 c = u344 c := fun c hc => funext fun j => hf360 c j (fun q => hc (by rw [q]; decide)) (fun q => hc (by rw [q]; decide)) (fun q => hc (by rw [q]; decide)) (fun q => hc (by rw [q]; decide)) (fun q => hc (by rw [q]; decide)) (fun q => hc (by rw [q]; decide)) (fun q => hc (by rw [q]; decide)) (fun q => hc (by rw [q]; decide)) (fun q => hc (by rw [q]; decide)) (fun q => hc (by rw [q]; decide)) (fun q => hc (by rw [q]; decide)) (fun q => hc (by rw [q]; decide)) (fun q => hc (by rw [q]; decide))
  have hst362 := st_rules (g := g) (u1 := u344) (u2 := u354) (r1 := x346) (r2 := x356) hRL hw351 hw361 w345.v hq347.v hq348.v hq349.v w355.v.1 w355.v.2.1 w355.v.2.2 hq357.v hq358.v hq359.v
  have hrr363 := hst362.2
  refine lv_pop hx hb dL_law_370 rfl ?_
  refine lv_goto (tgt := 1047) hx hb dL_law_371 (by decide) ?_
  obtain ⟨x364, h365⟩ : ∃ y : Int32, y = i + Int32.ofInt (6) := ⟨_, rfl⟩
  try have h366 : x364.toInt = i.toInt + (6) := ty_inc h365 (by decide) (by omega) (by omega)
  refine lv_iinc (v := x364) (lv' := [(4, .int x364), (3, .ref q29), (2, .ref q13), (1, .ref q1), (0, .ref b)]) hx hb dL_law_1047 hl (k := 0) rfl h365.symm (by decide) rfl (fun ls hl => ?_)
  refine lv_goto (tgt := 23) hx hb dL_law_1050 (by decide) ?_
  exact ih x364 Γ u354 (kc) (ks) _ _ ls (by omega) (by omega) (by have a9 := congrFun (hw361 4 (by decide)) 0; have b9 := congrFun (hw351 4 (by decide)) 0; omega) hst362.1 (IJ_e hj353 (hw361 126 (by decide)) (hw361 132 (by decide)) (hw361 134 (by decide))) (Bd_e hb352 (hw361 33 (by decide)) (hw361 34 (by decide)) (hw361 35 (by decide))) hU t_q1 t_q13 t_q29 (by omega) (by omega) hG hS (lv_sub hl [0, 1, 2, 3, 4] rfl)
set_option maxHeartbeats 40000000 in
set_option maxRecDepth 100000 in
/-- the law's case 6 -/
theorem law_c6 {p : Program} {e : Env} {s : State} {m : MethodId} {below : List Frame} {meth : Method} {c : Code} (l : Launch) (hl9 : l.stackTraces = false) {b L : Nat} {xs : Nat → Int32} (hLN : L ≤ 3072) (hx : p.tables.exec = Jvm.exec) (hb : c.code = code) (hr : meth.sig.returnType = ret) (hml : c.maxLocals = 7) (hown : s.vm.findClass R_law = some m.cls) (hA : ∀ w ∈ AL, w.before #[Value.ref b] s = true) (hXs : va_X b L xs s s.heap) (hbl : b < s.heap.size) (hlocks : meth.locks = false) {dC : Nat → ClassId} {dI : Nat → Nat → Nat} {dA : Nat → ClassId} {sz : Nat} (hE : en dC dI dA sz s) (hsz : sz = s.heap.size) (hbA : ¬ ty_A sz b) (X : va_W) (q1 q13 q29 : Nat) (n : Nat) (ih : LJ p l e s m below meth c b dC dI dA sz X q1 q13 q29 n) (i : Int32) (Γ : ty_G) (g : gh) (kc ks : Nat) (H : Heap) (locs : List Loc) (ls : Array Slot) (hm : (3073 - i.toInt : Int) < (n + 1 : Nat)) (hi0 : 0 ≤ i.toInt ∧ i.toInt ≤ 3072) (hy4 : g 4 0 ≤ i.toInt) (hRL : RLA g) (hIJ : IJ g) (hBd : Bd Γ g) (hU : Un Γ) (t_q1 : ty Γ q1 1) (t_q13 : ty Γ q13 30) (t_q29 : ty Γ q29 25) (hkc : kc ≤ 300 + i.toInt.toNat) (hks : ks ≤ 30000 + 28 * i.toInt.toNat) (hG : ty_ok (dC, dI) vwCl Γ (TP dA Γ g) sz X H) (hS : va_S (ty_A sz) s.heap H locs) (hl : lv_has ls 7 [(4, .int i), (3, .ref q29), (2, .ref q13), (1, .ref q1), (0, .ref b)]) (hiL : i.toInt + 6 ≤ (L : Int)) : W p l e room_1 s m #[Value.ref b] below meth c H locs kc ks (lw_Z below #[Value.ref b] s) (F0 m 374 ls []) := by
  refine lv_aload_n hx hb dL_law_374 rfl (lv_at hl 3 rfl) ?_
  refine cI (va_runV (C := RX8) (As := []) (rest := []) ⟨hx, hb, hml, hown, hA⟩ (k_X8_place l dC dI dA sz X Γ hU g q1 t_q1   ) ⟨callB_of 0 hA (al_A wd_2_225) rfl rfl rfl (hA _ wd_1_1) (hA _ wd_2_222) (by decide +kernel) ⟨Nat.le_of_ble_eq_true rfl, Nat.le_of_ble_eq_true rfl⟩, hA _ wd_2_223, hA _ wd_2_224⟩ ⟨bl, recv_X8 hE hG t_q1, fun U hU9 hW9 => ⟨rfl, by rw [hU9]; exact hG, hE.go hS hU9 hW9⟩⟩ rfl rfl hl.1 rfl (lv_room (Nat.le_of_ble_eq_true rfl)) dL_law_375 ⟨(Nat.le_trans (show kc + 0 ≤ 300000 by omega) (Nat.le_of_ble_eq_true rfl)), (Nat.le_trans (show ks + 0 ≤ 300000 by omega) (Nat.le_of_ble_eq_true rfl))⟩) hS (fun x369 u367 H locs w368 hG hS => ?_)
  obtain ⟨eu370, w368⟩ := w368
  rw [eu370] at hG
  replace w368 := HD.mk w368
  refine lv_pop hx hb dL_law_378 rfl ?_
  refine lv_aload_n hx hb dL_law_379 rfl (lv_at hl 2 rfl) ?_
  refine cI (va_runV (C := RX9) (As := []) (rest := []) ⟨hx, hb, hml, hown, hA⟩ (k_X9_place l dC dI dA sz X Γ hU g q13 t_q13   ) ⟨callB_of 0 hA (al_A wd_5_112) rfl rfl rfl (hA _ wd_1_7) (hA _ wd_5_109) (by decide +kernel) ⟨Nat.le_of_ble_eq_true rfl, Nat.le_of_ble_eq_true rfl⟩, hA _ wd_5_110, hA _ wd_5_111⟩ ⟨bl, recv_X9 hE hG t_q13, fun U hU9 hW9 => ⟨rfl, by rw [hU9]; exact hG, hE.go hS hU9 hW9⟩⟩ rfl rfl hl.1 rfl (lv_room (Nat.le_of_ble_eq_true rfl)) dL_law_380 ⟨(Nat.le_trans (show kc + 0 ≤ 300000 by omega) (Nat.le_of_ble_eq_true rfl)), (Nat.le_trans (show ks + 0 ≤ 300000 by omega) (Nat.le_of_ble_eq_true rfl))⟩) hS (fun x373 u371 H locs w372 hG hS => ?_)
  obtain ⟨hf374, w372⟩ := w372
  replace w372 := HD.mk w372
  have hw375 : ∀ c, c ∉ ([100] : List Nat) → u371 c = g c := fun c hc => funext fun j => hf374 c j (fun q => hc (by rw [q]; decide))
  have hst376 := st_place (g := g) (u1 := g) (u2 := u371) (r1 := x369) (r2 := x373) hRL (fun _ _ => rfl) hw375 w368.v w372.v
  have hrr377 := hst376.2
  refine lv_pop hx hb dL_law_383 rfl ?_
  refine lv_goto (tgt := 1047) hx hb dL_law_384 (by decide) ?_
  obtain ⟨x378, h379⟩ : ∃ y : Int32, y = i + Int32.ofInt (6) := ⟨_, rfl⟩
  try have h380 : x378.toInt = i.toInt + (6) := ty_inc h379 (by decide) (by omega) (by omega)
  refine lv_iinc (v := x378) (lv' := [(4, .int x378), (3, .ref q29), (2, .ref q13), (1, .ref q1), (0, .ref b)]) hx hb dL_law_1047 hl (k := 0) rfl h379.symm (by decide) rfl (fun ls hl => ?_)
  refine lv_goto (tgt := 23) hx hb dL_law_1050 (by decide) ?_
  exact ih x378 Γ u371 (kc) (ks) _ _ ls (by omega) (by omega) (by have a9 := congrFun (hw375 4 (by decide)) 0; have b9 := True.intro; omega) hst376.1 (IJ_e hIJ (hw375 126 (by decide)) (hw375 132 (by decide)) (hw375 134 (by decide))) (Bd_e hBd (hw375 33 (by decide)) (hw375 34 (by decide)) (hw375 35 (by decide))) hU t_q1 t_q13 t_q29 (by omega) (by omega) hG hS (lv_sub hl [0, 1, 2, 3, 4] rfl)
set_option maxHeartbeats 40000000 in
set_option maxRecDepth 100000 in
/-- the law's case 7 -/
theorem law_c7 {p : Program} {e : Env} {s : State} {m : MethodId} {below : List Frame} {meth : Method} {c : Code} (l : Launch) (hl9 : l.stackTraces = false) {b L : Nat} {xs : Nat → Int32} (hLN : L ≤ 3072) (hx : p.tables.exec = Jvm.exec) (hb : c.code = code) (hr : meth.sig.returnType = ret) (hml : c.maxLocals = 7) (hown : s.vm.findClass R_law = some m.cls) (hA : ∀ w ∈ AL, w.before #[Value.ref b] s = true) (hXs : va_X b L xs s s.heap) (hbl : b < s.heap.size) (hlocks : meth.locks = false) {dC : Nat → ClassId} {dI : Nat → Nat → Nat} {dA : Nat → ClassId} {sz : Nat} (hE : en dC dI dA sz s) (hsz : sz = s.heap.size) (hbA : ¬ ty_A sz b) (X : va_W) (q1 q13 q29 : Nat) (n : Nat) (ih : LJ p l e s m below meth c b dC dI dA sz X q1 q13 q29 n) (i : Int32) (Γ : ty_G) (g : gh) (kc ks : Nat) (H : Heap) (locs : List Loc) (ls : Array Slot) (hm : (3073 - i.toInt : Int) < (n + 1 : Nat)) (hi0 : 0 ≤ i.toInt ∧ i.toInt ≤ 3072) (hy4 : g 4 0 ≤ i.toInt) (hRL : RLA g) (hIJ : IJ g) (hBd : Bd Γ g) (hU : Un Γ) (t_q1 : ty Γ q1 1) (t_q13 : ty Γ q13 30) (t_q29 : ty Γ q29 25) (hkc : kc ≤ 300 + i.toInt.toNat) (hks : ks ≤ 30000 + 28 * i.toInt.toNat) (hG : ty_ok (dC, dI) vwCl Γ (TP dA Γ g) sz X H) (hS : va_S (ty_A sz) s.heap H locs) (hl : lv_has ls 7 [(4, .int i), (3, .ref q29), (2, .ref q13), (1, .ref q1), (0, .ref b)]) (hiL : i.toInt + 6 ≤ (L : Int)) : W p l e room_1 s m #[Value.ref b] below meth c H locs kc ks (lw_Z below #[Value.ref b] s) (F0 m 387 ls []) := by
  refine lv_aload_n hx hb dL_law_387 rfl (lv_at hl 3 rfl) ?_
  refine lv_aload_n hx hb dL_law_388 rfl (lv_at hl 4 rfl) ?_
  refine lv_iload hx hb dL_law_389 (lv_at hl 0 rfl) ?_
  refine ty_iconst hx hb (1) dL_law_391 (by decide) (fun x381 h382 => ?_)
  refine ty_iadd hx hb dL_law_392 (fun x383 h384 => ?_)
  have h385 := lw_ix (k := 1) h382 h384 hi0 hiL hLN (by decide)
  refine va_sld hx hb hXs hbl hbA hS (i := x383) (ty_ix h385.2) dL_law_393 ?_
  refine W.eq (g2 := F0 m 394 ls [.int (xs (i.toInt.toNat + 1)), .ref q1]) (by rw [lw_xs (xs := xs) h385.1 hi0.1]) ?_
  clear h385 h384 h382
  refine lv_topi (fun x386 s387 => ?_)
  refine lv_aload_n hx hb dL_law_394 rfl (lv_at hl 4 rfl) ?_
  refine lv_iload hx hb dL_law_395 (lv_at hl 0 rfl) ?_
  refine ty_iconst hx hb (2) dL_law_397 (by decide) (fun x388 h389 => ?_)
  refine ty_iadd hx hb dL_law_398 (fun x390 h391 => ?_)
  have h392 := lw_ix (k := 2) h389 h391 hi0 hiL hLN (by decide)
  refine va_sld hx hb hXs hbl hbA hS (i := x390) (ty_ix h392.2) dL_law_399 ?_
  refine W.eq (g2 := F0 m 400 ls [.int (xs (i.toInt.toNat + 2)), .int x386, .ref q1]) (by rw [lw_xs (xs := xs) h392.1 hi0.1]) ?_
  clear h392 h391 h389
  refine lv_topi (fun x393 s394 => ?_)
  refine cI (va_runV (C := RX8) (As := [.int x386, .int x393]) (rest := []) ⟨hx, hb, hml, hown, hA⟩ (k_X8_worth l dC dI dA sz X Γ hU g q1 t_q1 x386 x393   (RL_1 hRL) (RL_5 hRL)) ⟨callB_of 2 hA (al_A wd_2_229) rfl rfl rfl (hA _ wd_1_1) (hA _ wd_2_226) (by decide +kernel) ⟨Nat.le_of_ble_eq_true rfl, Nat.le_of_ble_eq_true rfl⟩, hA _ wd_2_227, hA _ wd_2_228⟩ ⟨bl, recv_X8 hE hG t_q1, fun U hU9 hW9 => ⟨rfl, by rw [hU9]; exact hG, hE.go hS hU9 hW9⟩⟩ rfl rfl hl.1 rfl (lv_room (Nat.le_of_ble_eq_true rfl)) dL_law_400 ⟨(Nat.le_trans (show kc + 0 ≤ 300000 by omega) (Nat.le_of_ble_eq_true rfl)), (Nat.le_trans (show ks + 0 ≤ 300000 by omega) (Nat.le_of_ble_eq_true rfl))⟩) hS (fun x397 u395 H locs w396 hG hS => ?_)
  obtain ⟨eu399, hq398⟩ := w396
  rw [eu399] at hG
  replace hq398 := HD.mk hq398
  refine lv_pop hx hb dL_law_403 rfl ?_
  refine lv_aload_n hx hb dL_law_404 rfl (lv_at hl 2 rfl) ?_
  refine lv_aload_n hx hb dL_law_405 rfl (lv_at hl 4 rfl) ?_
  refine lv_iload hx hb dL_law_406 (lv_at hl 0 rfl) ?_
  refine ty_iconst hx hb (1) dL_law_408 (by decide) (fun x400 h401 => ?_)
  refine ty_iadd hx hb dL_law_409 (fun x402 h403 => ?_)
  have h404 := lw_ix (k := 1) h401 h403 hi0 hiL hLN (by decide)
  refine va_sld hx hb hXs hbl hbA hS (i := x402) (ty_ix h404.2) dL_law_410 ?_
  refine W.eq (g2 := F0 m 411 ls [.int (xs (i.toInt.toNat + 1)), .ref q13]) (by rw [lw_xs (xs := xs) h404.1 hi0.1]) ?_
  clear h404 h403 h401
  refine W.eq (g2 := F0 m 411 ls [.int x386, .ref q13]) (by rw [s387]) ?_
  refine lv_aload_n hx hb dL_law_411 rfl (lv_at hl 4 rfl) ?_
  refine lv_iload hx hb dL_law_412 (lv_at hl 0 rfl) ?_
  refine ty_iconst hx hb (2) dL_law_414 (by decide) (fun x405 h406 => ?_)
  refine ty_iadd hx hb dL_law_415 (fun x407 h408 => ?_)
  have h409 := lw_ix (k := 2) h406 h408 hi0 hiL hLN (by decide)
  refine va_sld hx hb hXs hbl hbA hS (i := x407) (ty_ix h409.2) dL_law_416 ?_
  refine W.eq (g2 := F0 m 417 ls [.int (xs (i.toInt.toNat + 2)), .int x386, .ref q13]) (by rw [lw_xs (xs := xs) h409.1 hi0.1]) ?_
  clear h409 h408 h406
  refine W.eq (g2 := F0 m 417 ls [.int x393, .int x386, .ref q13]) (by rw [s394]) ?_
  refine cI (va_runV (C := RX9) (As := [.int x386, .int x393]) (rest := []) ⟨hx, hb, hml, hown, hA⟩ (k_X9_worth l dC dI dA sz X Γ hU g q13 t_q13 x386 x393   (RM_101 hRL rfl) (RM_122 hRL rfl) (RM_112 hRL rfl)) ⟨callB_of 2 hA (al_A wd_5_116) rfl rfl rfl (hA _ wd_1_7) (hA _ wd_5_113) (by decide +kernel) ⟨Nat.le_of_ble_eq_true rfl, Nat.le_of_ble_eq_true rfl⟩, hA _ wd_5_114, hA _ wd_5_115⟩ ⟨bl, recv_X9 hE hG t_q13, fun U hU9 hW9 => ⟨rfl, by rw [hU9]; exact hG, hE.go hS hU9 hW9⟩⟩ rfl rfl hl.1 rfl (lv_room (Nat.le_of_ble_eq_true rfl)) dL_law_417 ⟨(Nat.le_trans (show kc + 0 ≤ 300000 by omega) (Nat.le_of_ble_eq_true rfl)), (Nat.le_trans (show ks + 0 ≤ 300000 by omega) (Nat.le_of_ble_eq_true rfl))⟩) hS (fun x412 u410 H locs w411 hG hS => ?_)
  obtain ⟨hf414, hq413⟩ := w411
  replace hq413 := HD.mk hq413
  have hw415 : ∀ c, c ∉ ([100] : List Nat) → u410 c = g c := fun c hc => funext fun j => hf414 c j (fun q => hc (by rw [q]; decide))
  have hst416 := st_worth (g := g) (u1 := g) (u2 := u410) (r1 := x397) (r2 := x412) hRL (fun _ _ => rfl) hw415 hq398.v hq413.v
  have hrr417 := hst416.2
  refine lv_pop hx hb dL_law_420 rfl ?_
  refine lv_goto (tgt := 1047) hx hb dL_law_421 (by decide) ?_
  obtain ⟨x418, h419⟩ : ∃ y : Int32, y = i + Int32.ofInt (6) := ⟨_, rfl⟩
  try have h420 : x418.toInt = i.toInt + (6) := ty_inc h419 (by decide) (by omega) (by omega)
  refine lv_iinc (v := x418) (lv' := [(4, .int x418), (3, .ref q29), (2, .ref q13), (1, .ref q1), (0, .ref b)]) hx hb dL_law_1047 hl (k := 0) rfl h419.symm (by decide) rfl (fun ls hl => ?_)
  refine lv_goto (tgt := 23) hx hb dL_law_1050 (by decide) ?_
  exact ih x418 Γ u410 (kc) (ks) _ _ ls (by omega) (by omega) (by have a9 := congrFun (hw415 4 (by decide)) 0; have b9 := True.intro; omega) hst416.1 (IJ_e hIJ (hw415 126 (by decide)) (hw415 132 (by decide)) (hw415 134 (by decide))) (Bd_e hBd (hw415 33 (by decide)) (hw415 34 (by decide)) (hw415 35 (by decide))) hU t_q1 t_q13 t_q29 (by omega) (by omega) hG hS (lv_sub hl [0, 1, 2, 3, 4] rfl)
