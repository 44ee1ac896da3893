set_option maxHeartbeats 40000000 in
set_option maxRecDepth 100000 in
/-- the law's case 0 -/
theorem law_c0 {p : Program} {e : Env} {s : State} {m : MethodId} {below : List Frame} {meth : Method} {c : Code} (l : Launch) (hl9 : l.stackTraces = false) {b L : Nat} {xs : Nat → Int32} (hLN : L ≤ 3072) (hx : p.tables.exec = Jvm.exec) (hb : c.code = code) (hr : meth.sig.returnType = ret) (hml : c.maxLocals = 7) (hown : s.vm.findClass R_law = some m.cls) (hA : ∀ w ∈ AL, w.before #[Value.ref b] s = true) (hXs : va_X b L xs s s.heap) (hbl : b < s.heap.size) (hlocks : meth.locks = false) {dC : Nat → ClassId} {dI : Nat → Nat → Nat} {dA : Nat → ClassId} {sz : Nat} (hE : en dC dI dA sz s) (hsz : sz = s.heap.size) (hbA : ¬ ty_A sz b) (X : va_W) (q1 q13 q29 : Nat) (n : Nat) (ih : LJ p l e s m below meth c b dC dI dA sz X q1 q13 q29 n) (i : Int32) (Γ : ty_G) (g : gh) (kc ks : Nat) (H : Heap) (locs : List Loc) (ls : Array Slot) (hm : (3073 - i.toInt : Int) < (n + 1 : Nat)) (hi0 : 0 ≤ i.toInt ∧ i.toInt ≤ 3072) (hy4 : g 4 0 ≤ i.toInt) (hRL : RLA g) (hIJ : IJ g) (hBd : Bd Γ g) (hU : Un Γ) (t_q1 : ty Γ q1 1) (t_q13 : ty Γ q13 30) (t_q29 : ty Γ q29 25) (hkc : kc ≤ 300 + i.toInt.toNat) (hks : ks ≤ 30000 + 28 * i.toInt.toNat) (hG : ty_ok (dC, dI) vwCl Γ (TP dA Γ g) sz X H) (hS : va_S (ty_A sz) s.heap H locs) (hl : lv_has ls 7 [(4, .int i), (3, .ref q29), (2, .ref q13), (1, .ref q1), (0, .ref b)]) (hiL : i.toInt + 6 ≤ (L : Int)) : W p l e room_1 s m #[Value.ref b] below meth c H locs kc ks (lw_Z below #[Value.ref b] s) (F0 m 152 ls []) := by
  refine lv_aload_n hx hb dL_law_152 rfl (lv_at hl 3 rfl) ?_
  refine lv_aload_n hx hb dL_law_153 rfl (lv_at hl 4 rfl) ?_
  refine lv_iload hx hb dL_law_154 (lv_at hl 0 rfl) ?_
  refine ty_iconst hx hb (1) dL_law_156 (by decide) (fun x85 h86 => ?_)
  refine ty_iadd hx hb dL_law_157 (fun x87 h88 => ?_)
  have h89 := lw_ix (k := 1) h86 h88 hi0 hiL hLN (by decide)
  refine va_sld hx hb hXs hbl hbA hS (i := x87) (ty_ix h89.2) dL_law_158 ?_
  refine W.eq (g2 := F0 m 159 ls [.int (xs (i.toInt.toNat + 1)), .ref q1]) (by rw [lw_xs (xs := xs) h89.1 hi0.1]) ?_
  clear h89 h88 h86
  refine lv_topi (fun x90 s91 => ?_)
  refine lv_aload_n hx hb dL_law_159 rfl (lv_at hl 4 rfl) ?_
  refine lv_iload hx hb dL_law_160 (lv_at hl 0 rfl) ?_
  refine ty_iconst hx hb (2) dL_law_162 (by decide) (fun x92 h93 => ?_)
  refine ty_iadd hx hb dL_law_163 (fun x94 h95 => ?_)
  have h96 := lw_ix (k := 2) h93 h95 hi0 hiL hLN (by decide)
  refine va_sld hx hb hXs hbl hbA hS (i := x94) (ty_ix h96.2) dL_law_164 ?_
  refine W.eq (g2 := F0 m 165 ls [.int (xs (i.toInt.toNat + 2)), .int x90, .ref q1]) (by rw [lw_xs (xs := xs) h96.1 hi0.1]) ?_
  clear h96 h95 h93
  refine lv_topi (fun x97 s98 => ?_)
  refine cIB (va_runV (C := RX8) (As := [.int x90, .int x97]) (rest := []) ⟨hx, hb, hml, hown, hA⟩ (k_X8_flat l dC dI dA sz X Γ hU g q1 t_q1 x90 x97   (RL_1 hRL) (hBd)) ⟨callB_of 2 hA (al_A wd_1_200) rfl rfl rfl (hA _ wd_1_1) (hA _ wd_1_197) (by decide +kernel) ⟨Nat.le_of_ble_eq_true rfl, Nat.le_of_ble_eq_true rfl⟩, hA _ wd_1_198, hA _ wd_1_199⟩ ⟨bl, recv_X8 hE hG t_q1, fun U hU9 hW9 => ⟨rfl, by rw [hU9]; exact hG, hE.go hS hU9 hW9⟩⟩ rfl rfl hl.1 rfl (lv_room (Nat.le_of_ble_eq_true rfl)) dL_law_165 ⟨(Nat.le_trans (show kc + 4 ≤ 300000 by omega) (Nat.le_of_ble_eq_true rfl)), (Nat.le_trans (show ks + 165 ≤ 300000 by omega) (Nat.le_of_ble_eq_true rfl))⟩) hS (fun x101 u99 H locs w100 hG hS => ?_)
  obtain ⟨Γ102, g103⟩ := u99
  dsimp only at w100 hG
  obtain ⟨hx104, hU, hB108, hf105, w106, hq109, hq110, hq111, hq112, hq113⟩ := w100
  have hX114 : ext Γ Γ102 := ext.trans ext.rf hx104
  replace t_q29 : ty Γ102 q29 25 := hx104.one t_q29 (by decide)
  replace t_q13 : ty Γ102 q13 30 := hx104.one t_q13 (by decide)
  replace t_q1 : ty Γ102 q1 1 := hx104.one t_q1 (by decide)
  replace w106 := HD.mk w106
  replace hq109 := HD.mk hq109
  replace hq110 := HD.mk hq110
  replace hq111 := HD.mk hq111
  replace hq112 := HD.mk hq112
  replace hq113 := HD.mk hq113
  have hw115 : ∀ c, c ∉ ([1, 33, 41, 42, 43, 44, 45] : List Nat) → g103 c = g c := fun c hc => funext fun j => hf105 c j (fun q => hc (by rw [q]; decide)) (fun q => hc (by rw [q]; decide)) (fun q => hc (by rw [q]; decide)) (fun q => hc (by rw [q]; decide)) (fun q => hc (by rw [q]; decide)) (fun q => hc (by rw [q]; decide)) (fun q => hc (by rw [q]; decide))
  have hj116 : IJ g103 := IJ_e hIJ (hw115 126 (by decide)) (hw115 132 (by decide)) (hw115 134 (by decide))
  refine lv_pop hx hb dL_law_168 rfl ?_
  refine lv_aload_n hx hb dL_law_169 rfl (lv_at hl 2 rfl) ?_
  refine lv_aload_n hx hb dL_law_170 rfl (lv_at hl 4 rfl) ?_
  refine lv_iload hx hb dL_law_171 (lv_at hl 0 rfl) ?_
  refine ty_iconst hx hb (1) dL_law_173 (by decide) (fun x117 h118 => ?_)
  refine ty_iadd hx hb dL_law_174 (fun x119 h120 => ?_)
  have h121 := lw_ix (k := 1) h118 h120 hi0 hiL hLN (by decide)
  refine va_sld hx hb hXs hbl hbA hS (i := x119) (ty_ix h121.2) dL_law_175 ?_
  refine W.eq (g2 := F0 m 176 ls [.int (xs (i.toInt.toNat + 1)), .ref q13]) (by rw [lw_xs (xs := xs) h121.1 hi0.1]) ?_
  clear h121 h120 h118
  refine W.eq (g2 := F0 m 176 ls [.int x90, .ref q13]) (by rw [s91]) ?_
  refine lv_aload_n hx hb dL_law_176 rfl (lv_at hl 4 rfl) ?_
  refine lv_iload hx hb dL_law_177 (lv_at hl 0 rfl) ?_
  refine ty_iconst hx hb (2) dL_law_179 (by decide) (fun x122 h123 => ?_)
  refine ty_iadd hx hb dL_law_180 (fun x124 h125 => ?_)
  have h126 := lw_ix (k := 2) h123 h125 hi0 hiL hLN (by decide)
  refine va_sld hx hb hXs hbl hbA hS (i := x124) (ty_ix h126.2) dL_law_181 ?_
  refine W.eq (g2 := F0 m 182 ls [.int (xs (i.toInt.toNat + 2)), .int x90, .ref q13]) (by rw [lw_xs (xs := xs) h126.1 hi0.1]) ?_
  clear h126 h125 h123
  refine W.eq (g2 := F0 m 182 ls [.int x97, .int x90, .ref q13]) (by rw [s98]) ?_
  refine cI (va_runV (C := RX9) (As := [.int x90, .int x97]) (rest := []) ⟨hx, hb, hml, hown, hA⟩ (k_X9_flat l dC dI dA sz X Γ102 hU g103 q13 t_q13 x90 x97   (RM_101 hRL (hw115 101 (by decide)))) ⟨callB_of 2 hA (al_A wd_5_35) rfl rfl rfl (hA _ wd_1_7) (hA _ wd_5_32) (by decide +kernel) ⟨Nat.le_of_ble_eq_true rfl, Nat.le_of_ble_eq_true rfl⟩, hA _ wd_5_33, hA _ wd_5_34⟩ ⟨bl, recv_X9 hE hG t_q13, fun U hU9 hW9 => ⟨rfl, by rw [hU9]; exact hG, hE.go hS hU9 hW9⟩⟩ rfl rfl hl.1 rfl (lv_room (Nat.le_of_ble_eq_true rfl)) dL_law_182 ⟨(Nat.le_trans (show (kc + 4) + 0 ≤ 300000 by omega) (Nat.le_of_ble_eq_true rfl)), (Nat.le_trans (show (ks + 165) + 0 ≤ 300000 by omega) (Nat.le_of_ble_eq_true rfl))⟩) hS (fun x129 u127 H locs w128 hG hS => ?_)
  obtain ⟨hf131, w128, hq130⟩ := w128
  replace w128 := HD.mk w128
  replace hq130 := HD.mk hq130
  have hw132 : ∀ c, c ∉ ([100, 101, 102, 103] : List Nat) → u127 c = g103 c := fun c hc => funext fun j => hf131 c j (fun q => hc (by rw [q]; decide)) (fun q => hc (by rw [q]; decide)) (fun q => hc (by rw [q]; decide)) (fun q => hc (by rw [q]; decide))
  have hst133 := st_flat (g := g) (u1 := g103) (u2 := u127) (r1 := x101) (r2 := x129) hRL hw115 hw132 w106.v.1 w106.v.2 hq109.v hq110.v hq111.v hq112.v hq113.v w128.v.1 w128.v.2 hq130.v
  have hrr134 := hst133.2
  refine lv_pop hx hb dL_law_185 rfl ?_
  refine lv_goto (tgt := 1047) hx hb dL_law_186 (by decide) ?_
  obtain ⟨x135, h136⟩ : ∃ y : Int32, y = i + Int32.ofInt (6) := ⟨_, rfl⟩
  try have h137 : x135.toInt = i.toInt + (6) := ty_inc h136 (by decide) (by omega) (by omega)
  refine lv_iinc (v := x135) (lv' := [(4, .int x135), (3, .ref q29), (2, .ref q13), (1, .ref q1), (0, .ref b)]) hx hb dL_law_1047 hl (k := 0) rfl h136.symm (by decide) rfl (fun ls hl => ?_)
  refine lv_goto (tgt := 23) hx hb dL_law_1050 (by decide) ?_
  exact ih x135 Γ102 u127 ((kc + 4)) ((ks + 165)) _ _ ls (by omega) (by omega) (by have a9 := congrFun (hw132 4 (by decide)) 0; have b9 := congrFun (hw115 4 (by decide)) 0; omega) hst133.1 (IJ_e hj116 (hw132 126 (by decide)) (hw132 132 (by decide)) (hw132 134 (by decide))) (Bd_e hB108 (hw132 33 (by decide)) (hw132 34 (by decide)) (hw132 35 (by decide))) hU t_q1 t_q13 t_q29 (by omega) (by omega) hG hS (lv_sub hl [0, 1, 2, 3, 4] rfl)
set_option maxHeartbeats 40000000 in
set_option maxRecDepth 100000 in
/-- the law's case 1 -/
theorem law_c1 {p : Program} {e : Env} {s : State} {m : MethodId} {below : List Frame} {meth : Method} {c : Code} (l : Launch) (hl9 : l.stackTraces = false) {b L : Nat} {xs : Nat → Int32} (hLN : L ≤ 3072) (hx : p.tables.exec = Jvm.exec) (hb : c.code = code) (hr : meth.sig.returnType = ret) (hml : c.maxLocals = 7) (hown : s.vm.findClass R_law = some m.cls) (hA : ∀ w ∈ AL, w.before #[Value.ref b] s = true) (hXs : va_X b L xs s s.heap) (hbl : b < s.heap.size) (hlocks : meth.locks = false) {dC : Nat → ClassId} {dI : Nat → Nat → Nat} {dA : Nat → ClassId} {sz : Nat} (hE : en dC dI dA sz s) (hsz : sz = s.heap.size) (hbA : ¬ ty_A sz b) (X : va_W) (q1 q13 q29 : Nat) (n : Nat) (ih : LJ p l e s m below meth c b dC dI dA sz X q1 q13 q29 n) (i : Int32) (Γ : ty_G) (g : gh) (kc ks : Nat) (H : Heap) (locs : List Loc) (ls : Array Slot) (hm : (3073 - i.toInt : Int) < (n + 1 : Nat)) (hi0 : 0 ≤ i.toInt ∧ i.toInt ≤ 3072) (hy4 : g 4 0 ≤ i.toInt) (hRL : RLA g) (hIJ : IJ g) (hBd : Bd Γ g) (hU : Un Γ) (t_q1 : ty Γ q1 1) (t_q13 : ty Γ q13 30) (t_q29 : ty Γ q29 25) (hkc : kc ≤ 300 + i.toInt.toNat) (hks : ks ≤ 30000 + 28 * i.toInt.toNat) (hG : ty_ok (dC, dI) vwCl Γ (TP dA Γ g) sz X H) (hS : va_S (ty_A sz) s.heap H locs) (hl : lv_has ls 7 [(4, .int i), (3, .ref q29), (2, .ref q13), (1, .ref q1), (0, .ref b)]) (hiL : i.toInt + 6 ≤ (L : Int)) : W p l e room_1 s m #[Value.ref b] below meth c H locs kc ks (lw_Z below #[Value.ref b] s) (F0 m 189 ls []) := by
  refine lv_aload_n hx hb dL_law_189 rfl (lv_at hl 3 rfl) ?_
  refine lv_aload_n hx hb dL_law_190 rfl (lv_at hl 4 rfl) ?_
  refine lv_iload hx hb dL_law_191 (lv_at hl 0 rfl) ?_
  refine ty_iconst hx hb (1) dL_law_193 (by decide) (fun x138 h139 => ?_)
  refine ty_iadd hx hb dL_law_194 (fun x140 h141 => ?_)
  have h142 := lw_ix (k := 1) h139 h141 hi0 hiL hLN (by decide)
  refine va_sld hx hb hXs hbl hbA hS (i := x140) (ty_ix h142.2) dL_law_195 ?_
  refine W.eq (g2 := F0 m 196 ls [.int (xs (i.toInt.toNat + 1)), .ref q1]) (by rw [lw_xs (xs := xs) h142.1 hi0.1]) ?_
  clear h142 h141 h139
  refine lv_topi (fun x143 s144 => ?_)
  refine cIB (va_runV (C := RX8) (As := [.int x143]) (rest := []) ⟨hx, hb, hml, hown, hA⟩ (k_X8_owner l dC dI dA sz X Γ hU g q1 t_q1 x143   (RL_2 hRL) (hBd)) ⟨callB_of 1 hA (al_A wd_2_0) rfl rfl rfl (hA _ wd_1_1) (hA _ wd_1_237) (by decide +kernel) ⟨Nat.le_of_ble_eq_true rfl, Nat.le_of_ble_eq_true rfl⟩, hA _ wd_1_238, hA _ wd_1_239⟩ ⟨bl, recv_X8 hE hG t_q1, fun U hU9 hW9 => ⟨rfl, by rw [hU9]; exact hG, hE.go hS hU9 hW9⟩⟩ rfl rfl hl.1 rfl (lv_room (Nat.le_of_ble_eq_true rfl)) dL_law_196 ⟨(Nat.le_trans (show kc + 1 ≤ 300000 by omega) (Nat.le_of_ble_eq_true rfl)), (Nat.le_trans (show ks + 8 ≤ 300000 by omega) (Nat.le_of_ble_eq_true rfl))⟩) hS (fun x147 u145 H locs w146 hG hS => ?_)
  obtain ⟨Γ148, g149⟩ := u145
  dsimp only at w146 hG
  obtain ⟨hx150, hU, hB154, hf151, w152, hq155, hq156, hq157, hq158, hq159, hq160, hq161⟩ := w146
  have hX162 : ext Γ Γ148 := ext.trans ext.rf hx150
  replace t_q29 : ty Γ148 q29 25 := hx150.one t_q29 (by decide)
  replace t_q13 : ty Γ148 q13 30 := hx150.one t_q13 (by decide)
  replace t_q1 : ty Γ148 q1 1 := hx150.one t_q1 (by decide)
  replace w152 := HD.mk w152
  replace hq155 := HD.mk hq155
  replace hq156 := HD.mk hq156
  replace hq157 := HD.mk hq157
  replace hq158 := HD.mk hq158
  replace hq159 := HD.mk hq159
  replace hq160 := HD.mk hq160
  replace hq161 := HD.mk hq161
  have hw163 : ∀ c, c ∉ ([2, 34, 50, 51, 52, 53, 54, 55, 56] : List Nat) → g149 c = g c := fun c hc => funext fun j => hf151 c j (fun q => hc (by rw [q]; decide)) (fun q => hc (by rw [q]; decide)) (fun q => hc (by rw [q]; decide)) (fun q => hc (by rw [q]; decide)) (fun q => hc (by rw [q]; decide)) (fun q => hc (by rw [q]; decide)) (fun q => hc (by rw [q]; decide)) (fun q => hc (by rw [q]; decide)) (fun q => hc (by rw [q]; decide))
  have hj164 : IJ g149 := IJ_e hIJ (hw163 126 (by decide)) (hw163 132 (by decide)) (hw163 134 (by decide))
  refine lv_pop hx hb dL_law_199 rfl ?_
  refine lv_aload_n hx hb dL_law_200 rfl (lv_at hl 2 rfl) ?_
  refine lv_aload_n hx hb dL_law_201 rfl (lv_at hl 4 rfl) ?_
  refine lv_iload hx hb dL_law_202 (lv_at hl 0 rfl) ?_
  refine ty_iconst hx hb (1) dL_law_204 (by decide) (fun x165 h166 => ?_)
  refine ty_iadd hx hb dL_law_205 (fun x167 h168 => ?_)
  have h169 := lw_ix (k := 1) h166 h168 hi0 hiL hLN (by decide)
  refine va_sld hx hb hXs hbl hbA hS (i := x167) (ty_ix h169.2) dL_law_206 ?_
  refine W.eq (g2 := F0 m 207 ls [.int (xs (i.toInt.toNat + 1)), .ref q13]) (by rw [lw_xs (xs := xs) h169.1 hi0.1]) ?_
  clear h169 h168 h166
  refine W.eq (g2 := F0 m 207 ls [.int x143, .ref q13]) (by rw [s144]) ?_
  refine cI (va_runV (C := RX9) (As := [.int x143]) (rest := []) ⟨hx, hb, hml, hown, hA⟩ (k_X9_owner l dC dI dA sz X Γ148 hU g149 q13 t_q13 x143   (RM_104 hRL (hw163 104 (by decide)))) ⟨callB_of 1 hA (al_A wd_5_42) rfl rfl rfl (hA _ wd_1_7) (hA _ wd_5_39) (by decide +kernel) ⟨Nat.le_of_ble_eq_true rfl, Nat.le_of_ble_eq_true rfl⟩, hA _ wd_5_40, hA _ wd_5_41⟩ ⟨bl, recv_X9 hE hG t_q13, fun U hU9 hW9 => ⟨rfl, by rw [hU9]; exact hG, hE.go hS hU9 hW9⟩⟩ rfl rfl hl.1 rfl (lv_room (Nat.le_of_ble_eq_true rfl)) dL_law_207 ⟨(Nat.le_trans (show (kc + 1) + 0 ≤ 300000 by omega) (Nat.le_of_ble_eq_true rfl)), (Nat.le_trans (show (ks + 8) + 0 ≤ 300000 by omega) (Nat.le_of_ble_eq_true rfl))⟩) hS (fun x172 u170 H locs w171 hG hS => ?_)
  obtain ⟨hf174, w171, hq173⟩ := w171
  replace w171 := HD.mk w171
  replace hq173 := HD.mk hq173
  have hw175 : ∀ c, c ∉ ([100, 104, 105] : List Nat) → u170 c = g149 c := fun c hc => funext fun j => hf174 c j (fun q => hc (by rw [q]; decide)) (fun q => hc (by rw [q]; decide)) (fun q => hc (by rw [q]; decide))
  have hst176 := st_owner (g := g) (u1 := g149) (u2 := u170) (r1 := x147) (r2 := x172) hRL hw163 hw175 w152.v.1 w152.v.2 hq155.v hq156.v hq157.v hq158.v hq159.v hq160.v hq161.v w171.v.1 w171.v.2 hq173.v
  have hrr177 := hst176.2
  refine lv_pop hx hb dL_law_210 rfl ?_
  refine lv_goto (tgt := 1047) hx hb dL_law_211 (by decide) ?_
  obtain ⟨x178, h179⟩ : ∃ y : Int32, y = i + Int32.ofInt (6) := ⟨_, rfl⟩
  try have h180 : x178.toInt = i.toInt + (6) := ty_inc h179 (by decide) (by omega) (by omega)
  refine lv_iinc (v := x178) (lv' := [(4, .int x178), (3, .ref q29), (2, .ref q13), (1, .ref q1), (0, .ref b)]) hx hb dL_law_1047 hl (k := 0) rfl h179.symm (by decide) rfl (fun ls hl => ?_)
  refine lv_goto (tgt := 23) hx hb dL_law_1050 (by decide) ?_
  exact ih x178 Γ148 u170 ((kc + 1)) ((ks + 8)) _ _ ls (by omega) (by omega) (by have a9 := congrFun (hw175 4 (by decide)) 0; have b9 := congrFun (hw163 4 (by decide)) 0; omega) hst176.1 (IJ_e hj164 (hw175 126 (by decide)) (hw175 132 (by decide)) (hw175 134 (by decide))) (Bd_e hB154 (hw175 33 (by decide)) (hw175 34 (by decide)) (hw175 35 (by decide))) hU t_q1 t_q13 t_q29 (by omega) (by omega) hG hS (lv_sub hl [0, 1, 2, 3, 4] rfl)
set_option maxHeartbeats 40000000 in
set_option maxRecDepth 100000 in
/-- the law's case 2 -/
theorem law_c2 {p : Program} {e : Env} {s : State} {m : MethodId} {below : List Frame} {meth : Method} {c : Code} (l : Launch) (hl9 : l.stackTraces = false) {b L : Nat} {xs : Nat → Int32} (hLN : L ≤ 3072) (hx : p.tables.exec = Jvm.exec) (hb : c.code = code) (hr : meth.sig.returnType = ret) (hml : c.maxLocals = 7) (hown : s.vm.findClass R_law = some m.cls) (hA : ∀ w ∈ AL, w.before #[Value.ref b] s = true) (hXs : va_X b L xs s s.heap) (hbl : b < s.heap.size) (hlocks : meth.locks = false) {dC : Nat → ClassId} {dI : Nat → Nat → Nat} {dA : Nat → ClassId} {sz : Nat} (hE : en dC dI dA sz s) (hsz : sz = s.heap.size) (hbA : ¬ ty_A sz b) (X : va_W) (q1 q13 q29 : Nat) (n : Nat) (ih : LJ p l e s m below meth c b dC dI dA sz X q1 q13 q29 n) (i : Int32) (Γ : ty_G) (g : gh) (kc ks : Nat) (H : Heap) (locs : List Loc) (ls : Array Slot) (hm : (3073 - i.toInt : Int) < (n + 1 : Nat)) (hi0 : 0 ≤ i.toInt ∧ i.toInt ≤ 3072) (hy4 : g 4 0 ≤ i.toInt) (hRL : RLA g) (hIJ : IJ g) (hBd : Bd Γ g) (hU : Un Γ) (t_q1 : ty Γ q1 1) (t_q13 : ty Γ q13 30) (t_q29 : ty Γ q29 25) (hkc : kc ≤ 300 + i.toInt.toNat) (hks : ks ≤ 30000 + 28 * i.toInt.toNat) (hG : ty_ok (dC, dI) vwCl Γ (TP dA Γ g) sz X H) (hS : va_S (ty_A sz) s.heap H locs) (hl : lv_has ls 7 [(4, .int i), (3, .ref q29), (2, .ref q13), (1, .ref q1), (0, .ref b)]) (hiL : i.toInt + 6 ≤ (L : Int)) : W p l e room_1 s m #[Value.ref b] below meth c H locs kc ks (lw_Z below #[Value.ref b] s) (F0 m 214 ls []) := by
  refine lv_aload_n hx hb dL_law_214 rfl (lv_at hl 3 rfl) ?_
  refine lv_aload_n hx hb dL_law_215 rfl (lv_at hl 4 rfl) ?_
  refine lv_iload hx hb dL_law_216 (lv_at hl 0 rfl) ?_
  refine ty_iconst hx hb (1) dL_law_218 (by decide) (fun x181 h182 => ?_)
  refine ty_iadd hx hb dL_law_219 (fun x183 h184 => ?_)
  have h185 := lw_ix (k := 1) h182 h184 hi0 hiL hLN (by decide)
  refine va_sld hx hb hXs hbl hbA hS (i := x183) (ty_ix h185.2) dL_law_220 ?_
  refine W.eq (g2 := F0 m 221 ls [.int (xs (i.toInt.toNat + 1)), .ref q1]) (by rw [lw_xs (xs := xs) h185.1 hi0.1]) ?_
  clear h185 h184 h182
  refine lv_topi (fun x186 s187 => ?_)
  refine lv_aload_n hx hb dL_law_221 rfl (lv_at hl 4 rfl) ?_
  refine lv_iload hx hb dL_law_222 (lv_at hl 0 rfl) ?_
  refine ty_iconst hx hb (2) dL_law_224 (by decide) (fun x188 h189 => ?_)
  refine ty_iadd hx hb dL_law_225 (fun x190 h191 => ?_)
  have h192 := lw_ix (k := 2) h189 h191 hi0 hiL hLN (by decide)
  refine va_sld hx hb hXs hbl hbA hS (i := x190) (ty_ix h192.2) dL_law_226 ?_
  refine W.eq (g2 := F0 m 227 ls [.int (xs (i.toInt.toNat + 2)), .int x186, .ref q1]) (by rw [lw_xs (xs := xs) h192.1 hi0.1]) ?_
  clear h192 h191 h189
  refine lv_topi (fun x193 s194 => ?_)
  refine lv_aload_n hx hb dL_law_227 rfl (lv_at hl 4 rfl) ?_
  refine lv_iload hx hb dL_law_228 (lv_at hl 0 rfl) ?_
  refine ty_iconst hx hb (3) dL_law_230 (by decide) (fun x195 h196 => ?_)
  refine ty_iadd hx hb dL_law_231 (fun x197 h198 => ?_)
  have h199 := lw_ix (k := 3) h196 h198 hi0 hiL hLN (by decide)
  refine va_sld hx hb hXs hbl hbA hS (i := x197) (ty_ix h199.2) dL_law_232 ?_
  refine W.eq (g2 := F0 m 233 ls [.int (xs (i.toInt.toNat + 3)), .int x193, .int x186, .ref q1]) (by rw [lw_xs (xs := xs) h199.1 hi0.1]) ?_
  clear h199 h198 h196
  refine lv_topi (fun x200 s201 => ?_)
  refine cI (va_runV (C := RX8) (As := [.int x186, .int x193, .int x200]) (rest := []) ⟨hx, hb, hml, hown, hA⟩ (k_X8_own l dC dI dA sz X Γ hU g q1 t_q1 x186 x193 x200   (RL_1 hRL) (RL_2 hRL)) ⟨callB_of 3 hA (al_A wd_2_44) rfl rfl rfl (hA _ wd_1_1) (hA _ wd_2_41) (by decide +kernel) ⟨Nat.le_of_ble_eq_true rfl, Nat.le_of_ble_eq_true rfl⟩, hA _ wd_2_42, hA _ wd_2_43⟩ ⟨bl, recv_X8 hE hG t_q1, fun U hU9 hW9 => ⟨rfl, by rw [hU9]; exact hG, hE.go hS hU9 hW9⟩⟩ rfl rfl hl.1 rfl (lv_room (Nat.le_of_ble_eq_true rfl)) dL_law_233 ⟨(Nat.le_trans (show kc + 0 ≤ 300000 by omega) (Nat.le_of_ble_eq_true rfl)), (Nat.le_trans (show ks + 0 ≤ 300000 by omega) (Nat.le_of_ble_eq_true rfl))⟩) hS (fun x204 u202 H locs w203 hG hS => ?_)
  obtain ⟨hf206, hq205⟩ := w203
  replace hq205 := HD.mk hq205
  have hw207 : ∀ c, c ∉ ([43, 53] : List Nat) → u202 c = g c := fun c hc => funext fun j => hf206 c j (fun q => hc (by rw [q]; decide)) (fun q => hc (by rw [q]; decide))
  have hb208 : Bd Γ u202 := Bd_e hBd (hw207 33 (by decide)) (hw207 34 (by decide)) (hw207 35 (by decide))
  have hj209 : IJ u202 := IJ_e hIJ (hw207 126 (by decide)) (hw207 132 (by decide)) (hw207 134 (by decide))
  refine lv_aload_n hx hb dL_law_236 rfl (lv_at hl 2 rfl) ?_
  refine lv_aload_n hx hb dL_law_237 rfl (lv_at hl 4 rfl) ?_
  refine lv_iload hx hb dL_law_238 (lv_at hl 0 rfl) ?_
  refine ty_iconst hx hb (1) dL_law_240 (by decide) (fun x210 h211 => ?_)
  refine ty_iadd hx hb dL_law_241 (fun x212 h213 => ?_)
  have h214 := lw_ix (k := 1) h211 h213 hi0 hiL hLN (by decide)
  refine va_sld hx hb hXs hbl hbA hS (i := x212) (ty_ix h214.2) dL_law_242 ?_
  refine W.eq (g2 := F0 m 243 ls [.int (xs (i.toInt.toNat + 1)), .ref q13, .int x204]) (by rw [lw_xs (xs := xs) h214.1 hi0.1]) ?_
  clear h214 h213 h211
  refine W.eq (g2 := F0 m 243 ls [.int x186, .ref q13, .int x204]) (by rw [s187]) ?_
  refine lv_aload_n hx hb dL_law_243 rfl (lv_at hl 4 rfl) ?_
  refine lv_iload hx hb dL_law_244 (lv_at hl 0 rfl) ?_
  refine ty_iconst hx hb (2) dL_law_246 (by decide) (fun x215 h216 => ?_)
  refine ty_iadd hx hb dL_law_247 (fun x217 h218 => ?_)
  have h219 := lw_ix (k := 2) h216 h218 hi0 hiL hLN (by decide)
  refine va_sld hx hb hXs hbl hbA hS (i := x217) (ty_ix h219.2) dL_law_248 ?_
  refine W.eq (g2 := F0 m 249 ls [.int (xs (i.toInt.toNat + 2)), .int x186, .ref q13, .int x204]) (by rw [lw_xs (xs := xs) h219.1 hi0.1]) ?_
  clear h219 h218 h216
  refine W.eq (g2 := F0 m 249 ls [.int x193, .int x186, .ref q13, .int x204]) (by rw [s194]) ?_
  refine lv_aload_n hx hb dL_law_249 rfl (lv_at hl 4 rfl) ?_
  refine lv_iload hx hb dL_law_250 (lv_at hl 0 rfl) ?_
  refine ty_iconst hx hb (3) dL_law_252 (by decide) (fun x220 h221 => ?_)
  refine ty_iadd hx hb dL_law_253 (fun x222 h223 => ?_)
  have h224 := lw_ix (k := 3) h221 h223 hi0 hiL hLN (by decide)
  refine va_sld hx hb hXs hbl hbA hS (i := x222) (ty_ix h224.2) dL_law_254 ?_
  refine W.eq (g2 := F0 m 255 ls [.int (xs (i.toInt.toNat + 3)), .int x193, .int x186, .ref q13, .int x204]) (by rw [lw_xs (xs := xs) h224.1 hi0.1]) ?_
  clear h224 h223 h221
  refine W.eq (g2 := F0 m 255 ls [.int x200, .int x193, .int x186, .ref q13, .int x204]) (by rw [s201]) ?_
  refine cI (va_runV (C := RX9) (As := [.int x186, .int x193, .int x200]) (rest := [.int x204]) ⟨hx, hb, hml, hown, hA⟩ (k_X9_own l dC dI dA sz X Γ hU u202 q13 t_q13 x186 x193 x200   (RM_101 hRL (hw207 101 (by decide))) (RM_104 hRL (hw207 104 (by decide))) (RM_126 hRL (hw207 126 (by decide)))) ⟨callB_of 3 hA (al_A wd_5_46) rfl rfl rfl (hA _ wd_1_7) (hA _ wd_5_43) (by decide +kernel) ⟨Nat.le_of_ble_eq_true rfl, Nat.le_of_ble_eq_true rfl⟩, hA _ wd_5_44, hA _ wd_5_45⟩ ⟨bl, recv_X9 hE hG t_q13, fun U hU9 hW9 => ⟨rfl, by rw [hU9]; exact hG, hE.go hS hU9 hW9⟩⟩ rfl rfl hl.1 rfl (lv_room (Nat.le_of_ble_eq_true rfl)) dL_law_255 ⟨(Nat.le_trans (show kc + 0 ≤ 300000 by omega) (Nat.le_of_ble_eq_true rfl)), (Nat.le_trans (show ks + 0 ≤ 300000 by omega) (Nat.le_of_ble_eq_true rfl))⟩) hS (fun x227 u225 H locs w226 hG hS => ?_)
  obtain ⟨hf229, hq228⟩ := w226
  replace hq228 := HD.mk hq228
  have hw230 : ∀ c, c ∉ ([100, 109] : List Nat) → u225 c = u202 c := fun c hc => funext fun j => hf229 c j (fun q => hc (by rw [q]; decide)) (fun q => hc (by rw [q]; decide))
  have hst231 := st_own (g := g) (u1 := u202) (u2 := u225) (r1 := x204) (r2 := x227) hRL hw207 hw230 hq205.v hq228.v
  have hrr232 := hst231.2
  refine ty_icmp_eq (tgt := 1047) hx hb dL_law_258 (by decide) (fun c233 => ?_) (fun c233 => ?_)
  · skip
    obtain ⟨x234, h235⟩ : ∃ y : Int32, y = i + Int32.ofInt (6) := ⟨_, rfl⟩
    try have h236 : x234.toInt = i.toInt + (6) := ty_inc h235 (by decide) (by omega) (by omega)
    refine lv_iinc (v := x234) (lv' := [(4, .int x234), (3, .ref q29), (2, .ref q13), (1, .ref q1), (0, .ref b)]) hx hb dL_law_1047 hl (k := 0) rfl h235.symm (by decide) rfl (fun ls hl => ?_)
    refine lv_goto (tgt := 23) hx hb dL_law_1050 (by decide) ?_
    exact ih x234 Γ u225 (kc) (ks) _ _ ls (by omega) (by omega) (by have a9 := congrFun (hw230 4 (by decide)) 0; have b9 := congrFun (hw207 4 (by decide)) 0; omega) hst231.1 (IJ_e hj209 (hw230 126 (by decide)) (hw230 132 (by decide)) (hw230 134 (by decide))) (Bd_e hb208 (hw230 33 (by decide)) (hw230 34 (by decide)) (hw230 35 (by decide))) hU t_q1 t_q13 t_q29 (by omega) (by omega) hG hS (lv_sub hl [0, 1, 2, 3, 4] rfl)
  · exfalso; omega
set_option maxHeartbeats 40000000 in
set_option maxRecDepth 100000 in
/-- the law's case 3 -/
theorem law_c3 {p : Program} {e : Env} {s : State} {m : MethodId} {below : List Frame} {meth : Method} {c : Code} (l : Launch) (hl9 : l.stackTraces = false) {b L : Nat} {xs : Nat → Int32} (hLN : L ≤ 3072) (hx : p.tables.exec = Jvm.exec) (hb : c.code = code) (hr : meth.sig.returnType = ret) (hml : c.maxLocals = 7) (hown : s.vm.findClass R_law = some m.cls) (hA : ∀ w ∈ AL, w.before #[Value.ref b] s = true) (hXs : va_X b L xs s s.heap) (hbl : b < s.heap.size) (hlocks : meth.locks = false) {dC : Nat → ClassId} {dI : Nat → Nat → Nat} {dA : Nat → ClassId} {sz : Nat} (hE : en dC dI dA sz s) (hsz : sz = s.heap.size) (hbA : ¬ ty_A sz b) (X : va_W) (q1 q13 q29 : Nat) (n : Nat) (ih : LJ p l e s m below meth c b dC dI dA sz X q1 q13 q29 n) (i : Int32) (Γ : ty_G) (g : gh) (kc ks : Nat) (H : Heap) (locs : List Loc) (ls : Array Slot) (hm : (3073 - i.toInt : Int) < (n + 1 : Nat)) (hi0 : 0 ≤ i.toInt ∧ i.toInt ≤ 3072) (hy4 : g 4 0 ≤ i.toInt) (hRL : RLA g) (hIJ : IJ g) (hBd : Bd Γ g) (hU : Un Γ) (t_q1 : ty Γ q1 1) (t_q13 : ty Γ q13 30) (t_q29 : ty Γ q29 25) (hkc : kc ≤ 300 + i.toInt.toNat) (hks : ks ≤ 30000 + 28 * i.toInt.toNat) (hG : ty_ok (dC, dI) vwCl Γ (TP dA Γ g) sz X H) (hS : va_S (ty_A sz) s.heap H locs) (hl : lv_has ls 7 [(4, .int i), (3, .ref q29), (2, .ref q13), (1, .ref q1), (0, .ref b)]) (hiL : i.toInt + 6 ≤ (L : Int)) : W p l e room_1 s m #[Value.ref b] below meth c H locs kc ks (lw_Z below #[Value.ref b] s) (F0 m 263 ls []) := by
  refine lv_aload_n hx hb dL_law_263 rfl (lv_at hl 3 rfl) ?_
  refine lv_aload_n hx hb dL_law_264 rfl (lv_at hl 4 rfl) ?_
  refine lv_iload hx hb dL_law_265 (lv_at hl 0 rfl) ?_
  refine ty_iconst hx hb (1) dL_law_267 (by decide) (fun x237 h238 => ?_)
  refine ty_iadd hx hb dL_law_268 (fun x239 h240 => ?_)
  have h241 := lw_ix (k := 1) h238 h240 hi0 hiL hLN (by decide)
  refine va_sld hx hb hXs hbl hbA hS (i := x239) (ty_ix h241.2) dL_law_269 ?_
  refine W.eq (g2 := F0 m 270 ls [.int (xs (i.toInt.toNat + 1)), .ref q1]) (by rw [lw_xs (xs := xs) h241.1 hi0.1]) ?_
  clear h241 h240 h238
  refine lv_topi (fun x242 s243 => ?_)
  refine lv_aload_n hx hb dL_law_270 rfl (lv_at hl 4 rfl) ?_
  refine lv_iload hx hb dL_law_271 (lv_at hl 0 rfl) ?_
  refine ty_iconst hx hb (2) dL_law_273 (by decide) (fun x244 h245 => ?_)
  refine ty_iadd hx hb dL_law_274 (fun x246 h247 => ?_)
  have h248 := lw_ix (k := 2) h245 h247 hi0 hiL hLN (by decide)
  refine va_sld hx hb hXs hbl hbA hS (i := x246) (ty_ix h248.2) dL_law_275 ?_
  refine W.eq (g2 := F0 m 276 ls [.int (xs (i.toInt.toNat + 2)), .int x242, .ref q1]) (by rw [lw_xs (xs := xs) h248.1 hi0.1]) ?_
  clear h248 h247 h245
  refine lv_topi (fun x249 s250 => ?_)
  refine lv_aload_n hx hb dL_law_276 rfl (lv_at hl 4 rfl) ?_
  refine lv_iload hx hb dL_law_277 (lv_at hl 0 rfl) ?_
  refine ty_iconst hx hb (3) dL_law_279 (by decide) (fun x251 h252 => ?_)
  refine ty_iadd hx hb dL_law_280 (fun x253 h254 => ?_)
  have h255 := lw_ix (k := 3) h252 h254 hi0 hiL hLN (by decide)
  refine va_sld hx hb hXs hbl hbA hS (i := x253) (ty_ix h255.2) dL_law_281 ?_
  refine W.eq (g2 := F0 m 282 ls [.int (xs (i.toInt.toNat + 3)), .int x249, .int x242, .ref q1]) (by rw [lw_xs (xs := xs) h255.1 hi0.1]) ?_
  clear h255 h254 h252
  refine lv_topi (fun x256 s257 => ?_)
  refine lv_aload_n hx hb dL_law_282 rfl (lv_at hl 4 rfl) ?_
  refine lv_iload hx hb dL_law_283 (lv_at hl 0 rfl) ?_
  refine ty_iconst hx hb (4) dL_law_285 (by decide) (fun x258 h259 => ?_)
  refine ty_iadd hx hb dL_law_286 (fun x260 h261 => ?_)
  have h262 := lw_ix (k := 4) h259 h261 hi0 hiL hLN (by decide)
  refine va_sld hx hb hXs hbl hbA hS (i := x260) (ty_ix h262.2) dL_law_287 ?_
  refine W.eq (g2 := F0 m 288 ls [.int (xs (i.toInt.toNat + 4)), .int x256, .int x249, .int x242, .ref q1]) (by rw [lw_xs (xs := xs) h262.1 hi0.1]) ?_
  clear h262 h261 h259
  refine lv_topi (fun x263 s264 => ?_)
  refine lv_aload_n hx hb dL_law_288 rfl (lv_at hl 4 rfl) ?_
  refine lv_iload hx hb dL_law_289 (lv_at hl 0 rfl) ?_
  refine ty_iconst hx hb (5) dL_law_291 (by decide) (fun x265 h266 => ?_)
  refine ty_iadd hx hb dL_law_292 (fun x267 h268 => ?_)
  have h269 := lw_ix (k := 5) h266 h268 hi0 hiL hLN (by decide)
  refine va_sld hx hb hXs hbl hbA hS (i := x267) (ty_ix h269.2) dL_law_293 ?_
  refine W.eq (g2 := F0 m 294 ls [.int (xs (i.toInt.toNat + 5)), .int x263, .int x256, .int x249, .int x242, .ref q1]) (by rw [lw_xs (xs := xs) h269.1 hi0.1]) ?_
  clear h269 h268 h266
  refine lv_topi (fun x270 s271 => ?_)
  refine cI (va_runV (C := RX8) (As := [.int x242, .int x249, .int x256, .int x263, .int x270]) (rest := []) ⟨hx, hb, hml, hown, hA⟩ (k_X8_feed l dC dI dA sz X Γ hU g q1 t_q1 x242 x249 x256 x263 x270   (RL_6 hRL)) ⟨callB_of 5 hA (al_A wd_2_76) rfl rfl rfl (hA _ wd_1_1) (hA _ wd_2_73) (by decide +kernel) ⟨Nat.le_of_ble_eq_true rfl, Nat.le_of_ble_eq_true rfl⟩, hA _ wd_2_74, hA _ wd_2_75⟩ ⟨bl, recv_X8 hE hG t_q1, fun U hU9 hW9 => ⟨rfl, by rw [hU9]; exact hG, hE.go hS hU9 hW9⟩⟩ rfl rfl hl.1 rfl (lv_room (Nat.le_of_ble_eq_true rfl)) dL_law_294 ⟨(Nat.le_trans (show kc + 0 ≤ 300000 by omega) (Nat.le_of_ble_eq_true rfl)), (Nat.le_trans (show ks + 0 ≤ 300000 by omega) (Nat.le_of_ble_eq_true rfl))⟩) hS (fun x274 u272 H locs w273 hG hS => ?_)
  obtain ⟨hf276, w273, hq275⟩ := w273
  replace w273 := HD.mk w273
  replace hq275 := HD.mk hq275
  have hw277 : ∀ c, c ∉ ([6, 19] : List Nat) → u272 c = g c := fun c hc => funext fun j => hf276 c j (fun q => hc (by rw [q]; decide)) (fun q => hc (by rw [q]; decide))
  have hb278 : Bd Γ u272 := Bd_e hBd (hw277 33 (by decide)) (hw277 34 (by decide)) (hw277 35 (by decide))
  have hj279 : IJ u272 := IJ_e hIJ (hw277 126 (by decide)) (hw277 132 (by decide)) (hw277 134 (by decide))
  refine lv_pop hx hb dL_law_297 rfl ?_
  refine lv_aload_n hx hb dL_law_298 rfl (lv_at hl 2 rfl) ?_
  refine lv_aload_n hx hb dL_law_299 rfl (lv_at hl 4 rfl) ?_
  refine lv_iload hx hb dL_law_300 (lv_at hl 0 rfl) ?_
  refine ty_iconst hx hb (1) dL_law_302 (by decide) (fun x280 h281 => ?_)
  refine ty_iadd hx hb dL_law_303 (fun x282 h283 => ?_)
  have h284 := lw_ix (k := 1) h281 h283 hi0 hiL hLN (by decide)
  refine va_sld hx hb hXs hbl hbA hS (i := x282) (ty_ix h284.2) dL_law_304 ?_
  refine W.eq (g2 := F0 m 305 ls [.int (xs (i.toInt.toNat + 1)), .ref q13]) (by rw [lw_xs (xs := xs) h284.1 hi0.1]) ?_
  clear h284 h283 h281
  refine W.eq (g2 := F0 m 305 ls [.int x242, .ref q13]) (by rw [s243]) ?_
  refine lv_aload_n hx hb dL_law_305 rfl (lv_at hl 4 rfl) ?_
  refine lv_iload hx hb dL_law_306 (lv_at hl 0 rfl) ?_
  refine ty_iconst hx hb (2) dL_law_308 (by decide) (fun x285 h286 => ?_)
  refine ty_iadd hx hb dL_law_309 (fun x287 h288 => ?_)
  have h289 := lw_ix (k := 2) h286 h288 hi0 hiL hLN (by decide)
  refine va_sld hx hb hXs hbl hbA hS (i := x287) (ty_ix h289.2) dL_law_310 ?_
  refine W.eq (g2 := F0 m 311 ls [.int (xs (i.toInt.toNat + 2)), .int x242, .ref q13]) (by rw [lw_xs (xs := xs) h289.1 hi0.1]) ?_
  clear h289 h288 h286
  refine W.eq (g2 := F0 m 311 ls [.int x249, .int x242, .ref q13]) (by rw [s250]) ?_
  refine lv_aload_n hx hb dL_law_311 rfl (lv_at hl 4 rfl) ?_
  refine lv_iload hx hb dL_law_312 (lv_at hl 0 rfl) ?_
  refine ty_iconst hx hb (3) dL_law_314 (by decide) (fun x290 h291 => ?_)
  refine ty_iadd hx hb dL_law_315 (fun x292 h293 => ?_)
  have h294 := lw_ix (k := 3) h291 h293 hi0 hiL hLN (by decide)
  refine va_sld hx hb hXs hbl hbA hS (i := x292) (ty_ix h294.2) dL_law_316 ?_
  refine W.eq (g2 := F0 m 317 ls [.int (xs (i.toInt.toNat + 3)), .int x249, .int x242, .ref q13]) (by rw [lw_xs (xs := xs) h294.1 hi0.1]) ?_
  clear h294 h293 h291
  refine W.eq (g2 := F0 m 317 ls [.int x256, .int x249, .int x242, .ref q13]) (by rw [s257]) ?_
  refine lv_aload_n hx hb dL_law_317 rfl (lv_at hl 4 rfl) ?_
  refine lv_iload hx hb dL_law_318 (lv_at hl 0 rfl) ?_
  refine ty_iconst hx hb (4) dL_law_320 (by decide) (fun x295 h296 => ?_)
  refine ty_iadd hx hb dL_law_321 (fun x297 h298 => ?_)
  have h299 := lw_ix (k := 4) h296 h298 hi0 hiL hLN (by decide)
  refine va_sld hx hb hXs hbl hbA hS (i := x297) (ty_ix h299.2) dL_law_322 ?_
  refine W.eq (g2 := F0 m 323 ls [.int (xs (i.toInt.toNat + 4)), .int x256, .int x249, .int x242, .ref q13]) (by rw [lw_xs (xs := xs) h299.1 hi0.1]) ?_
  clear h299 h298 h296
  refine W.eq (g2 := F0 m 323 ls [.int x263, .int x256, .int x249, .int x242, .ref q13]) (by rw [s264]) ?_
  refine lv_aload_n hx hb dL_law_323 rfl (lv_at hl 4 rfl) ?_
  refine lv_iload hx hb dL_law_324 (lv_at hl 0 rfl) ?_
  refine ty_iconst hx hb (5) dL_law_326 (by decide) (fun x300 h301 => ?_)
  refine ty_iadd hx hb dL_law_327 (fun x302 h303 => ?_)
  have h304 := lw_ix (k := 5) h301 h303 hi0 hiL hLN (by decide)
  refine va_sld hx hb hXs hbl hbA hS (i := x302) (ty_ix h304.2) dL_law_328 ?_
  refine W.eq (g2 := F0 m 329 ls [.int (xs (i.toInt.toNat + 5)), .int x263, .int x256, .int x249, .int x242, .ref q13]) (by rw [lw_xs (xs := xs) h304.1 hi0.1]) ?_
  clear h304 h303 h301
  refine W.eq (g2 := F0 m 329 ls [.int x270, .int x263, .int x256, .int x249, .int x242, .ref q13]) (by rw [s271]) ?_
  refine cI (va_runV (C := RX9) (As := [.int x242, .int x249, .int x256, .int x263, .int x270]) (rest := []) ⟨hx, hb, hml, hown, hA⟩ (k_X9_feed l dC dI dA sz X Γ hU u272 q13 t_q13 x242 x249 x256 x263 x270   (RM_114 hRL (hw277 114 (by decide)))) ⟨callB_of 5 hA (al_A wd_5_62) rfl rfl rfl (hA _ wd_1_7) (hA _ wd_5_59) (by decide +kernel) ⟨Nat.le_of_ble_eq_true rfl, Nat.le_of_ble_eq_true rfl⟩, hA _ wd_5_60, hA _ wd_5_61⟩ ⟨bl, recv_X9 hE hG t_q13, fun U hU9 hW9 => ⟨rfl, by rw [hU9]; exact hG, hE.go hS hU9 hW9⟩⟩ rfl rfl hl.1 rfl (lv_room (Nat.le_of_ble_eq_true rfl)) dL_law_329 ⟨(Nat.le_trans (show kc + 0 ≤ 300000 by omega) (Nat.le_of_ble_eq_true rfl)), (Nat.le_trans (show ks + 0 ≤ 300000 by omega) (Nat.le_of_ble_eq_true rfl))⟩) hS (fun x307 u305 H locs w306 hG hS => ?_)
  obtain ⟨hf309, w306, hq308⟩ := w306
  replace w306 := HD.mk w306
  replace hq308 := HD.mk hq308
  have hw310 : ∀ c, c ∉ ([100, 113, 114] : List Nat) → u305 c = u272 c := fun c hc => funext fun j => hf309 c j (fun q => hc (by rw [q]; decide)) (fun q => hc (by rw [q]; decide)) (fun q => hc (by rw [q]; decide))
  have hst311 := st_feed (g := g) (u1 := u272) (u2 := u305) (r1 := x274) (r2 := x307) hRL hw277 hw310 w273.v.1 w273.v.2 hq275.v w306.v.1 w306.v.2 hq308.v
  have hrr312 := hst311.2
  refine lv_pop hx hb dL_law_332 rfl ?_
  refine lv_goto (tgt := 1047) hx hb dL_law_333 (by decide) ?_
  obtain ⟨x313, h314⟩ : ∃ y : Int32, y = i + Int32.ofInt (6) := ⟨_, rfl⟩
  try have h315 : x313.toInt = i.toInt + (6) := ty_inc h314 (by decide) (by omega) (by omega)
  refine lv_iinc (v := x313) (lv' := [(4, .int x313), (3, .ref q29), (2, .ref q13), (1, .ref q1), (0, .ref b)]) hx hb dL_law_1047 hl (k := 0) rfl h314.symm (by decide) rfl (fun ls hl => ?_)
  refine lv_goto (tgt := 23) hx hb dL_law_1050 (by decide) ?_
  exact ih x313 Γ u305 (kc) (ks) _ _ ls (by omega) (by omega) (by have a9 := congrFun (hw310 4 (by decide)) 0; have b9 := congrFun (hw277 4 (by decide)) 0; omega) hst311.1 (IJ_e hj279 (hw310 126 (by decide)) (hw310 132 (by decide)) (hw310 134 (by decide))) (Bd_e hb278 (hw310 33 (by decide)) (hw310 34 (by decide)) (hw310 35 (by decide))) hU t_q1 t_q13 t_q29 (by omega) (by omega) hG hS (lv_sub hl [0, 1, 2, 3, 4] rfl)
set_option maxHeartbeats 40000000 in
set_option maxRecDepth 100000 in
/-- the law's case 4 -/
theorem law_c4 {p : Program} {e : Env} {s : State} {m : MethodId} {below : List Frame} {meth : Method} {c : Code} (l : Launch) (hl9 : l.stackTraces = false) {b L : Nat} {xs : Nat → Int32} (hLN : L ≤ 3072) (hx : p.tables.exec = Jvm.exec) (hb : c.code = code) (hr : meth.sig.returnType = ret) (hml : c.maxLocals = 7) (hown : s.vm.findClass R_law = some m.cls) (hA : ∀ w ∈ AL, w.before #[Value.ref b] s = true) (hXs : va_X b L xs s s.heap) (hbl : b < s.heap.size) (hlocks : meth.locks = false) {dC : Nat → ClassId} {dI : Nat → Nat → Nat} {dA : Nat → ClassId} {sz : Nat} (hE : en dC dI dA sz s) (hsz : sz = s.heap.size) (hbA : ¬ ty_A sz b) (X : va_W) (q1 q13 q29 : Nat) (n : Nat) (ih : LJ p l e s m below meth c b dC dI dA sz X q1 q13 q29 n) (i : Int32) (Γ : ty_G) (g : gh) (kc ks : Nat) (H : Heap) (locs : List Loc) (ls : Array Slot) (hm : (3073 - i.toInt : Int) < (n + 1 : Nat)) (hi0 : 0 ≤ i.toInt ∧ i.toInt ≤ 3072) (hy4 : g 4 0 ≤ i.toInt) (hRL : RLA g) (hIJ : IJ g) (hBd : Bd Γ g) (hU : Un Γ) (t_q1 : ty Γ q1 1) (t_q13 : ty Γ q13 30) (t_q29 : ty Γ q29 25) (hkc : kc ≤ 300 + i.toInt.toNat) (hks : ks ≤ 30000 + 28 * i.toInt.toNat) (hG : ty_ok (dC, dI) vwCl Γ (TP dA Γ g) sz X H) (hS : va_S (ty_A sz) s.heap H locs) (hl : lv_has ls 7 [(4, .int i), (3, .ref q29), (2, .ref q13), (1, .ref q1), (0, .ref b)]) (hiL : i.toInt + 6 ≤ (L : Int)) : W p l e room_1 s m #[Value.ref b] below meth c H locs kc ks (lw_Z below #[Value.ref b] s) (F0 m 336 ls []) := by
  refine lv_aload_n hx hb dL_law_336 rfl (lv_at hl 3 rfl) ?_
  refine lv_aload_n hx hb dL_law_337 rfl (lv_at hl 4 rfl) ?_
  refine lv_iload hx hb dL_law_338 (lv_at hl 0 rfl) ?_
  refine ty_iconst hx hb (1) dL_law_340 (by decide) (fun x316 h317 => ?_)
  refine ty_iadd hx hb dL_law_341 (fun x318 h319 => ?_)
  have h320 := lw_ix (k := 1) h317 h319 hi0 hiL hLN (by decide)
  refine va_sld hx hb hXs hbl hbA hS (i := x318) (ty_ix h320.2) dL_law_342 ?_
  refine W.eq (g2 := F0 m 343 ls [.int (xs (i.toInt.toNat + 1)), .ref q1]) (by rw [lw_xs (xs := xs) h320.1 hi0.1]) ?_
  clear h320 h319 h317
  refine lv_topi (fun x321 s322 => ?_)
  refine cI (va_runV (C := RX8) (As := [.int x321]) (rest := []) ⟨hx, hb, hml, hown, hA⟩ (k_X8_end l dC dI dA sz X Γ hU g q1 t_q1 x321   (RL_6 hRL)) ⟨callB_of 1 hA (al_A wd_2_84) rfl rfl rfl (hA _ wd_1_1) (hA _ wd_2_81) (by decide +kernel) ⟨Nat.le_of_ble_eq_true rfl, Nat.le_of_ble_eq_true rfl⟩, hA _ wd_2_82, hA _ wd_2_83⟩ ⟨bl, recv_X8 hE hG t_q1, fun U hU9 hW9 => ⟨rfl, by rw [hU9]; exact hG, hE.go hS hU9 hW9⟩⟩ rfl rfl hl.1 rfl (lv_room (Nat.le_of_ble_eq_true rfl)) dL_law_343 ⟨(Nat.le_trans (show kc + 0 ≤ 300000 by omega) (Nat.le_of_ble_eq_true rfl)), (Nat.le_trans (show ks + 0 ≤ 300000 by omega) (Nat.le_of_ble_eq_true rfl))⟩) hS (fun x325 u323 H locs w324 hG hS => ?_)
  obtain ⟨hf326, w324⟩ := w324
  replace w324 := HD.mk w324
  have hw327 : ∀ c, c ∉ ([6] : List Nat) → u323 c = g c := fun c hc => funext fun j => hf326 c j (fun q => hc (by rw [q]; decide))
  have hb328 : Bd Γ u323 := Bd_e hBd (hw327 33 (by decide)) (hw327 34 (by decide)) (hw327 35 (by decide))
  have hj329 : IJ u323 := IJ_e hIJ (hw327 126 (by decide)) (hw327 132 (by decide)) (hw327 134 (by decide))
  refine lv_pop hx hb dL_law_346 rfl ?_
  refine lv_aload_n hx hb dL_law_347 rfl (lv_at hl 2 rfl) ?_
  refine lv_aload_n hx hb dL_law_348 rfl (lv_at hl 4 rfl) ?_
  refine lv_iload hx hb dL_law_349 (lv_at hl 0 rfl) ?_
  refine ty_iconst hx hb (1) dL_law_351 (by decide) (fun x330 h331 => ?_)
  refine ty_iadd hx hb dL_law_352 (fun x332 h333 => ?_)
  have h334 := lw_ix (k := 1) h331 h333 hi0 hiL hLN (by decide)
  refine va_sld hx hb hXs hbl hbA hS (i := x332) (ty_ix h334.2) dL_law_353 ?_
  refine W.eq (g2 := F0 m 354 ls [.int (xs (i.toInt.toNat + 1)), .ref q13]) (by rw [lw_xs (xs := xs) h334.1 hi0.1]) ?_
  clear h334 h333 h331
  refine W.eq (g2 := F0 m 354 ls [.int x321, .ref q13]) (by rw [s322]) ?_
  refine cI (va_runV (C := RX9) (As := [.int x321]) (rest := []) ⟨hx, hb, hml, hown, hA⟩ (k_X9_end l dC dI dA sz X Γ hU u323 q13 t_q13 x321   (RM_114 hRL (hw327 114 (by decide)))) ⟨callB_of 1 hA (al_A wd_5_66) rfl rfl rfl (hA _ wd_1_7) (hA _ wd_5_63) (by decide +kernel) ⟨Nat.le_of_ble_eq_true rfl, Nat.le_of_ble_eq_true rfl⟩, hA _ wd_5_64, hA _ wd_5_65⟩ ⟨bl, recv_X9 hE hG t_q13, fun U hU9 hW9 => ⟨rfl, by rw [hU9]; exact hG, hE.go hS hU9 hW9⟩⟩ rfl rfl hl.1 rfl (lv_room (Nat.le_of_ble_eq_true rfl)) dL_law_354 ⟨(Nat.le_trans (show kc + 0 ≤ 300000 by omega) (Nat.le_of_ble_eq_true rfl)), (Nat.le_trans (show ks + 0 ≤ 300000 by omega) (Nat.le_of_ble_eq_true rfl))⟩) hS (fun x337 u335 H locs w336 hG hS => ?_)
  obtain ⟨hf338, w336⟩ := w336
  replace w336 := HD.mk w336
  have hw339 : ∀ c, c ∉ ([100, 114] : List Nat) → u335 c = u323 c := fun c hc => funext fun j => hf338 c j (fun q => hc (by rw [q]; decide)) (fun q => hc (by rw [q]; decide))
  have hst340 := st_end (g := g) (u1 := u323) (u2 := u335) (r1 := x325) (r2 := x337) hRL hw327 hw339 w324.v.1 w324.v.2 w336.v.1 w336.v.2
  have hrr341 := hst340.2
  refine lv_pop hx hb dL_law_357 rfl ?_
  refine lv_goto (tgt := 1047) hx hb dL_law_358 (by decide) ?_
  obtain ⟨x342, h343⟩ : ∃ y : Int32, y = i + Int32.ofInt (6) := ⟨_, rfl⟩
  try have h344 : x342.toInt = i.toInt + (6) := ty_inc h343 (by decide) (by omega) (by omega)
  refine lv_iinc (v := x342) (lv' := [(4, .int x342), (3, .ref q29), (2, .ref q13), (1, .ref q1), (0, .ref b)]) hx hb dL_law_1047 hl (k := 0) rfl h343.symm (by decide) rfl (fun ls hl => ?_)
  refine lv_goto (tgt := 23) hx hb dL_law_1050 (by decide) ?_
  exact ih x342 Γ u335 (kc) (ks) _ _ ls (by omega) (by omega) (by have a9 := congrFun (hw339 4 (by decide)) 0; have b9 := congrFun (hw327 4 (by decide)) 0; omega) hst340.1 (IJ_e hj329 (hw339 126 (by decide)) (hw339 132 (by decide)) (hw339 134 (by decide))) (Bd_e hb328 (hw339 33 (by decide)) (hw339 34 (by decide)) (hw339 35 (by decide))) hU t_q1 t_q13 t_q29 (by omega) (by omega) hG hS (lv_sub hl [0, 1, 2, 3, 4] rfl)
set_option maxHeartbeats 40000000 in
set_option maxRecDepth 100000 in
/-- the law's case 5 -/
theorem law_c5 {p : Program} {e : Env} {s : State} {m : MethodId} {below : List Frame} {meth : Method} {c : Code} (l : Launch) (hl9 : l.stackTraces = false) {b L : Nat} {xs : Nat → Int32} (hLN : L ≤ 3072) (hx : p.tables.exec = Jvm.exec) (hb : c.code = code) (hr : meth.sig.returnType = ret) (hml : c.maxLocals = 7) (hown : s.vm.findClass R_law = some m.cls) (hA : ∀ w ∈ AL, w.before #[Value.ref b] s = true) (hXs : va_X b L xs s s.heap) (hbl : b < s.heap.size) (hlocks : meth.locks = false) {dC : Nat → ClassId} {dI : Nat → Nat → Nat} {dA : Nat → ClassId} {sz : Nat} (hE : en dC dI dA sz s) (hsz : sz = s.heap.size) (hbA : ¬ ty_A sz b) (X : va_W) (q1 q13 q29 : Nat) (n : Nat) (ih : LJ p l e s m below meth c b dC dI dA sz X q1 q13 q29 n) (i : Int32) (Γ : ty_G) (g : gh) (kc ks : Nat) (H : Heap) (locs : List Loc) (ls : Array Slot) (hm : (3073 - i.toInt : Int) < (n + 1 : Nat)) (hi0 : 0 ≤ i.toInt ∧ i.toInt ≤ 3072) (hy4 : g 4 0 ≤ i.toInt) (hRL : RLA g) (hIJ : IJ g) (hBd : Bd Γ g) (hU : Un Γ) (t_q1 : ty Γ q1 1) (t_q13 : ty Γ q13 30) (t_q29 : ty Γ q29 25) (hkc : kc ≤ 300 + i.toInt.toNat) (hks : ks ≤ 30000 + 28 * i.toInt.toNat) (hG : ty_ok (dC, dI) vwCl Γ (TP dA Γ g) sz X H) (hS : va_S (ty_A sz) s.heap H locs) (hl : lv_has ls 7 [(4, .int i), (3, .ref q29), (2, .ref q13), (1, .ref q1), (0, .ref b)]) (hiL : i.toInt + 6 ≤ (L : Int)) : W p l e room_1 s m #[Value.ref b] below meth c H locs kc ks (lw_Z below #[Value.ref b] s) (F0 m 361 ls []) := by
  refine lv_aload_n hx hb dL_law_361 rfl (lv_at hl 3 rfl) ?_
  refine cI (va_runV (C := RX8) (As := []) (rest := []) ⟨hx, hb, hml, hown, hA⟩ (k_X8_rules l dC dI dA sz X Γ hU g q1 t_q1 (g 19) (g 6 0).toNat  (RL_6 hRL) (rfl) (RL_N hRL)) ⟨callB_of 0 hA (al_A wd_2_88) rfl rfl rfl (hA _ wd_1_1) (hA _ wd_2_85) (by decide +kernel) ⟨Nat.le_of_ble_eq_true rfl, Nat.le_of_ble_eq_true rfl⟩, hA _ wd_2_86, hA _ wd_2_87⟩ ⟨bl, recv_X8 hE hG t_q1, fun U hU9 hW9 => ⟨rfl, by rw [hU9]; exact hG, hE.go hS hU9 hW9⟩⟩ rfl rfl hl.1 rfl (lv_room (Nat.le_of_ble_eq_true rfl)) dL_law_362 ⟨(Nat.le_trans (show kc + 0 ≤ 300000 by omega) (Nat.le_of_ble_eq_true rfl)), (Nat.le_trans (show ks + 0 ≤ 300000 by omega) (Nat.le_of_ble_eq_true rfl))⟩) hS (fun x347 u345 H locs w346 hG hS => ?_)
  obtain ⟨hf351, w346, hq348, hq349, hq350⟩ := w346
  replace w346 := HD.mk w346
  replace hq348 := HD.mk hq348
  replace hq349 := HD.mk hq349
  replace hq350 := HD.mk hq350
  have hw352 : ∀ c, c ∉ ([6, 9, 10, 11, 12, 13, 14, 15, 16, 17, 18, 80, 81, 82] : List Nat) → u345 c = g c := fun c hc => funext fun j => hf351 c j (fun q => hc (by rw [q]; decide)) (fun q => hc (by rw [q]; decide)) (fun q => hc (by rw [q]; decide)) (fun q => hc (by rw [q]; decide)) (fun q => hc (by rw [q]; decide)) (fun q => hc (by rw [q]; decide)) (fun q => hc (by rw [q]; decide)) (fun q => hc (by rw [q]; decide)) (fun q => hc (by rw [q]; decide)) (fun q => hc (by rw [q]; decide)) (fun q => hc (by rw [q]; decide)) (fun q => hc (by rw [q]; decide)) (fun q => hc (by rw [q]; decide)) (fun q => hc (by rw [q]; decide))
  have hb353 : Bd Γ u345 := Bd_e hBd (hw352 33 (by decide)) (hw352 34 (by decide)) (hw352 35 (by decide))
  have hj354 : IJ u345 := IJ_e hIJ (hw352 126 (by decide)) (hw352 132 (by decide)) (hw352 134 (by decide))
  refine lv_pop hx hb dL_law_365 rfl ?_
  refine lv_aload_n hx hb dL_law_366 rfl (lv_at hl 2 rfl) ?_
  refine cI (va_runV (C := RX9) (As := []) (rest := []) ⟨hx, hb, hml, hown, hA⟩ (k_X9_rules l dC dI dA sz X Γ hU u345 q13 t_q13 (g 19) (g 6 0).toNat  (RM_114 hRL (hw352 114 (by decide))) (RM_T hRL (hw352 113 (by decide))) (RM_N hRL (hw352 114 (by decide)))) ⟨callB_of 0 hA (al_A wd_5_70) rfl rfl rfl (hA _ wd_1_7) (hA _ wd_5_67) (by decide +kernel) ⟨Nat.le_of_ble_eq_true rfl, Nat.le_of_ble_eq_true rfl⟩, hA _ wd_5_68, hA _ wd_5_69⟩ ⟨bl, recv_X9 hE hG t_q13, fun U hU9 hW9 => ⟨rfl, by rw [hU9]; exact hG, hE.go hS hU9 hW9⟩⟩ rfl rfl hl.1 rfl (lv_room (Nat.le_of_ble_eq_true rfl)) dL_law_367 ⟨(Nat.le_trans (show kc + 0 ≤ 300000 by omega) (Nat.le_of_ble_eq_true rfl)), (Nat.le_trans (show ks + 0 ≤ 300000 by omega) (Nat.le_of_ble_eq_true rfl))⟩) hS (fun x357 u355 H locs w356 hG hS => ?_)
  obtain ⟨hf361, w356, hq358, hq359, hq360⟩ := w356
  replace w356 := HD.mk w356
  replace hq358 := HD.mk hq358
  replace hq359 := HD.mk hq359
  replace hq360 := HD.mk hq360
  have hw362 : ∀ c, c ∉ ([100, 114, 115, 116, 117, 118, 119, 120, 121, 122, 123, 124, 125] : List Nat) → u355 c = u345 c := fun c hc => funext fun j => hf361 c j (fun q => hc (by rw [q]; decide)) (fun q => hc (by rw [q]; decide)) (fun q => hc (by rw [q]; decide)) (fun q => hc (by rw [q]; decide)) (fun q => hc (by rw [q]; decide)) (fun q => hc (by rw [q]; decide)) (fun q => hc (by rw [q]; decide)) (fun q => hc (by rw [q]; decide)) (fun q => hc (by rw [q]; decide)) (fun q => hc (by rw [q]; decide)) (fun q => hc (by rw [q]; decide)) (fun q => hc (by rw [q]; decide)) (fun q => hc (by rw [q]; decide))
  have hst363 := st_rules (g := g) (u1 := u345) (u2 := u355) (r1 := x347) (r2 := x357) hRL hw352 hw362 w346.v hq348.v hq349.v hq350.v w356.v.1 w356.v.2.1 w356.v.2.2 hq358.v hq359.v hq360.v
  have hrr364 := hst363.2
  refine lv_pop hx hb dL_law_370 rfl ?_
  refine lv_goto (tgt := 1047) hx hb dL_law_371 (by decide) ?_
  obtain ⟨x365, h366⟩ : ∃ y : Int32, y = i + Int32.ofInt (6) := ⟨_, rfl⟩
  try have h367 : x365.toInt = i.toInt + (6) := ty_inc h366 (by decide) (by omega) (by omega)
  refine lv_iinc (v := x365) (lv' := [(4, .int x365), (3, .ref q29), (2, .ref q13), (1, .ref q1), (0, .ref b)]) hx hb dL_law_1047 hl (k := 0) rfl h366.symm (by decide) rfl (fun ls hl => ?_)
  refine lv_goto (tgt := 23) hx hb dL_law_1050 (by decide) ?_
  exact ih x365 Γ u355 (kc) (ks) _ _ ls (by omega) (by omega) (by have a9 := congrFun (hw362 4 (by decide)) 0; have b9 := congrFun (hw352 4 (by decide)) 0; omega) hst363.1 (IJ_e hj354 (hw362 126 (by decide)) (hw362 132 (by decide)) (hw362 134 (by decide))) (Bd_e hb353 (hw362 33 (by decide)) (hw362 34 (by decide)) (hw362 35 (by decide))) hU t_q1 t_q13 t_q29 (by omega) (by omega) hG hS (lv_sub hl [0, 1, 2, 3, 4] rfl)
set_option maxHeartbeats 40000000 in
set_option maxRecDepth 100000 in
/-- the law's case 6 -/
theorem law_c6 {p : Program} {e : Env} {s : State} {m : MethodId} {below : List Frame} {meth : Method} {c : Code} (l : Launch) (hl9 : l.stackTraces = false) {b L : Nat} {xs : Nat → Int32} (hLN : L ≤ 3072) (hx : p.tables.exec = Jvm.exec) (hb : c.code = code) (hr : meth.sig.returnType = ret) (hml : c.maxLocals = 7) (hown : s.vm.findClass R_law = some m.cls) (hA : ∀ w ∈ AL, w.before #[Value.ref b] s = true) (hXs : va_X b L xs s s.heap) (hbl : b < s.heap.size) (hlocks : meth.locks = false) {dC : Nat → ClassId} {dI : Nat → Nat → Nat} {dA : Nat → ClassId} {sz : Nat} (hE : en dC dI dA sz s) (hsz : sz = s.heap.size) (hbA : ¬ ty_A sz b) (X : va_W) (q1 q13 q29 : Nat) (n : Nat) (ih : LJ p l e s m below meth c b dC dI dA sz X q1 q13 q29 n) (i : Int32) (Γ : ty_G) (g : gh) (kc ks : Nat) (H : Heap) (locs : List Loc) (ls : Array Slot) (hm : (3073 - i.toInt : Int) < (n + 1 : Nat)) (hi0 : 0 ≤ i.toInt ∧ i.toInt ≤ 3072) (hy4 : g 4 0 ≤ i.toInt) (hRL : RLA g) (hIJ : IJ g) (hBd : Bd Γ g) (hU : Un Γ) (t_q1 : ty Γ q1 1) (t_q13 : ty Γ q13 30) (t_q29 : ty Γ q29 25) (hkc : kc ≤ 300 + i.toInt.toNat) (hks : ks ≤ 30000 + 28 * i.toInt.toNat) (hG : ty_ok (dC, dI) vwCl Γ (TP dA Γ g) sz X H) (hS : va_S (ty_A sz) s.heap H locs) (hl : lv_has ls 7 [(4, .int i), (3, .ref q29), (2, .ref q13), (1, .ref q1), (0, .ref b)]) (hiL : i.toInt + 6 ≤ (L : Int)) : W p l e room_1 s m #[Value.ref b] below meth c H locs kc ks (lw_Z below #[Value.ref b] s) (F0 m 374 ls []) := by
  refine lv_aload_n hx hb dL_law_374 rfl (lv_at hl 3 rfl) ?_
  refine cI (va_runV (C := RX8) (As := []) (rest := []) ⟨hx, hb, hml, hown, hA⟩ (k_X8_place l dC dI dA sz X Γ hU g q1 t_q1   ) ⟨callB_of 0 hA (al_A wd_2_225) rfl rfl rfl (hA _ wd_1_1) (hA _ wd_2_222) (by decide +kernel) ⟨Nat.le_of_ble_eq_true rfl, Nat.le_of_ble_eq_true rfl⟩, hA _ wd_2_223, hA _ wd_2_224⟩ ⟨bl, recv_X8 hE hG t_q1, fun U hU9 hW9 => ⟨rfl, by rw [hU9]; exact hG, hE.go hS hU9 hW9⟩⟩ rfl rfl hl.1 rfl (lv_room (Nat.le_of_ble_eq_true rfl)) dL_law_375 ⟨(Nat.le_trans (show kc + 0 ≤ 300000 by omega) (Nat.le_of_ble_eq_true rfl)), (Nat.le_trans (show ks + 0 ≤ 300000 by omega) (Nat.le_of_ble_eq_true rfl))⟩) hS (fun x370 u368 H locs w369 hG hS => ?_)
  obtain ⟨eu371, w369⟩ := w369
  rw [eu371] at hG
  replace w369 := HD.mk w369
  refine lv_pop hx hb dL_law_378 rfl ?_
  refine lv_aload_n hx hb dL_law_379 rfl (lv_at hl 2 rfl) ?_
  refine cI (va_runV (C := RX9) (As := []) (rest := []) ⟨hx, hb, hml, hown, hA⟩ (k_X9_place l dC dI dA sz X Γ hU g q13 t_q13   ) ⟨callB_of 0 hA (al_A wd_5_112) rfl rfl rfl (hA _ wd_1_7) (hA _ wd_5_109) (by decide +kernel) ⟨Nat.le_of_ble_eq_true rfl, Nat.le_of_ble_eq_true rfl⟩, hA _ wd_5_110, hA _ wd_5_111⟩ ⟨bl, recv_X9 hE hG t_q13, fun U hU9 hW9 => ⟨rfl, by rw [hU9]; exact hG, hE.go hS hU9 hW9⟩⟩ rfl rfl hl.1 rfl (lv_room (Nat.le_of_ble_eq_true rfl)) dL_law_380 ⟨(Nat.le_trans (show kc + 0 ≤ 300000 by omega) (Nat.le_of_ble_eq_true rfl)), (Nat.le_trans (show ks + 0 ≤ 300000 by omega) (Nat.le_of_ble_eq_true rfl))⟩) hS (fun x374 u372 H locs w373 hG hS => ?_)
  obtain ⟨hf375, w373⟩ := w373
  replace w373 := HD.mk w373
  have hw376 : ∀ c, c ∉ ([100] : List Nat) → u372 c = g c := fun c hc => funext fun j => hf375 c j (fun q => hc (by rw [q]; decide))
  have hst377 := st_place (g := g) (u1 := g) (u2 := u372) (r1 := x370) (r2 := x374) hRL (fun _ _ => rfl) hw376 w369.v w373.v
  have hrr378 := hst377.2
  refine lv_pop hx hb dL_law_383 rfl ?_
  refine lv_goto (tgt := 1047) hx hb dL_law_384 (by decide) ?_
  obtain ⟨x379, h380⟩ : ∃ y : Int32, y = i + Int32.ofInt (6) := ⟨_, rfl⟩
  try have h381 : x379.toInt = i.toInt + (6) := ty_inc h380 (by decide) (by omega) (by omega)
  refine lv_iinc (v := x379) (lv' := [(4, .int x379), (3, .ref q29), (2, .ref q13), (1, .ref q1), (0, .ref b)]) hx hb dL_law_1047 hl (k := 0) rfl h380.symm (by decide) rfl (fun ls hl => ?_)
  refine lv_goto (tgt := 23) hx hb dL_law_1050 (by decide) ?_
  exact ih x379 Γ u372 (kc) (ks) _ _ ls (by omega) (by omega) (by have a9 := congrFun (hw376 4 (by decide)) 0; have b9 := True.intro; omega) hst377.1 (IJ_e hIJ (hw376 126 (by decide)) (hw376 132 (by decide)) (hw376 134 (by decide))) (Bd_e hBd (hw376 33 (by decide)) (hw376 34 (by decide)) (hw376 35 (by decide))) hU t_q1 t_q13 t_q29 (by omega) (by omega) hG hS (lv_sub hl [0, 1, 2, 3, 4] rfl)
set_option maxHeartbeats 40000000 in
set_option maxRecDepth 100000 in
/-- the law's case 7 -/
theorem law_c7 {p : Program} {e : Env} {s : State} {m : MethodId} {below : List Frame} {meth : Method} {c : Code} (l : Launch) (hl9 : l.stackTraces = false) {b L : Nat} {xs : Nat → Int32} (hLN : L ≤ 3072) (hx : p.tables.exec = Jvm.exec) (hb : c.code = code) (hr : meth.sig.returnType = ret) (hml : c.maxLocals = 7) (hown : s.vm.findClass R_law = some m.cls) (hA : ∀ w ∈ AL, w.before #[Value.ref b] s = true) (hXs : va_X b L xs s s.heap) (hbl : b < s.heap.size) (hlocks : meth.locks = false) {dC : Nat → ClassId} {dI : Nat → Nat → Nat} {dA : Nat → ClassId} {sz : Nat} (hE : en dC dI dA sz s) (hsz : sz = s.heap.size) (hbA : ¬ ty_A sz b) (X : va_W) (q1 q13 q29 : Nat) (n : Nat) (ih : LJ p l e s m below meth c b dC dI dA sz X q1 q13 q29 n) (i : Int32) (Γ : ty_G) (g : gh) (kc ks : Nat) (H : Heap) (locs : List Loc) (ls : Array Slot) (hm : (3073 - i.toInt : Int) < (n + 1 : Nat)) (hi0 : 0 ≤ i.toInt ∧ i.toInt ≤ 3072) (hy4 : g 4 0 ≤ i.toInt) (hRL : RLA g) (hIJ : IJ g) (hBd : Bd Γ g) (hU : Un Γ) (t_q1 : ty Γ q1 1) (t_q13 : ty Γ q13 30) (t_q29 : ty Γ q29 25) (hkc : kc ≤ 300 + i.toInt.toNat) (hks : ks ≤ 30000 + 28 * i.toInt.toNat) (hG : ty_ok (dC, dI) vwCl Γ (TP dA Γ g) sz X H) (hS : va_S (ty_A sz) s.heap H locs) (hl : lv_has ls 7 [(4, .int i), (3, .ref q29), (2, .ref q13), (1, .ref q1), (0, .ref b)]) (hiL : i.toInt + 6 ≤ (L : Int)) : W p l e room_1 s m #[Value.ref b] below meth c H locs kc ks (lw_Z below #[Value.ref b] s) (F0 m 387 ls []) := by
  refine lv_aload_n hx hb dL_law_387 rfl (lv_at hl 3 rfl) ?_
  refine lv_aload_n hx hb dL_law_388 rfl (lv_at hl 4 rfl) ?_
  refine lv_iload hx hb dL_law_389 (lv_at hl 0 rfl) ?_
  refine ty_iconst hx hb (1) dL_law_391 (by decide) (fun x382 h383 => ?_)
  refine ty_iadd hx hb dL_law_392 (fun x384 h385 => ?_)
  have h386 := lw_ix (k := 1) h383 h385 hi0 hiL hLN (by decide)
  refine va_sld hx hb hXs hbl hbA hS (i := x384) (ty_ix h386.2) dL_law_393 ?_
  refine W.eq (g2 := F0 m 394 ls [.int (xs (i.toInt.toNat + 1)), .ref q1]) (by rw [lw_xs (xs := xs) h386.1 hi0.1]) ?_
  clear h386 h385 h383
  refine lv_topi (fun x387 s388 => ?_)
  refine lv_aload_n hx hb dL_law_394 rfl (lv_at hl 4 rfl) ?_
  refine lv_iload hx hb dL_law_395 (lv_at hl 0 rfl) ?_
  refine ty_iconst hx hb (2) dL_law_397 (by decide) (fun x389 h390 => ?_)
  refine ty_iadd hx hb dL_law_398 (fun x391 h392 => ?_)
  have h393 := lw_ix (k := 2) h390 h392 hi0 hiL hLN (by decide)
  refine va_sld hx hb hXs hbl hbA hS (i := x391) (ty_ix h393.2) dL_law_399 ?_
  refine W.eq (g2 := F0 m 400 ls [.int (xs (i.toInt.toNat + 2)), .int x387, .ref q1]) (by rw [lw_xs (xs := xs) h393.1 hi0.1]) ?_
  clear h393 h392 h390
  refine lv_topi (fun x394 s395 => ?_)
  refine cI (va_runV (C := RX8) (As := [.int x387, .int x394]) (rest := []) ⟨hx, hb, hml, hown, hA⟩ (k_X8_worth l dC dI dA sz X Γ hU g q1 t_q1 x387 x394   (RL_1 hRL) (RL_5 hRL)) ⟨callB_of 2 hA (al_A wd_2_229) rfl rfl rfl (hA _ wd_1_1) (hA _ wd_2_226) (by decide +kernel) ⟨Nat.le_of_ble_eq_true rfl, Nat.le_of_ble_eq_true rfl⟩, hA _ wd_2_227, hA _ wd_2_228⟩ ⟨bl, recv_X8 hE hG t_q1, fun U hU9 hW9 => ⟨rfl, by rw [hU9]; exact hG, hE.go hS hU9 hW9⟩⟩ rfl rfl hl.1 rfl (lv_room (Nat.le_of_ble_eq_true rfl)) dL_law_400 ⟨(Nat.le_trans (show kc + 0 ≤ 300000 by omega) (Nat.le_of_ble_eq_true rfl)), (Nat.le_trans (show ks + 0 ≤ 300000 by omega) (Nat.le_of_ble_eq_true rfl))⟩) hS (fun x398 u396 H locs w397 hG hS => ?_)
  obtain ⟨eu400, hq399⟩ := w397
  rw [eu400] at hG
  replace hq399 := HD.mk hq399
  refine lv_pop hx hb dL_law_403 rfl ?_
  refine lv_aload_n hx hb dL_law_404 rfl (lv_at hl 2 rfl) ?_
  refine lv_aload_n hx hb dL_law_405 rfl (lv_at hl 4 rfl) ?_
  refine lv_iload hx hb dL_law_406 (lv_at hl 0 rfl) ?_
  refine ty_iconst hx hb (1) dL_law_408 (by decide) (fun x401 h402 => ?_)
  refine ty_iadd hx hb dL_law_409 (fun x403 h404 => ?_)
  have h405 := lw_ix (k := 1) h402 h404 hi0 hiL hLN (by decide)
  refine va_sld hx hb hXs hbl hbA hS (i := x403) (ty_ix h405.2) dL_law_410 ?_
  refine W.eq (g2 := F0 m 411 ls [.int (xs (i.toInt.toNat + 1)), .ref q13]) (by rw [lw_xs (xs := xs) h405.1 hi0.1]) ?_
  clear h405 h404 h402
  refine W.eq (g2 := F0 m 411 ls [.int x387, .ref q13]) (by rw [s388]) ?_
  refine lv_aload_n hx hb dL_law_411 rfl (lv_at hl 4 rfl) ?_
  refine lv_iload hx hb dL_law_412 (lv_at hl 0 rfl) ?_
  refine ty_iconst hx hb (2) dL_law_414 (by decide) (fun x406 h407 => ?_)
  refine ty_iadd hx hb dL_law_415 (fun x408 h409 => ?_)
  have h410 := lw_ix (k := 2) h407 h409 hi0 hiL hLN (by decide)
  refine va_sld hx hb hXs hbl hbA hS (i := x408) (ty_ix h410.2) dL_law_416 ?_
  refine W.eq (g2 := F0 m 417 ls [.int (xs (i.toInt.toNat + 2)), .int x387, .ref q13]) (by rw [lw_xs (xs := xs) h410.1 hi0.1]) ?_
  clear h410 h409 h407
  refine W.eq (g2 := F0 m 417 ls [.int x394, .int x387, .ref q13]) (by rw [s395]) ?_
  refine cI (va_runV (C := RX9) (As := [.int x387, .int x394]) (rest := []) ⟨hx, hb, hml, hown, hA⟩ (k_X9_worth l dC dI dA sz X Γ hU g q13 t_q13 x387 x394   (RM_101 hRL rfl) (RM_122 hRL rfl) (RM_112 hRL rfl)) ⟨callB_of 2 hA (al_A wd_5_116) rfl rfl rfl (hA _ wd_1_7) (hA _ wd_5_113) (by decide +kernel) ⟨Nat.le_of_ble_eq_true rfl, Nat.le_of_ble_eq_true rfl⟩, hA _ wd_5_114, hA _ wd_5_115⟩ ⟨bl, recv_X9 hE hG t_q13, fun U hU9 hW9 => ⟨rfl, by rw [hU9]; exact hG, hE.go hS hU9 hW9⟩⟩ rfl rfl hl.1 rfl (lv_room (Nat.le_of_ble_eq_true rfl)) dL_law_417 ⟨(Nat.le_trans (show kc + 0 ≤ 300000 by omega) (Nat.le_of_ble_eq_true rfl)), (Nat.le_trans (show ks + 0 ≤ 300000 by omega) (Nat.le_of_ble_eq_true rfl))⟩) hS (fun x413 u411 H locs w412 hG hS => ?_)
  obtain ⟨hf415, hq414⟩ := w412
  replace hq414 := HD.mk hq414
  have hw416 : ∀ c, c ∉ ([100] : List Nat) → u411 c = g c := fun c hc => funext fun j => hf415 c j (fun q => hc (by rw [q]; decide))
  have hst417 := st_worth (g := g) (u1 := g) (u2 := u411) (r1 := x398) (r2 := x413) hRL (fun _ _ => rfl) hw416 hq399.v hq414.v
  have hrr418 := hst417.2
  refine lv_pop hx hb dL_law_420 rfl ?_
  refine lv_goto (tgt := 1047) hx hb dL_law_421 (by decide) ?_
  obtain ⟨x419, h420⟩ : ∃ y : Int32, y = i + Int32.ofInt (6) := ⟨_, rfl⟩
  try have h421 : x419.toInt = i.toInt + (6) := ty_inc h420 (by decide) (by omega) (by omega)
  refine lv_iinc (v := x419) (lv' := [(4, .int x419), (3, .ref q29), (2, .ref q13), (1, .ref q1), (0, .ref b)]) hx hb dL_law_1047 hl (k := 0) rfl h420.symm (by decide) rfl (fun ls hl => ?_)
  refine lv_goto (tgt := 23) hx hb dL_law_1050 (by decide) ?_
  exact ih x419 Γ u411 (kc) (ks) _ _ ls (by omega) (by omega) (by have a9 := congrFun (hw416 4 (by decide)) 0; have b9 := True.intro; omega) hst417.1 (IJ_e hIJ (hw416 126 (by decide)) (hw416 132 (by decide)) (hw416 134 (by decide))) (Bd_e hBd (hw416 33 (by decide)) (hw416 34 (by decide)) (hw416 35 (by decide))) hU t_q1 t_q13 t_q29 (by omega) (by omega) hG hS (lv_sub hl [0, 1, 2, 3, 4] rfl)
