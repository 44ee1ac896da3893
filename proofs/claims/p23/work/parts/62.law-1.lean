set_option maxHeartbeats 40000000 in
set_option maxRecDepth 100000 in
/-- the law's case 0 -/
theorem law_c0 {p : Program} {e : Env} {s : State} {m : MethodId} {below : List Frame} {meth : Method} {c : Code} (l : Launch) (hl9 : l.stackTraces = false) {b L : Nat} {xs : Nat → Int32} (hLN : L ≤ 3072) (hx : p.tables.exec = Jvm.exec) (hb : c.code = code) (hr : meth.sig.returnType = ret) (hml : c.maxLocals = 7) (hown : s.vm.findClass R_law = some m.cls) (hA : ∀ w ∈ AL, w.before #[Value.ref b] s = true) (hXs : va_X b L xs s s.heap) (hbl : b < s.heap.size) (hlocks : meth.locks = false) {dC : Nat → ClassId} {dI : Nat → Nat → Nat} {dA : Nat → ClassId} {sz : Nat} (hE : en dC dI dA sz s) (hsz : sz = s.heap.size) (hbA : ¬ ty_A sz b) (X : va_W) (q1 q13 q29 : Nat) (n : Nat) (ih : LJ p l e s m below meth c b dC dI dA sz X q1 q13 q29 n) (i : Int32) (Γ : ty_G) (g : gh) (kc ks : Nat) (H : Heap) (locs : List Loc) (ls : Array Slot) (fq : Nat → Int64) (hm : (3073 - i.toInt : Int) < (n + 1 : Nat)) (hi0 : 0 ≤ i.toInt ∧ i.toInt ≤ 3072) (hy4 : g 4 0 ≤ i.toInt) (hRL : RLA g) (hIJ : IJ g) (hBd : Bd Γ g) (hU : Un Γ) (t_q1 : ty Γ q1 1) (t_q13 : ty Γ q13 30) (hkc : kc ≤ 300 + i.toInt.toNat) (hks : ks ≤ 30000 + 28 * i.toInt.toNat) (hG : ty_ok (dC, dI) vwCl Γ (TP dA Γ g) sz ((q29, .inl (dA 3, 1, .inr (.inl fq))) :: X) H) (hS : va_S (ty_A sz) s.heap H locs) (hl : lv_has ls 7 [(4, .int i), (3, .ref q29), (2, .ref q13), (1, .ref q1), (0, .ref b)]) (hiL : i.toInt + 6 ≤ (L : Int)) : W p l e room_1 s m #[Value.ref b] below meth c H locs kc ks (lw_Z below #[Value.ref b] s) (F0 m 152 ls []) := by
  refine lv_aload_n hx hb dL_law_152 rfl (lv_at hl 3 rfl) ?_
  refine lv_aload_n hx hb dL_law_153 rfl (lv_at hl 4 rfl) ?_
  refine lv_iload hx hb dL_law_154 (lv_at hl 0 rfl) ?_
  refine ty_iconst hx hb (1) dL_law_156 (by decide) (fun x81 h82 => ?_)
  refine ty_iadd hx hb dL_law_157 (fun x83 h84 => ?_)
  have h85 := lw_ix (k := 1) h82 h84 hi0 hiL hLN (by decide)
  refine va_sld hx hb hXs hbl hbA hS (i := x83) (ty_ix h85.2) dL_law_158 ?_
  refine W.eq (g2 := F0 m 159 ls [.int (xs (i.toInt.toNat + 1)), .ref q1]) (by rw [lw_xs (xs := xs) h85.1 hi0.1]) ?_
  clear h85 h84 h82
  refine lv_topi (fun x86 s87 => ?_)
  refine lv_aload_n hx hb dL_law_159 rfl (lv_at hl 4 rfl) ?_
  refine lv_iload hx hb dL_law_160 (lv_at hl 0 rfl) ?_
  refine ty_iconst hx hb (2) dL_law_162 (by decide) (fun x88 h89 => ?_)
  refine ty_iadd hx hb dL_law_163 (fun x90 h91 => ?_)
  have h92 := lw_ix (k := 2) h89 h91 hi0 hiL hLN (by decide)
  refine va_sld hx hb hXs hbl hbA hS (i := x90) (ty_ix h92.2) dL_law_164 ?_
  refine W.eq (g2 := F0 m 165 ls [.int (xs (i.toInt.toNat + 2)), .int x86, .ref q1]) (by rw [lw_xs (xs := xs) h92.1 hi0.1]) ?_
  clear h92 h91 h89
  refine lv_topi (fun x93 s94 => ?_)
  refine cIB (va_runV (C := RX8) (As := [.int x86, .int x93]) (rest := []) ⟨hx, hb, hml, hown, hA⟩ (k_X8_flat l dC dI dA sz ((q29, .inl (dA 3, 1, .inr (.inl fq))) :: X) Γ hU g q1 t_q1 x86 x93   (RL_1 hRL) (hBd)) ⟨callB_of 2 hA (al_A wd_1_200) rfl rfl rfl (hA _ wd_1_1) (hA _ wd_1_197) (by decide +kernel) ⟨Nat.le_of_ble_eq_true rfl, Nat.le_of_ble_eq_true rfl⟩, hA _ wd_1_198, hA _ wd_1_199⟩ ⟨bl, recv_X8 hE hG t_q1, fun U hU9 hW9 => ⟨rfl, by rw [hU9]; exact hG, hE.go hS hU9 hW9⟩⟩ rfl rfl hl.1 rfl (lv_room (Nat.le_of_ble_eq_true rfl)) dL_law_165 ⟨(Nat.le_trans (show kc + 4 ≤ 300000 by omega) (Nat.le_of_ble_eq_true rfl)), (Nat.le_trans (show ks + 165 ≤ 300000 by omega) (Nat.le_of_ble_eq_true rfl))⟩) hS (fun x97 u95 H locs w96 hG hS => ?_)
  obtain ⟨Γ98, g99⟩ := u95
  dsimp only at w96 hG
  obtain ⟨hx100, hU, hB104, hf101, w102, hq105, hq106, hq107, hq108, hq109⟩ := w96
  have hX110 : ext Γ Γ98 := ext.trans ext.rf hx100
  replace t_q13 : ty Γ98 q13 30 := hx100.one t_q13 (by decide)
  replace t_q1 : ty Γ98 q1 1 := hx100.one t_q1 (by decide)
  replace w102 := HD.mk w102
  replace hq105 := HD.mk hq105
  replace hq106 := HD.mk hq106
  replace hq107 := HD.mk hq107
  replace hq108 := HD.mk hq108
  replace hq109 := HD.mk hq109
  have hw111 : ∀ c, c ∉ ([1, 33, 41, 42, 43, 44, 45] : List Nat) → g99 c = g c := fun c hc => funext fun j => hf101 c j (fun q => hc (by rw [q]; decide)) (fun q => hc (by rw [q]; decide)) (fun q => hc (by rw [q]; decide)) (fun q => hc (by rw [q]; decide)) (fun q => hc (by rw [q]; decide)) (fun q => hc (by rw [q]; decide)) (fun q => hc (by rw [q]; decide))
  have hj112 : IJ g99 := IJ_e hIJ (hw111 126 (by decide)) (hw111 132 (by decide)) (hw111 134 (by decide))
  refine lv_pop hx hb dL_law_168 rfl ?_
  refine lv_aload_n hx hb dL_law_169 rfl (lv_at hl 2 rfl) ?_
  refine lv_aload_n hx hb dL_law_170 rfl (lv_at hl 4 rfl) ?_
  refine lv_iload hx hb dL_law_171 (lv_at hl 0 rfl) ?_
  refine ty_iconst hx hb (1) dL_law_173 (by decide) (fun x113 h114 => ?_)
  refine ty_iadd hx hb dL_law_174 (fun x115 h116 => ?_)
  have h117 := lw_ix (k := 1) h114 h116 hi0 hiL hLN (by decide)
  refine va_sld hx hb hXs hbl hbA hS (i := x115) (ty_ix h117.2) dL_law_175 ?_
  refine W.eq (g2 := F0 m 176 ls [.int (xs (i.toInt.toNat + 1)), .ref q13]) (by rw [lw_xs (xs := xs) h117.1 hi0.1]) ?_
  clear h117 h116 h114
  refine W.eq (g2 := F0 m 176 ls [.int x86, .ref q13]) (by rw [s87]) ?_
  refine lv_aload_n hx hb dL_law_176 rfl (lv_at hl 4 rfl) ?_
  refine lv_iload hx hb dL_law_177 (lv_at hl 0 rfl) ?_
  refine ty_iconst hx hb (2) dL_law_179 (by decide) (fun x118 h119 => ?_)
  refine ty_iadd hx hb dL_law_180 (fun x120 h121 => ?_)
  have h122 := lw_ix (k := 2) h119 h121 hi0 hiL hLN (by decide)
  refine va_sld hx hb hXs hbl hbA hS (i := x120) (ty_ix h122.2) dL_law_181 ?_
  refine W.eq (g2 := F0 m 182 ls [.int (xs (i.toInt.toNat + 2)), .int x86, .ref q13]) (by rw [lw_xs (xs := xs) h122.1 hi0.1]) ?_
  clear h122 h121 h119
  refine W.eq (g2 := F0 m 182 ls [.int x93, .int x86, .ref q13]) (by rw [s94]) ?_
  refine cI (va_runV (C := RX9) (As := [.int x86, .int x93]) (rest := []) ⟨hx, hb, hml, hown, hA⟩ (k_X9_flat l dC dI dA sz ((q29, .inl (dA 3, 1, .inr (.inl fq))) :: X) Γ98 hU g99 q13 t_q13 x86 x93   (RM_101 hRL (hw111 101 (by decide)))) ⟨callB_of 2 hA (al_A wd_5_39) rfl rfl rfl (hA _ wd_1_7) (hA _ wd_5_36) (by decide +kernel) ⟨Nat.le_of_ble_eq_true rfl, Nat.le_of_ble_eq_true rfl⟩, hA _ wd_5_37, hA _ wd_5_38⟩ ⟨bl, recv_X9 hE hG t_q13, fun U hU9 hW9 => ⟨rfl, by rw [hU9]; exact hG, hE.go hS hU9 hW9⟩⟩ rfl rfl hl.1 rfl (lv_room (Nat.le_of_ble_eq_true rfl)) dL_law_182 ⟨(Nat.le_trans (show (kc + 4) + 0 ≤ 300000 by omega) (Nat.le_of_ble_eq_true rfl)), (Nat.le_trans (show (ks + 165) + 0 ≤ 300000 by omega) (Nat.le_of_ble_eq_true rfl))⟩) hS (fun x125 u123 H locs w124 hG hS => ?_)
  obtain ⟨hf127, w124, hq126⟩ := w124
  replace w124 := HD.mk w124
  replace hq126 := HD.mk hq126
  have hw128 : ∀ c, c ∉ ([100, 101, 102, 103] : List Nat) → u123 c = g99 c := fun c hc => funext fun j => hf127 c j (fun q => hc (by rw [q]; decide)) (fun q => hc (by rw [q]; decide)) (fun q => hc (by rw [q]; decide)) (fun q => hc (by rw [q]; decide))
  have hst129 := st_flat (g := g) (u1 := g99) (u2 := u123) (r1 := x97) (r2 := x125) hRL hw111 hw128 w102.v.1 w102.v.2 hq105.v hq106.v hq107.v hq108.v hq109.v w124.v.1 w124.v.2 hq126.v
  have hrr130 := hst129.2
  refine lv_pop hx hb dL_law_185 rfl ?_
  refine lv_goto (tgt := 1075) hx hb dL_law_186 (by decide) ?_
  obtain ⟨x131, h132⟩ : ∃ y : Int32, y = i + Int32.ofInt (6) := ⟨_, rfl⟩
  try have h133 : x131.toInt = i.toInt + (6) := ty_inc h132 (by decide) (by omega) (by omega)
  refine lv_iinc (v := x131) (lv' := [(4, .int x131), (3, .ref q29), (2, .ref q13), (1, .ref q1), (0, .ref b)]) hx hb dL_law_1075 hl (k := 0) rfl h132.symm (by decide) rfl (fun ls hl => ?_)
  refine lv_goto (tgt := 23) hx hb dL_law_1078 (by decide) ?_
  exact ih x131 Γ98 u123 ((kc + 4)) ((ks + 165)) _ _ ls fq (by omega) (by omega) (by have a9 := congrFun (hw128 4 (by decide)) 0; have b9 := congrFun (hw111 4 (by decide)) 0; omega) hst129.1 (IJ_e hj112 (hw128 126 (by decide)) (hw128 132 (by decide)) (hw128 134 (by decide))) (Bd_e hB104 (hw128 33 (by decide)) (hw128 34 (by decide)) (hw128 35 (by decide))) hU t_q1 t_q13  (by omega) (by omega) hG hS (lv_sub hl [0, 1, 2, 3, 4] rfl)
set_option maxHeartbeats 40000000 in
set_option maxRecDepth 100000 in
/-- the law's case 1 -/
theorem law_c1 {p : Program} {e : Env} {s : State} {m : MethodId} {below : List Frame} {meth : Method} {c : Code} (l : Launch) (hl9 : l.stackTraces = false) {b L : Nat} {xs : Nat → Int32} (hLN : L ≤ 3072) (hx : p.tables.exec = Jvm.exec) (hb : c.code = code) (hr : meth.sig.returnType = ret) (hml : c.maxLocals = 7) (hown : s.vm.findClass R_law = some m.cls) (hA : ∀ w ∈ AL, w.before #[Value.ref b] s = true) (hXs : va_X b L xs s s.heap) (hbl : b < s.heap.size) (hlocks : meth.locks = false) {dC : Nat → ClassId} {dI : Nat → Nat → Nat} {dA : Nat → ClassId} {sz : Nat} (hE : en dC dI dA sz s) (hsz : sz = s.heap.size) (hbA : ¬ ty_A sz b) (X : va_W) (q1 q13 q29 : Nat) (n : Nat) (ih : LJ p l e s m below meth c b dC dI dA sz X q1 q13 q29 n) (i : Int32) (Γ : ty_G) (g : gh) (kc ks : Nat) (H : Heap) (locs : List Loc) (ls : Array Slot) (fq : Nat → Int64) (hm : (3073 - i.toInt : Int) < (n + 1 : Nat)) (hi0 : 0 ≤ i.toInt ∧ i.toInt ≤ 3072) (hy4 : g 4 0 ≤ i.toInt) (hRL : RLA g) (hIJ : IJ g) (hBd : Bd Γ g) (hU : Un Γ) (t_q1 : ty Γ q1 1) (t_q13 : ty Γ q13 30) (hkc : kc ≤ 300 + i.toInt.toNat) (hks : ks ≤ 30000 + 28 * i.toInt.toNat) (hG : ty_ok (dC, dI) vwCl Γ (TP dA Γ g) sz ((q29, .inl (dA 3, 1, .inr (.inl fq))) :: X) H) (hS : va_S (ty_A sz) s.heap H locs) (hl : lv_has ls 7 [(4, .int i), (3, .ref q29), (2, .ref q13), (1, .ref q1), (0, .ref b)]) (hiL : i.toInt + 6 ≤ (L : Int)) : W p l e room_1 s m #[Value.ref b] below meth c H locs kc ks (lw_Z below #[Value.ref b] s) (F0 m 189 ls []) := by
  refine lv_aload_n hx hb dL_law_189 rfl (lv_at hl 3 rfl) ?_
  refine lv_aload_n hx hb dL_law_190 rfl (lv_at hl 4 rfl) ?_
  refine lv_iload hx hb dL_law_191 (lv_at hl 0 rfl) ?_
  refine ty_iconst hx hb (1) dL_law_193 (by decide) (fun x134 h135 => ?_)
  refine ty_iadd hx hb dL_law_194 (fun x136 h137 => ?_)
  have h138 := lw_ix (k := 1) h135 h137 hi0 hiL hLN (by decide)
  refine va_sld hx hb hXs hbl hbA hS (i := x136) (ty_ix h138.2) dL_law_195 ?_
  refine W.eq (g2 := F0 m 196 ls [.int (xs (i.toInt.toNat + 1)), .ref q1]) (by rw [lw_xs (xs := xs) h138.1 hi0.1]) ?_
  clear h138 h137 h135
  refine lv_topi (fun x139 s140 => ?_)
  refine cIB (va_runV (C := RX8) (As := [.int x139]) (rest := []) ⟨hx, hb, hml, hown, hA⟩ (k_X8_owner l dC dI dA sz ((q29, .inl (dA 3, 1, .inr (.inl fq))) :: X) Γ hU g q1 t_q1 x139   (RL_2 hRL) (hBd)) ⟨callB_of 1 hA (al_A wd_2_0) rfl rfl rfl (hA _ wd_1_1) (hA _ wd_1_237) (by decide +kernel) ⟨Nat.le_of_ble_eq_true rfl, Nat.le_of_ble_eq_true rfl⟩, hA _ wd_1_238, hA _ wd_1_239⟩ ⟨bl, recv_X8 hE hG t_q1, fun U hU9 hW9 => ⟨rfl, by rw [hU9]; exact hG, hE.go hS hU9 hW9⟩⟩ rfl rfl hl.1 rfl (lv_room (Nat.le_of_ble_eq_true rfl)) dL_law_196 ⟨(Nat.le_trans (show kc + 1 ≤ 300000 by omega) (Nat.le_of_ble_eq_true rfl)), (Nat.le_trans (show ks + 8 ≤ 300000 by omega) (Nat.le_of_ble_eq_true rfl))⟩) hS (fun x143 u141 H locs w142 hG hS => ?_)
  obtain ⟨Γ144, g145⟩ := u141
  dsimp only at w142 hG
  obtain ⟨hx146, hU, hB150, hf147, w148, hq151, hq152, hq153, hq154, hq155, hq156, hq157⟩ := w142
  have hX158 : ext Γ Γ144 := ext.trans ext.rf hx146
  replace t_q13 : ty Γ144 q13 30 := hx146.one t_q13 (by decide)
  replace t_q1 : ty Γ144 q1 1 := hx146.one t_q1 (by decide)
  replace w148 := HD.mk w148
  replace hq151 := HD.mk hq151
  replace hq152 := HD.mk hq152
  replace hq153 := HD.mk hq153
  replace hq154 := HD.mk hq154
  replace hq155 := HD.mk hq155
  replace hq156 := HD.mk hq156
  replace hq157 := HD.mk hq157
  have hw159 : ∀ c, c ∉ ([2, 34, 50, 51, 52, 53, 54, 55, 56] : List Nat) → g145 c = g c := fun c hc => funext fun j => hf147 c j (fun q => hc (by rw [q]; decide)) (fun q => hc (by rw [q]; decide)) (fun q => hc (by rw [q]; decide)) (fun q => hc (by rw [q]; decide)) (fun q => hc (by rw [q]; decide)) (fun q => hc (by rw [q]; decide)) (fun q => hc (by rw [q]; decide)) (fun q => hc (by rw [q]; decide)) (fun q => hc (by rw [q]; decide))
  have hj160 : IJ g145 := IJ_e hIJ (hw159 126 (by decide)) (hw159 132 (by decide)) (hw159 134 (by decide))
  refine lv_pop hx hb dL_law_199 rfl ?_
  refine lv_aload_n hx hb dL_law_200 rfl (lv_at hl 2 rfl) ?_
  refine lv_aload_n hx hb dL_law_201 rfl (lv_at hl 4 rfl) ?_
  refine lv_iload hx hb dL_law_202 (lv_at hl 0 rfl) ?_
  refine ty_iconst hx hb (1) dL_law_204 (by decide) (fun x161 h162 => ?_)
  refine ty_iadd hx hb dL_law_205 (fun x163 h164 => ?_)
  have h165 := lw_ix (k := 1) h162 h164 hi0 hiL hLN (by decide)
  refine va_sld hx hb hXs hbl hbA hS (i := x163) (ty_ix h165.2) dL_law_206 ?_
  refine W.eq (g2 := F0 m 207 ls [.int (xs (i.toInt.toNat + 1)), .ref q13]) (by rw [lw_xs (xs := xs) h165.1 hi0.1]) ?_
  clear h165 h164 h162
  refine W.eq (g2 := F0 m 207 ls [.int x139, .ref q13]) (by rw [s140]) ?_
  refine cI (va_runV (C := RX9) (As := [.int x139]) (rest := []) ⟨hx, hb, hml, hown, hA⟩ (k_X9_owner l dC dI dA sz ((q29, .inl (dA 3, 1, .inr (.inl fq))) :: X) Γ144 hU g145 q13 t_q13 x139   (RM_104 hRL (hw159 104 (by decide)))) ⟨callB_of 1 hA (al_A wd_5_46) rfl rfl rfl (hA _ wd_1_7) (hA _ wd_5_43) (by decide +kernel) ⟨Nat.le_of_ble_eq_true rfl, Nat.le_of_ble_eq_true rfl⟩, hA _ wd_5_44, hA _ wd_5_45⟩ ⟨bl, recv_X9 hE hG t_q13, fun U hU9 hW9 => ⟨rfl, by rw [hU9]; exact hG, hE.go hS hU9 hW9⟩⟩ rfl rfl hl.1 rfl (lv_room (Nat.le_of_ble_eq_true rfl)) dL_law_207 ⟨(Nat.le_trans (show (kc + 1) + 0 ≤ 300000 by omega) (Nat.le_of_ble_eq_true rfl)), (Nat.le_trans (show (ks + 8) + 0 ≤ 300000 by omega) (Nat.le_of_ble_eq_true rfl))⟩) hS (fun x168 u166 H locs w167 hG hS => ?_)
  obtain ⟨hf170, w167, hq169⟩ := w167
  replace w167 := HD.mk w167
  replace hq169 := HD.mk hq169
  have hw171 : ∀ c, c ∉ ([100, 104, 105] : List Nat) → u166 c = g145 c := fun c hc => funext fun j => hf170 c j (fun q => hc (by rw [q]; decide)) (fun q => hc (by rw [q]; decide)) (fun q => hc (by rw [q]; decide))
  have hst172 := st_owner (g := g) (u1 := g145) (u2 := u166) (r1 := x143) (r2 := x168) hRL hw159 hw171 w148.v.1 w148.v.2 hq151.v hq152.v hq153.v hq154.v hq155.v hq156.v hq157.v w167.v.1 w167.v.2 hq169.v
  have hrr173 := hst172.2
  refine lv_pop hx hb dL_law_210 rfl ?_
  refine lv_goto (tgt := 1075) hx hb dL_law_211 (by decide) ?_
  obtain ⟨x174, h175⟩ : ∃ y : Int32, y = i + Int32.ofInt (6) := ⟨_, rfl⟩
  try have h176 : x174.toInt = i.toInt + (6) := ty_inc h175 (by decide) (by omega) (by omega)
  refine lv_iinc (v := x174) (lv' := [(4, .int x174), (3, .ref q29), (2, .ref q13), (1, .ref q1), (0, .ref b)]) hx hb dL_law_1075 hl (k := 0) rfl h175.symm (by decide) rfl (fun ls hl => ?_)
  refine lv_goto (tgt := 23) hx hb dL_law_1078 (by decide) ?_
  exact ih x174 Γ144 u166 ((kc + 1)) ((ks + 8)) _ _ ls fq (by omega) (by omega) (by have a9 := congrFun (hw171 4 (by decide)) 0; have b9 := congrFun (hw159 4 (by decide)) 0; omega) hst172.1 (IJ_e hj160 (hw171 126 (by decide)) (hw171 132 (by decide)) (hw171 134 (by decide))) (Bd_e hB150 (hw171 33 (by decide)) (hw171 34 (by decide)) (hw171 35 (by decide))) hU t_q1 t_q13  (by omega) (by omega) hG hS (lv_sub hl [0, 1, 2, 3, 4] rfl)
set_option maxHeartbeats 40000000 in
set_option maxRecDepth 100000 in
/-- the law's case 2 -/
theorem law_c2 {p : Program} {e : Env} {s : State} {m : MethodId} {below : List Frame} {meth : Method} {c : Code} (l : Launch) (hl9 : l.stackTraces = false) {b L : Nat} {xs : Nat → Int32} (hLN : L ≤ 3072) (hx : p.tables.exec = Jvm.exec) (hb : c.code = code) (hr : meth.sig.returnType = ret) (hml : c.maxLocals = 7) (hown : s.vm.findClass R_law = some m.cls) (hA : ∀ w ∈ AL, w.before #[Value.ref b] s = true) (hXs : va_X b L xs s s.heap) (hbl : b < s.heap.size) (hlocks : meth.locks = false) {dC : Nat → ClassId} {dI : Nat → Nat → Nat} {dA : Nat → ClassId} {sz : Nat} (hE : en dC dI dA sz s) (hsz : sz = s.heap.size) (hbA : ¬ ty_A sz b) (X : va_W) (q1 q13 q29 : Nat) (n : Nat) (ih : LJ p l e s m below meth c b dC dI dA sz X q1 q13 q29 n) (i : Int32) (Γ : ty_G) (g : gh) (kc ks : Nat) (H : Heap) (locs : List Loc) (ls : Array Slot) (fq : Nat → Int64) (hm : (3073 - i.toInt : Int) < (n + 1 : Nat)) (hi0 : 0 ≤ i.toInt ∧ i.toInt ≤ 3072) (hy4 : g 4 0 ≤ i.toInt) (hRL : RLA g) (hIJ : IJ g) (hBd : Bd Γ g) (hU : Un Γ) (t_q1 : ty Γ q1 1) (t_q13 : ty Γ q13 30) (hkc : kc ≤ 300 + i.toInt.toNat) (hks : ks ≤ 30000 + 28 * i.toInt.toNat) (hG : ty_ok (dC, dI) vwCl Γ (TP dA Γ g) sz ((q29, .inl (dA 3, 1, .inr (.inl fq))) :: X) H) (hS : va_S (ty_A sz) s.heap H locs) (hl : lv_has ls 7 [(4, .int i), (3, .ref q29), (2, .ref q13), (1, .ref q1), (0, .ref b)]) (hiL : i.toInt + 6 ≤ (L : Int)) : W p l e room_1 s m #[Value.ref b] below meth c H locs kc ks (lw_Z below #[Value.ref b] s) (F0 m 214 ls []) := by
  refine lv_aload_n hx hb dL_law_214 rfl (lv_at hl 3 rfl) ?_
  refine lv_aload_n hx hb dL_law_215 rfl (lv_at hl 4 rfl) ?_
  refine lv_iload hx hb dL_law_216 (lv_at hl 0 rfl) ?_
  refine ty_iconst hx hb (1) dL_law_218 (by decide) (fun x177 h178 => ?_)
  refine ty_iadd hx hb dL_law_219 (fun x179 h180 => ?_)
  have h181 := lw_ix (k := 1) h178 h180 hi0 hiL hLN (by decide)
  refine va_sld hx hb hXs hbl hbA hS (i := x179) (ty_ix h181.2) dL_law_220 ?_
  refine W.eq (g2 := F0 m 221 ls [.int (xs (i.toInt.toNat + 1)), .ref q1]) (by rw [lw_xs (xs := xs) h181.1 hi0.1]) ?_
  clear h181 h180 h178
  refine lv_topi (fun x182 s183 => ?_)
  refine lv_aload_n hx hb dL_law_221 rfl (lv_at hl 4 rfl) ?_
  refine lv_iload hx hb dL_law_222 (lv_at hl 0 rfl) ?_
  refine ty_iconst hx hb (2) dL_law_224 (by decide) (fun x184 h185 => ?_)
  refine ty_iadd hx hb dL_law_225 (fun x186 h187 => ?_)
  have h188 := lw_ix (k := 2) h185 h187 hi0 hiL hLN (by decide)
  refine va_sld hx hb hXs hbl hbA hS (i := x186) (ty_ix h188.2) dL_law_226 ?_
  refine W.eq (g2 := F0 m 227 ls [.int (xs (i.toInt.toNat + 2)), .int x182, .ref q1]) (by rw [lw_xs (xs := xs) h188.1 hi0.1]) ?_
  clear h188 h187 h185
  refine lv_topi (fun x189 s190 => ?_)
  refine lv_aload_n hx hb dL_law_227 rfl (lv_at hl 4 rfl) ?_
  refine lv_iload hx hb dL_law_228 (lv_at hl 0 rfl) ?_
  refine ty_iconst hx hb (3) dL_law_230 (by decide) (fun x191 h192 => ?_)
  refine ty_iadd hx hb dL_law_231 (fun x193 h194 => ?_)
  have h195 := lw_ix (k := 3) h192 h194 hi0 hiL hLN (by decide)
  refine va_sld hx hb hXs hbl hbA hS (i := x193) (ty_ix h195.2) dL_law_232 ?_
  refine W.eq (g2 := F0 m 233 ls [.int (xs (i.toInt.toNat + 3)), .int x189, .int x182, .ref q1]) (by rw [lw_xs (xs := xs) h195.1 hi0.1]) ?_
  clear h195 h194 h192
  refine lv_topi (fun x196 s197 => ?_)
  refine cI (va_runV (C := RX8) (As := [.int x182, .int x189, .int x196]) (rest := []) ⟨hx, hb, hml, hown, hA⟩ (k_X8_own l dC dI dA sz ((q29, .inl (dA 3, 1, .inr (.inl fq))) :: X) Γ hU g q1 t_q1 x182 x189 x196   (RL_1 hRL) (RL_2 hRL)) ⟨callB_of 3 hA (al_A wd_2_44) rfl rfl rfl (hA _ wd_1_1) (hA _ wd_2_41) (by decide +kernel) ⟨Nat.le_of_ble_eq_true rfl, Nat.le_of_ble_eq_true rfl⟩, hA _ wd_2_42, hA _ wd_2_43⟩ ⟨bl, recv_X8 hE hG t_q1, fun U hU9 hW9 => ⟨rfl, by rw [hU9]; exact hG, hE.go hS hU9 hW9⟩⟩ rfl rfl hl.1 rfl (lv_room (Nat.le_of_ble_eq_true rfl)) dL_law_233 ⟨(Nat.le_trans (show kc + 0 ≤ 300000 by omega) (Nat.le_of_ble_eq_true rfl)), (Nat.le_trans (show ks + 0 ≤ 300000 by omega) (Nat.le_of_ble_eq_true rfl))⟩) hS (fun x200 u198 H locs w199 hG hS => ?_)
  obtain ⟨hf202, hq201⟩ := w199
  replace hq201 := HD.mk hq201
  have hw203 : ∀ c, c ∉ ([43, 53] : List Nat) → u198 c = g c := fun c hc => funext fun j => hf202 c j (fun q => hc (by rw [q]; decide)) (fun q => hc (by rw [q]; decide))
  have hb204 : Bd Γ u198 := Bd_e hBd (hw203 33 (by decide)) (hw203 34 (by decide)) (hw203 35 (by decide))
  have hj205 : IJ u198 := IJ_e hIJ (hw203 126 (by decide)) (hw203 132 (by decide)) (hw203 134 (by decide))
  refine lv_pop hx hb dL_law_236 rfl ?_
  refine lv_aload_n hx hb dL_law_237 rfl (lv_at hl 2 rfl) ?_
  refine lv_aload_n hx hb dL_law_238 rfl (lv_at hl 4 rfl) ?_
  refine lv_iload hx hb dL_law_239 (lv_at hl 0 rfl) ?_
  refine ty_iconst hx hb (1) dL_law_241 (by decide) (fun x206 h207 => ?_)
  refine ty_iadd hx hb dL_law_242 (fun x208 h209 => ?_)
  have h210 := lw_ix (k := 1) h207 h209 hi0 hiL hLN (by decide)
  refine va_sld hx hb hXs hbl hbA hS (i := x208) (ty_ix h210.2) dL_law_243 ?_
  refine W.eq (g2 := F0 m 244 ls [.int (xs (i.toInt.toNat + 1)), .ref q13]) (by rw [lw_xs (xs := xs) h210.1 hi0.1]) ?_
  clear h210 h209 h207
  refine W.eq (g2 := F0 m 244 ls [.int x182, .ref q13]) (by rw [s183]) ?_
  refine lv_aload_n hx hb dL_law_244 rfl (lv_at hl 4 rfl) ?_
  refine lv_iload hx hb dL_law_245 (lv_at hl 0 rfl) ?_
  refine ty_iconst hx hb (2) dL_law_247 (by decide) (fun x211 h212 => ?_)
  refine ty_iadd hx hb dL_law_248 (fun x213 h214 => ?_)
  have h215 := lw_ix (k := 2) h212 h214 hi0 hiL hLN (by decide)
  refine va_sld hx hb hXs hbl hbA hS (i := x213) (ty_ix h215.2) dL_law_249 ?_
  refine W.eq (g2 := F0 m 250 ls [.int (xs (i.toInt.toNat + 2)), .int x182, .ref q13]) (by rw [lw_xs (xs := xs) h215.1 hi0.1]) ?_
  clear h215 h214 h212
  refine W.eq (g2 := F0 m 250 ls [.int x189, .int x182, .ref q13]) (by rw [s190]) ?_
  refine lv_aload_n hx hb dL_law_250 rfl (lv_at hl 4 rfl) ?_
  refine lv_iload hx hb dL_law_251 (lv_at hl 0 rfl) ?_
  refine ty_iconst hx hb (3) dL_law_253 (by decide) (fun x216 h217 => ?_)
  refine ty_iadd hx hb dL_law_254 (fun x218 h219 => ?_)
  have h220 := lw_ix (k := 3) h217 h219 hi0 hiL hLN (by decide)
  refine va_sld hx hb hXs hbl hbA hS (i := x218) (ty_ix h220.2) dL_law_255 ?_
  refine W.eq (g2 := F0 m 256 ls [.int (xs (i.toInt.toNat + 3)), .int x189, .int x182, .ref q13]) (by rw [lw_xs (xs := xs) h220.1 hi0.1]) ?_
  clear h220 h219 h217
  refine W.eq (g2 := F0 m 256 ls [.int x196, .int x189, .int x182, .ref q13]) (by rw [s197]) ?_
  refine cI (va_runV (C := RX9) (As := [.int x182, .int x189, .int x196]) (rest := []) ⟨hx, hb, hml, hown, hA⟩ (k_X9_own l dC dI dA sz ((q29, .inl (dA 3, 1, .inr (.inl fq))) :: X) Γ hU u198 q13 t_q13 x182 x189 x196   (RM_101 hRL (hw203 101 (by decide))) (RM_104 hRL (hw203 104 (by decide))) (RM_126 hRL (hw203 126 (by decide)))) ⟨callB_of 3 hA (al_A wd_5_50) rfl rfl rfl (hA _ wd_1_7) (hA _ wd_5_47) (by decide +kernel) ⟨Nat.le_of_ble_eq_true rfl, Nat.le_of_ble_eq_true rfl⟩, hA _ wd_5_48, hA _ wd_5_49⟩ ⟨bl, recv_X9 hE hG t_q13, fun U hU9 hW9 => ⟨rfl, by rw [hU9]; exact hG, hE.go hS hU9 hW9⟩⟩ rfl rfl hl.1 rfl (lv_room (Nat.le_of_ble_eq_true rfl)) dL_law_256 ⟨(Nat.le_trans (show kc + 0 ≤ 300000 by omega) (Nat.le_of_ble_eq_true rfl)), (Nat.le_trans (show ks + 0 ≤ 300000 by omega) (Nat.le_of_ble_eq_true rfl))⟩) hS (fun x223 u221 H locs w222 hG hS => ?_)
  obtain ⟨hf225, hq224⟩ := w222
  replace hq224 := HD.mk hq224
  have hw226 : ∀ c, c ∉ ([100, 109] : List Nat) → u221 c = u198 c := fun c hc => funext fun j => hf225 c j (fun q => hc (by rw [q]; decide)) (fun q => hc (by rw [q]; decide))
  have hst227 := st_own (g := g) (u1 := u198) (u2 := u221) (r1 := x200) (r2 := x223) hRL hw203 hw226 hq201.v hq224.v
  have hrr228 := hst227.2
  refine lv_pop hx hb dL_law_259 rfl ?_
  refine lv_goto (tgt := 1075) hx hb dL_law_260 (by decide) ?_
  obtain ⟨x229, h230⟩ : ∃ y : Int32, y = i + Int32.ofInt (6) := ⟨_, rfl⟩
  try have h231 : x229.toInt = i.toInt + (6) := ty_inc h230 (by decide) (by omega) (by omega)
  refine lv_iinc (v := x229) (lv' := [(4, .int x229), (3, .ref q29), (2, .ref q13), (1, .ref q1), (0, .ref b)]) hx hb dL_law_1075 hl (k := 0) rfl h230.symm (by decide) rfl (fun ls hl => ?_)
  refine lv_goto (tgt := 23) hx hb dL_law_1078 (by decide) ?_
  exact ih x229 Γ u221 (kc) (ks) _ _ ls fq (by omega) (by omega) (by have a9 := congrFun (hw226 4 (by decide)) 0; have b9 := congrFun (hw203 4 (by decide)) 0; omega) hst227.1 (IJ_e hj205 (hw226 126 (by decide)) (hw226 132 (by decide)) (hw226 134 (by decide))) (Bd_e hb204 (hw226 33 (by decide)) (hw226 34 (by decide)) (hw226 35 (by decide))) hU t_q1 t_q13  (by omega) (by omega) hG hS (lv_sub hl [0, 1, 2, 3, 4] rfl)
set_option maxHeartbeats 40000000 in
set_option maxRecDepth 100000 in
/-- the law's case 3 -/
theorem law_c3 {p : Program} {e : Env} {s : State} {m : MethodId} {below : List Frame} {meth : Method} {c : Code} (l : Launch) (hl9 : l.stackTraces = false) {b L : Nat} {xs : Nat → Int32} (hLN : L ≤ 3072) (hx : p.tables.exec = Jvm.exec) (hb : c.code = code) (hr : meth.sig.returnType = ret) (hml : c.maxLocals = 7) (hown : s.vm.findClass R_law = some m.cls) (hA : ∀ w ∈ AL, w.before #[Value.ref b] s = true) (hXs : va_X b L xs s s.heap) (hbl : b < s.heap.size) (hlocks : meth.locks = false) {dC : Nat → ClassId} {dI : Nat → Nat → Nat} {dA : Nat → ClassId} {sz : Nat} (hE : en dC dI dA sz s) (hsz : sz = s.heap.size) (hbA : ¬ ty_A sz b) (X : va_W) (q1 q13 q29 : Nat) (n : Nat) (ih : LJ p l e s m below meth c b dC dI dA sz X q1 q13 q29 n) (i : Int32) (Γ : ty_G) (g : gh) (kc ks : Nat) (H : Heap) (locs : List Loc) (ls : Array Slot) (fq : Nat → Int64) (hm : (3073 - i.toInt : Int) < (n + 1 : Nat)) (hi0 : 0 ≤ i.toInt ∧ i.toInt ≤ 3072) (hy4 : g 4 0 ≤ i.toInt) (hRL : RLA g) (hIJ : IJ g) (hBd : Bd Γ g) (hU : Un Γ) (t_q1 : ty Γ q1 1) (t_q13 : ty Γ q13 30) (hkc : kc ≤ 300 + i.toInt.toNat) (hks : ks ≤ 30000 + 28 * i.toInt.toNat) (hG : ty_ok (dC, dI) vwCl Γ (TP dA Γ g) sz ((q29, .inl (dA 3, 1, .inr (.inl fq))) :: X) H) (hS : va_S (ty_A sz) s.heap H locs) (hl : lv_has ls 7 [(4, .int i), (3, .ref q29), (2, .ref q13), (1, .ref q1), (0, .ref b)]) (hiL : i.toInt + 6 ≤ (L : Int)) : W p l e room_1 s m #[Value.ref b] below meth c H locs kc ks (lw_Z below #[Value.ref b] s) (F0 m 263 ls []) := by
  refine lv_aload_n hx hb dL_law_263 rfl (lv_at hl 3 rfl) ?_
  refine lv_aload_n hx hb dL_law_264 rfl (lv_at hl 4 rfl) ?_
  refine lv_iload hx hb dL_law_265 (lv_at hl 0 rfl) ?_
  refine ty_iconst hx hb (1) dL_law_267 (by decide) (fun x232 h233 => ?_)
  refine ty_iadd hx hb dL_law_268 (fun x234 h235 => ?_)
  have h236 := lw_ix (k := 1) h233 h235 hi0 hiL hLN (by decide)
  refine va_sld hx hb hXs hbl hbA hS (i := x234) (ty_ix h236.2) dL_law_269 ?_
  refine W.eq (g2 := F0 m 270 ls [.int (xs (i.toInt.toNat + 1)), .ref q1]) (by rw [lw_xs (xs := xs) h236.1 hi0.1]) ?_
  clear h236 h235 h233
  refine lv_topi (fun x237 s238 => ?_)
  refine lv_aload_n hx hb dL_law_270 rfl (lv_at hl 4 rfl) ?_
  refine lv_iload hx hb dL_law_271 (lv_at hl 0 rfl) ?_
  refine ty_iconst hx hb (2) dL_law_273 (by decide) (fun x239 h240 => ?_)
  refine ty_iadd hx hb dL_law_274 (fun x241 h242 => ?_)
  have h243 := lw_ix (k := 2) h240 h242 hi0 hiL hLN (by decide)
  refine va_sld hx hb hXs hbl hbA hS (i := x241) (ty_ix h243.2) dL_law_275 ?_
  refine W.eq (g2 := F0 m 276 ls [.int (xs (i.toInt.toNat + 2)), .int x237, .ref q1]) (by rw [lw_xs (xs := xs) h243.1 hi0.1]) ?_
  clear h243 h242 h240
  refine lv_topi (fun x244 s245 => ?_)
  refine lv_aload_n hx hb dL_law_276 rfl (lv_at hl 4 rfl) ?_
  refine lv_iload hx hb dL_law_277 (lv_at hl 0 rfl) ?_
  refine ty_iconst hx hb (3) dL_law_279 (by decide) (fun x246 h247 => ?_)
  refine ty_iadd hx hb dL_law_280 (fun x248 h249 => ?_)
  have h250 := lw_ix (k := 3) h247 h249 hi0 hiL hLN (by decide)
  refine va_sld hx hb hXs hbl hbA hS (i := x248) (ty_ix h250.2) dL_law_281 ?_
  refine W.eq (g2 := F0 m 282 ls [.int (xs (i.toInt.toNat + 3)), .int x244, .int x237, .ref q1]) (by rw [lw_xs (xs := xs) h250.1 hi0.1]) ?_
  clear h250 h249 h247
  refine lv_topi (fun x251 s252 => ?_)
  refine lv_aload_n hx hb dL_law_282 rfl (lv_at hl 4 rfl) ?_
  refine lv_iload hx hb dL_law_283 (lv_at hl 0 rfl) ?_
  refine ty_iconst hx hb (4) dL_law_285 (by decide) (fun x253 h254 => ?_)
  refine ty_iadd hx hb dL_law_286 (fun x255 h256 => ?_)
  have h257 := lw_ix (k := 4) h254 h256 hi0 hiL hLN (by decide)
  refine va_sld hx hb hXs hbl hbA hS (i := x255) (ty_ix h257.2) dL_law_287 ?_
  refine W.eq (g2 := F0 m 288 ls [.int (xs (i.toInt.toNat + 4)), .int x251, .int x244, .int x237, .ref q1]) (by rw [lw_xs (xs := xs) h257.1 hi0.1]) ?_
  clear h257 h256 h254
  refine lv_topi (fun x258 s259 => ?_)
  refine lv_aload_n hx hb dL_law_288 rfl (lv_at hl 4 rfl) ?_
  refine lv_iload hx hb dL_law_289 (lv_at hl 0 rfl) ?_
  refine ty_iconst hx hb (5) dL_law_291 (by decide) (fun x260 h261 => ?_)
  refine ty_iadd hx hb dL_law_292 (fun x262 h263 => ?_)
  have h264 := lw_ix (k := 5) h261 h263 hi0 hiL hLN (by decide)
  refine va_sld hx hb hXs hbl hbA hS (i := x262) (ty_ix h264.2) dL_law_293 ?_
  refine W.eq (g2 := F0 m 294 ls [.int (xs (i.toInt.toNat + 5)), .int x258, .int x251, .int x244, .int x237, .ref q1]) (by rw [lw_xs (xs := xs) h264.1 hi0.1]) ?_
  clear h264 h263 h261
  refine lv_topi (fun x265 s266 => ?_)
  refine cI (va_runV (C := RX8) (As := [.int x237, .int x244, .int x251, .int x258, .int x265]) (rest := []) ⟨hx, hb, hml, hown, hA⟩ (k_X8_feed l dC dI dA sz ((q29, .inl (dA 3, 1, .inr (.inl fq))) :: X) Γ hU g q1 t_q1 x237 x244 x251 x258 x265   (RL_6 hRL)) ⟨callB_of 5 hA (al_A wd_2_76) rfl rfl rfl (hA _ wd_1_1) (hA _ wd_2_73) (by decide +kernel) ⟨Nat.le_of_ble_eq_true rfl, Nat.le_of_ble_eq_true rfl⟩, hA _ wd_2_74, hA _ wd_2_75⟩ ⟨bl, recv_X8 hE hG t_q1, fun U hU9 hW9 => ⟨rfl, by rw [hU9]; exact hG, hE.go hS hU9 hW9⟩⟩ rfl rfl hl.1 rfl (lv_room (Nat.le_of_ble_eq_true rfl)) dL_law_294 ⟨(Nat.le_trans (show kc + 0 ≤ 300000 by omega) (Nat.le_of_ble_eq_true rfl)), (Nat.le_trans (show ks + 0 ≤ 300000 by omega) (Nat.le_of_ble_eq_true rfl))⟩) hS (fun x269 u267 H locs w268 hG hS => ?_)
  obtain ⟨hf271, w268, hq270⟩ := w268
  replace w268 := HD.mk w268
  replace hq270 := HD.mk hq270
  have hw272 : ∀ c, c ∉ ([6, 19] : List Nat) → u267 c = g c := fun c hc => funext fun j => hf271 c j (fun q => hc (by rw [q]; decide)) (fun q => hc (by rw [q]; decide))
  have hb273 : Bd Γ u267 := Bd_e hBd (hw272 33 (by decide)) (hw272 34 (by decide)) (hw272 35 (by decide))
  have hj274 : IJ u267 := IJ_e hIJ (hw272 126 (by decide)) (hw272 132 (by decide)) (hw272 134 (by decide))
  refine lv_pop hx hb dL_law_297 rfl ?_
  refine lv_aload_n hx hb dL_law_298 rfl (lv_at hl 2 rfl) ?_
  refine lv_aload_n hx hb dL_law_299 rfl (lv_at hl 4 rfl) ?_
  refine lv_iload hx hb dL_law_300 (lv_at hl 0 rfl) ?_
  refine ty_iconst hx hb (1) dL_law_302 (by decide) (fun x275 h276 => ?_)
  refine ty_iadd hx hb dL_law_303 (fun x277 h278 => ?_)
  have h279 := lw_ix (k := 1) h276 h278 hi0 hiL hLN (by decide)
  refine va_sld hx hb hXs hbl hbA hS (i := x277) (ty_ix h279.2) dL_law_304 ?_
  refine W.eq (g2 := F0 m 305 ls [.int (xs (i.toInt.toNat + 1)), .ref q13]) (by rw [lw_xs (xs := xs) h279.1 hi0.1]) ?_
  clear h279 h278 h276
  refine W.eq (g2 := F0 m 305 ls [.int x237, .ref q13]) (by rw [s238]) ?_
  refine lv_aload_n hx hb dL_law_305 rfl (lv_at hl 4 rfl) ?_
  refine lv_iload hx hb dL_law_306 (lv_at hl 0 rfl) ?_
  refine ty_iconst hx hb (2) dL_law_308 (by decide) (fun x280 h281 => ?_)
  refine ty_iadd hx hb dL_law_309 (fun x282 h283 => ?_)
  have h284 := lw_ix (k := 2) h281 h283 hi0 hiL hLN (by decide)
  refine va_sld hx hb hXs hbl hbA hS (i := x282) (ty_ix h284.2) dL_law_310 ?_
  refine W.eq (g2 := F0 m 311 ls [.int (xs (i.toInt.toNat + 2)), .int x237, .ref q13]) (by rw [lw_xs (xs := xs) h284.1 hi0.1]) ?_
  clear h284 h283 h281
  refine W.eq (g2 := F0 m 311 ls [.int x244, .int x237, .ref q13]) (by rw [s245]) ?_
  refine lv_aload_n hx hb dL_law_311 rfl (lv_at hl 4 rfl) ?_
  refine lv_iload hx hb dL_law_312 (lv_at hl 0 rfl) ?_
  refine ty_iconst hx hb (3) dL_law_314 (by decide) (fun x285 h286 => ?_)
  refine ty_iadd hx hb dL_law_315 (fun x287 h288 => ?_)
  have h289 := lw_ix (k := 3) h286 h288 hi0 hiL hLN (by decide)
  refine va_sld hx hb hXs hbl hbA hS (i := x287) (ty_ix h289.2) dL_law_316 ?_
  refine W.eq (g2 := F0 m 317 ls [.int (xs (i.toInt.toNat + 3)), .int x244, .int x237, .ref q13]) (by rw [lw_xs (xs := xs) h289.1 hi0.1]) ?_
  clear h289 h288 h286
  refine W.eq (g2 := F0 m 317 ls [.int x251, .int x244, .int x237, .ref q13]) (by rw [s252]) ?_
  refine lv_aload_n hx hb dL_law_317 rfl (lv_at hl 4 rfl) ?_
  refine lv_iload hx hb dL_law_318 (lv_at hl 0 rfl) ?_
  refine ty_iconst hx hb (4) dL_law_320 (by decide) (fun x290 h291 => ?_)
  refine ty_iadd hx hb dL_law_321 (fun x292 h293 => ?_)
  have h294 := lw_ix (k := 4) h291 h293 hi0 hiL hLN (by decide)
  refine va_sld hx hb hXs hbl hbA hS (i := x292) (ty_ix h294.2) dL_law_322 ?_
  refine W.eq (g2 := F0 m 323 ls [.int (xs (i.toInt.toNat + 4)), .int x251, .int x244, .int x237, .ref q13]) (by rw [lw_xs (xs := xs) h294.1 hi0.1]) ?_
  clear h294 h293 h291
  refine W.eq (g2 := F0 m 323 ls [.int x258, .int x251, .int x244, .int x237, .ref q13]) (by rw [s259]) ?_
  refine lv_aload_n hx hb dL_law_323 rfl (lv_at hl 4 rfl) ?_
  refine lv_iload hx hb dL_law_324 (lv_at hl 0 rfl) ?_
  refine ty_iconst hx hb (5) dL_law_326 (by decide) (fun x295 h296 => ?_)
  refine ty_iadd hx hb dL_law_327 (fun x297 h298 => ?_)
  have h299 := lw_ix (k := 5) h296 h298 hi0 hiL hLN (by decide)
  refine va_sld hx hb hXs hbl hbA hS (i := x297) (ty_ix h299.2) dL_law_328 ?_
  refine W.eq (g2 := F0 m 329 ls [.int (xs (i.toInt.toNat + 5)), .int x258, .int x251, .int x244, .int x237, .ref q13]) (by rw [lw_xs (xs := xs) h299.1 hi0.1]) ?_
  clear h299 h298 h296
  refine W.eq (g2 := F0 m 329 ls [.int x265, .int x258, .int x251, .int x244, .int x237, .ref q13]) (by rw [s266]) ?_
  refine cI (va_runV (C := RX9) (As := [.int x237, .int x244, .int x251, .int x258, .int x265]) (rest := []) ⟨hx, hb, hml, hown, hA⟩ (k_X9_feed l dC dI dA sz ((q29, .inl (dA 3, 1, .inr (.inl fq))) :: X) Γ hU u267 q13 t_q13 x237 x244 x251 x258 x265   (RM_114 hRL (hw272 114 (by decide)))) ⟨callB_of 5 hA (al_A wd_5_66) rfl rfl rfl (hA _ wd_1_7) (hA _ wd_5_63) (by decide +kernel) ⟨Nat.le_of_ble_eq_true rfl, Nat.le_of_ble_eq_true rfl⟩, hA _ wd_5_64, hA _ wd_5_65⟩ ⟨bl, recv_X9 hE hG t_q13, fun U hU9 hW9 => ⟨rfl, by rw [hU9]; exact hG, hE.go hS hU9 hW9⟩⟩ rfl rfl hl.1 rfl (lv_room (Nat.le_of_ble_eq_true rfl)) dL_law_329 ⟨(Nat.le_trans (show kc + 0 ≤ 300000 by omega) (Nat.le_of_ble_eq_true rfl)), (Nat.le_trans (show ks + 0 ≤ 300000 by omega) (Nat.le_of_ble_eq_true rfl))⟩) hS (fun x302 u300 H locs w301 hG hS => ?_)
  obtain ⟨hf304, w301, hq303⟩ := w301
  replace w301 := HD.mk w301
  replace hq303 := HD.mk hq303
  have hw305 : ∀ c, c ∉ ([100, 113, 114] : List Nat) → u300 c = u267 c := fun c hc => funext fun j => hf304 c j (fun q => hc (by rw [q]; decide)) (fun q => hc (by rw [q]; decide)) (fun q => hc (by rw [q]; decide))
  have hst306 := st_feed (g := g) (u1 := u267) (u2 := u300) (r1 := x269) (r2 := x302) hRL hw272 hw305 w268.v.1 w268.v.2 hq270.v w301.v.1 w301.v.2 hq303.v
  have hrr307 := hst306.2
  refine lv_pop hx hb dL_law_332 rfl ?_
  refine lv_goto (tgt := 1075) hx hb dL_law_333 (by decide) ?_
  obtain ⟨x308, h309⟩ : ∃ y : Int32, y = i + Int32.ofInt (6) := ⟨_, rfl⟩
  try have h310 : x308.toInt = i.toInt + (6) := ty_inc h309 (by decide) (by omega) (by omega)
  refine lv_iinc (v := x308) (lv' := [(4, .int x308), (3, .ref q29), (2, .ref q13), (1, .ref q1), (0, .ref b)]) hx hb dL_law_1075 hl (k := 0) rfl h309.symm (by decide) rfl (fun ls hl => ?_)
  refine lv_goto (tgt := 23) hx hb dL_law_1078 (by decide) ?_
  exact ih x308 Γ u300 (kc) (ks) _ _ ls fq (by omega) (by omega) (by have a9 := congrFun (hw305 4 (by decide)) 0; have b9 := congrFun (hw272 4 (by decide)) 0; omega) hst306.1 (IJ_e hj274 (hw305 126 (by decide)) (hw305 132 (by decide)) (hw305 134 (by decide))) (Bd_e hb273 (hw305 33 (by decide)) (hw305 34 (by decide)) (hw305 35 (by decide))) hU t_q1 t_q13  (by omega) (by omega) hG hS (lv_sub hl [0, 1, 2, 3, 4] rfl)
set_option maxHeartbeats 40000000 in
set_option maxRecDepth 100000 in
/-- the law's case 4 -/
theorem law_c4 {p : Program} {e : Env} {s : State} {m : MethodId} {below : List Frame} {meth : Method} {c : Code} (l : Launch) (hl9 : l.stackTraces = false) {b L : Nat} {xs : Nat → Int32} (hLN : L ≤ 3072) (hx : p.tables.exec = Jvm.exec) (hb : c.code = code) (hr : meth.sig.returnType = ret) (hml : c.maxLocals = 7) (hown : s.vm.findClass R_law = some m.cls) (hA : ∀ w ∈ AL, w.before #[Value.ref b] s = true) (hXs : va_X b L xs s s.heap) (hbl : b < s.heap.size) (hlocks : meth.locks = false) {dC : Nat → ClassId} {dI : Nat → Nat → Nat} {dA : Nat → ClassId} {sz : Nat} (hE : en dC dI dA sz s) (hsz : sz = s.heap.size) (hbA : ¬ ty_A sz b) (X : va_W) (q1 q13 q29 : Nat) (n : Nat) (ih : LJ p l e s m below meth c b dC dI dA sz X q1 q13 q29 n) (i : Int32) (Γ : ty_G) (g : gh) (kc ks : Nat) (H : Heap) (locs : List Loc) (ls : Array Slot) (fq : Nat → Int64) (hm : (3073 - i.toInt : Int) < (n + 1 : Nat)) (hi0 : 0 ≤ i.toInt ∧ i.toInt ≤ 3072) (hy4 : g 4 0 ≤ i.toInt) (hRL : RLA g) (hIJ : IJ g) (hBd : Bd Γ g) (hU : Un Γ) (t_q1 : ty Γ q1 1) (t_q13 : ty Γ q13 30) (hkc : kc ≤ 300 + i.toInt.toNat) (hks : ks ≤ 30000 + 28 * i.toInt.toNat) (hG : ty_ok (dC, dI) vwCl Γ (TP dA Γ g) sz ((q29, .inl (dA 3, 1, .inr (.inl fq))) :: X) H) (hS : va_S (ty_A sz) s.heap H locs) (hl : lv_has ls 7 [(4, .int i), (3, .ref q29), (2, .ref q13), (1, .ref q1), (0, .ref b)]) (hiL : i.toInt + 6 ≤ (L : Int)) : W p l e room_1 s m #[Value.ref b] below meth c H locs kc ks (lw_Z below #[Value.ref b] s) (F0 m 336 ls []) := by
  refine lv_aload_n hx hb dL_law_336 rfl (lv_at hl 3 rfl) ?_
  refine lv_aload_n hx hb dL_law_337 rfl (lv_at hl 4 rfl) ?_
  refine lv_iload hx hb dL_law_338 (lv_at hl 0 rfl) ?_
  refine ty_iconst hx hb (1) dL_law_340 (by decide) (fun x311 h312 => ?_)
  refine ty_iadd hx hb dL_law_341 (fun x313 h314 => ?_)
  have h315 := lw_ix (k := 1) h312 h314 hi0 hiL hLN (by decide)
  refine va_sld hx hb hXs hbl hbA hS (i := x313) (ty_ix h315.2) dL_law_342 ?_
  refine W.eq (g2 := F0 m 343 ls [.int (xs (i.toInt.toNat + 1)), .ref q1]) (by rw [lw_xs (xs := xs) h315.1 hi0.1]) ?_
  clear h315 h314 h312
  refine lv_topi (fun x316 s317 => ?_)
  refine cI (va_runV (C := RX8) (As := [.int x316]) (rest := []) ⟨hx, hb, hml, hown, hA⟩ (k_X8_end l dC dI dA sz ((q29, .inl (dA 3, 1, .inr (.inl fq))) :: X) Γ hU g q1 t_q1 x316   (RL_6 hRL)) ⟨callB_of 1 hA (al_A wd_2_84) rfl rfl rfl (hA _ wd_1_1) (hA _ wd_2_81) (by decide +kernel) ⟨Nat.le_of_ble_eq_true rfl, Nat.le_of_ble_eq_true rfl⟩, hA _ wd_2_82, hA _ wd_2_83⟩ ⟨bl, recv_X8 hE hG t_q1, fun U hU9 hW9 => ⟨rfl, by rw [hU9]; exact hG, hE.go hS hU9 hW9⟩⟩ rfl rfl hl.1 rfl (lv_room (Nat.le_of_ble_eq_true rfl)) dL_law_343 ⟨(Nat.le_trans (show kc + 0 ≤ 300000 by omega) (Nat.le_of_ble_eq_true rfl)), (Nat.le_trans (show ks + 0 ≤ 300000 by omega) (Nat.le_of_ble_eq_true rfl))⟩) hS (fun x320 u318 H locs w319 hG hS => ?_)
  obtain ⟨hf321, w319⟩ := w319
  replace w319 := HD.mk w319
  have hw322 : ∀ c, c ∉ ([6] : List Nat) → u318 c = g c := fun c hc => funext fun j => hf321 c j (fun q => hc (by rw [q]; decide))
  have hb323 : Bd Γ u318 := Bd_e hBd (hw322 33 (by decide)) (hw322 34 (by decide)) (hw322 35 (by decide))
  have hj324 : IJ u318 := IJ_e hIJ (hw322 126 (by decide)) (hw322 132 (by decide)) (hw322 134 (by decide))
  refine lv_pop hx hb dL_law_346 rfl ?_
  refine lv_aload_n hx hb dL_law_347 rfl (lv_at hl 2 rfl) ?_
  refine lv_aload_n hx hb dL_law_348 rfl (lv_at hl 4 rfl) ?_
  refine lv_iload hx hb dL_law_349 (lv_at hl 0 rfl) ?_
  refine ty_iconst hx hb (1) dL_law_351 (by decide) (fun x325 h326 => ?_)
  refine ty_iadd hx hb dL_law_352 (fun x327 h328 => ?_)
  have h329 := lw_ix (k := 1) h326 h328 hi0 hiL hLN (by decide)
  refine va_sld hx hb hXs hbl hbA hS (i := x327) (ty_ix h329.2) dL_law_353 ?_
  refine W.eq (g2 := F0 m 354 ls [.int (xs (i.toInt.toNat + 1)), .ref q13]) (by rw [lw_xs (xs := xs) h329.1 hi0.1]) ?_
  clear h329 h328 h326
  refine W.eq (g2 := F0 m 354 ls [.int x316, .ref q13]) (by rw [s317]) ?_
  refine cI (va_runV (C := RX9) (As := [.int x316]) (rest := []) ⟨hx, hb, hml, hown, hA⟩ (k_X9_end l dC dI dA sz ((q29, .inl (dA 3, 1, .inr (.inl fq))) :: X) Γ hU u318 q13 t_q13 x316   (RM_114 hRL (hw322 114 (by decide)))) ⟨callB_of 1 hA (al_A wd_5_70) rfl rfl rfl (hA _ wd_1_7) (hA _ wd_5_67) (by decide +kernel) ⟨Nat.le_of_ble_eq_true rfl, Nat.le_of_ble_eq_true rfl⟩, hA _ wd_5_68, hA _ wd_5_69⟩ ⟨bl, recv_X9 hE hG t_q13, fun U hU9 hW9 => ⟨rfl, by rw [hU9]; exact hG, hE.go hS hU9 hW9⟩⟩ rfl rfl hl.1 rfl (lv_room (Nat.le_of_ble_eq_true rfl)) dL_law_354 ⟨(Nat.le_trans (show kc + 0 ≤ 300000 by omega) (Nat.le_of_ble_eq_true rfl)), (Nat.le_trans (show ks + 0 ≤ 300000 by omega) (Nat.le_of_ble_eq_true rfl))⟩) hS (fun x332 u330 H locs w331 hG hS => ?_)
  obtain ⟨hf333, w331⟩ := w331
  replace w331 := HD.mk w331
  have hw334 : ∀ c, c ∉ ([100, 114] : List Nat) → u330 c = u318 c := fun c hc => funext fun j => hf333 c j (fun q => hc (by rw [q]; decide)) (fun q => hc (by rw [q]; decide))
  have hst335 := st_end (g := g) (u1 := u318) (u2 := u330) (r1 := x320) (r2 := x332) hRL hw322 hw334 w319.v.1 w319.v.2 w331.v.1 w331.v.2
  have hrr336 := hst335.2
  refine lv_pop hx hb dL_law_357 rfl ?_
  refine lv_goto (tgt := 1075) hx hb dL_law_358 (by decide) ?_
  obtain ⟨x337, h338⟩ : ∃ y : Int32, y = i + Int32.ofInt (6) := ⟨_, rfl⟩
  try have h339 : x337.toInt = i.toInt + (6) := ty_inc h338 (by decide) (by omega) (by omega)
  refine lv_iinc (v := x337) (lv' := [(4, .int x337), (3, .ref q29), (2, .ref q13), (1, .ref q1), (0, .ref b)]) hx hb dL_law_1075 hl (k := 0) rfl h338.symm (by decide) rfl (fun ls hl => ?_)
  refine lv_goto (tgt := 23) hx hb dL_law_1078 (by decide) ?_
  exact ih x337 Γ u330 (kc) (ks) _ _ ls fq (by omega) (by omega) (by have a9 := congrFun (hw334 4 (by decide)) 0; have b9 := congrFun (hw322 4 (by decide)) 0; omega) hst335.1 (IJ_e hj324 (hw334 126 (by decide)) (hw334 132 (by decide)) (hw334 134 (by decide))) (Bd_e hb323 (hw334 33 (by decide)) (hw334 34 (by decide)) (hw334 35 (by decide))) hU t_q1 t_q13  (by omega) (by omega) hG hS (lv_sub hl [0, 1, 2, 3, 4] rfl)
set_option maxHeartbeats 40000000 in
set_option maxRecDepth 100000 in
/-- the law's case 5 -/
theorem law_c5 {p : Program} {e : Env} {s : State} {m : MethodId} {below : List Frame} {meth : Method} {c : Code} (l : Launch) (hl9 : l.stackTraces = false) {b L : Nat} {xs : Nat → Int32} (hLN : L ≤ 3072) (hx : p.tables.exec = Jvm.exec) (hb : c.code = code) (hr : meth.sig.returnType = ret) (hml : c.maxLocals = 7) (hown : s.vm.findClass R_law = some m.cls) (hA : ∀ w ∈ AL, w.before #[Value.ref b] s = true) (hXs : va_X b L xs s s.heap) (hbl : b < s.heap.size) (hlocks : meth.locks = false) {dC : Nat → ClassId} {dI : Nat → Nat → Nat} {dA : Nat → ClassId} {sz : Nat} (hE : en dC dI dA sz s) (hsz : sz = s.heap.size) (hbA : ¬ ty_A sz b) (X : va_W) (q1 q13 q29 : Nat) (n : Nat) (ih : LJ p l e s m below meth c b dC dI dA sz X q1 q13 q29 n) (i : Int32) (Γ : ty_G) (g : gh) (kc ks : Nat) (H : Heap) (locs : List Loc) (ls : Array Slot) (fq : Nat → Int64) (hm : (3073 - i.toInt : Int) < (n + 1 : Nat)) (hi0 : 0 ≤ i.toInt ∧ i.toInt ≤ 3072) (hy4 : g 4 0 ≤ i.toInt) (hRL : RLA g) (hIJ : IJ g) (hBd : Bd Γ g) (hU : Un Γ) (t_q1 : ty Γ q1 1) (t_q13 : ty Γ q13 30) (hkc : kc ≤ 300 + i.toInt.toNat) (hks : ks ≤ 30000 + 28 * i.toInt.toNat) (hG : ty_ok (dC, dI) vwCl Γ (TP dA Γ g) sz ((q29, .inl (dA 3, 1, .inr (.inl fq))) :: X) H) (hS : va_S (ty_A sz) s.heap H locs) (hl : lv_has ls 7 [(4, .int i), (3, .ref q29), (2, .ref q13), (1, .ref q1), (0, .ref b)]) (hiL : i.toInt + 6 ≤ (L : Int)) : W p l e room_1 s m #[Value.ref b] below meth c H locs kc ks (lw_Z below #[Value.ref b] s) (F0 m 361 ls []) := by
  refine lv_aload_n hx hb dL_law_361 rfl (lv_at hl 3 rfl) ?_
  refine cI (va_runV (C := RX8) (As := []) (rest := []) ⟨hx, hb, hml, hown, hA⟩ (k_X8_rules l dC dI dA sz ((q29, .inl (dA 3, 1, .inr (.inl fq))) :: X) Γ hU g q1 t_q1 (g 19) (g 6 0).toNat  (RL_6 hRL) (rfl) (RL_N hRL)) ⟨callB_of 0 hA (al_A wd_2_88) rfl rfl rfl (hA _ wd_1_1) (hA _ wd_2_85) (by decide +kernel) ⟨Nat.le_of_ble_eq_true rfl, Nat.le_of_ble_eq_true rfl⟩, hA _ wd_2_86, hA _ wd_2_87⟩ ⟨bl, recv_X8 hE hG t_q1, fun U hU9 hW9 => ⟨rfl, by rw [hU9]; exact hG, hE.go hS hU9 hW9⟩⟩ rfl rfl hl.1 rfl (lv_room (Nat.le_of_ble_eq_true rfl)) dL_law_362 ⟨(Nat.le_trans (show kc + 0 ≤ 300000 by omega) (Nat.le_of_ble_eq_true rfl)), (Nat.le_trans (show ks + 0 ≤ 300000 by omega) (Nat.le_of_ble_eq_true rfl))⟩) hS (fun x342 u340 H locs w341 hG hS => ?_)
  obtain ⟨hf346, w341, hq343, hq344, hq345⟩ := w341
  replace w341 := HD.mk w341
  replace hq343 := HD.mk hq343
  replace hq344 := HD.mk hq344
  replace hq345 := HD.mk hq345
  have hw347 : ∀ c, c ∉ ([6, 9, 10, 11, 12, 13, 14, 15, 16, 17, 18, 80, 81, 82] : List Nat) → u340 c = g c := fun c hc => funext fun j => hf346 c j (fun q => hc (by rw [q]; decide)) (fun q => hc (by rw [q]; decide)) (fun q => hc (by rw [q]; decide)) (fun q => hc (by rw [q]; decide)) (fun q => hc (by rw [q]; decide)) (fun q => hc (by rw [q]; decide)) (fun q => hc (by rw [q]; decide)) (fun q => hc (by rw [q]; decide)) (fun q => hc (by rw [q]; decide)) (fun q => hc (by rw [q]; decide)) (fun q => hc (by rw [q]; decide)) (fun q => hc (by rw [q]; decide)) (fun q => hc (by rw [q]; decide)) (fun q => hc (by rw [q]; decide))
  have hb348 : Bd Γ u340 := Bd_e hBd (hw347 33 (by decide)) (hw347 34 (by decide)) (hw347 35 (by decide))
  have hj349 : IJ u340 := IJ_e hIJ (hw347 126 (by decide)) (hw347 132 (by decide)) (hw347 134 (by decide))
  refine lv_pop hx hb dL_law_365 rfl ?_
  refine lv_aload_n hx hb dL_law_366 rfl (lv_at hl 2 rfl) ?_
  refine cI (va_runV (C := RX9) (As := []) (rest := []) ⟨hx, hb, hml, hown, hA⟩ (k_X9_rules l dC dI dA sz ((q29, .inl (dA 3, 1, .inr (.inl fq))) :: X) Γ hU u340 q13 t_q13 (g 19) (g 6 0).toNat  (RM_114 hRL (hw347 114 (by decide))) (RM_T hRL (hw347 113 (by decide))) (RM_N hRL (hw347 114 (by decide)))) ⟨callB_of 0 hA (al_A wd_5_74) rfl rfl rfl (hA _ wd_1_7) (hA _ wd_5_71) (by decide +kernel) ⟨Nat.le_of_ble_eq_true rfl, Nat.le_of_ble_eq_true rfl⟩, hA _ wd_5_72, hA _ wd_5_73⟩ ⟨bl, recv_X9 hE hG t_q13, fun U hU9 hW9 => ⟨rfl, by rw [hU9]; exact hG, hE.go hS hU9 hW9⟩⟩ rfl rfl hl.1 rfl (lv_room (Nat.le_of_ble_eq_true rfl)) dL_law_367 ⟨(Nat.le_trans (show kc + 0 ≤ 300000 by omega) (Nat.le_of_ble_eq_true rfl)), (Nat.le_trans (show ks + 0 ≤ 300000 by omega) (Nat.le_of_ble_eq_true rfl))⟩) hS (fun x352 u350 H locs w351 hG hS => ?_)
  obtain ⟨hf356, w351, hq353, hq354, hq355⟩ := w351
  replace w351 := HD.mk w351
  replace hq353 := HD.mk hq353
  replace hq354 := HD.mk hq354
  replace hq355 := HD.mk hq355
  have hw357 : ∀ c, c ∉ ([100, 114, 115, 116, 117, 118, 119, 120, 121, 122, 123, 124, 125] : List Nat) → u350 c = u340 c := fun c hc => funext fun j => hf356 c j (fun q => hc (by rw [q]; decide)) (fun q => hc (by rw [q]; decide)) (fun q => hc (by rw [q]; decide)) (fun q => hc (by rw [q]; decide)) (fun q => hc (by rw [q]; decide)) (fun q => hc (by rw [q]; decide)) (fun q => hc (by rw [q]; decide)) (fun q => hc (by rw [q]; decide)) (fun q => hc (by rw [q]; decide)) (fun q => hc (by rw [q]; decide)) (fun q => hc (by rw [q]; decide)) (fun q => hc (by rw [q]; decide)) (fun q => hc (by rw [q]; decide))
  have hst358 := st_rules (g := g) (u1 := u340) (u2 := u350) (r1 := x342) (r2 := x352) hRL hw347 hw357 w341.v hq343.v hq344.v hq345.v w351.v.1 w351.v.2.1 w351.v.2.2 hq353.v hq354.v hq355.v
  have hrr359 := hst358.2
  refine lv_pop hx hb dL_law_370 rfl ?_
  refine lv_goto (tgt := 1075) hx hb dL_law_371 (by decide) ?_
  obtain ⟨x360, h361⟩ : ∃ y : Int32, y = i + Int32.ofInt (6) := ⟨_, rfl⟩
  try have h362 : x360.toInt = i.toInt + (6) := ty_inc h361 (by decide) (by omega) (by omega)
  refine lv_iinc (v := x360) (lv' := [(4, .int x360), (3, .ref q29), (2, .ref q13), (1, .ref q1), (0, .ref b)]) hx hb dL_law_1075 hl (k := 0) rfl h361.symm (by decide) rfl (fun ls hl => ?_)
  refine lv_goto (tgt := 23) hx hb dL_law_1078 (by decide) ?_
  exact ih x360 Γ u350 (kc) (ks) _ _ ls fq (by omega) (by omega) (by have a9 := congrFun (hw357 4 (by decide)) 0; have b9 := congrFun (hw347 4 (by decide)) 0; omega) hst358.1 (IJ_e hj349 (hw357 126 (by decide)) (hw357 132 (by decide)) (hw357 134 (by decide))) (Bd_e hb348 (hw357 33 (by decide)) (hw357 34 (by decide)) (hw357 35 (by decide))) hU t_q1 t_q13  (by omega) (by omega) hG hS (lv_sub hl [0, 1, 2, 3, 4] rfl)
set_option maxHeartbeats 40000000 in
set_option maxRecDepth 100000 in
/-- the law's case 6 -/
theorem law_c6 {p : Program} {e : Env} {s : State} {m : MethodId} {below : List Frame} {meth : Method} {c : Code} (l : Launch) (hl9 : l.stackTraces = false) {b L : Nat} {xs : Nat → Int32} (hLN : L ≤ 3072) (hx : p.tables.exec = Jvm.exec) (hb : c.code = code) (hr : meth.sig.returnType = ret) (hml : c.maxLocals = 7) (hown : s.vm.findClass R_law = some m.cls) (hA : ∀ w ∈ AL, w.before #[Value.ref b] s = true) (hXs : va_X b L xs s s.heap) (hbl : b < s.heap.size) (hlocks : meth.locks = false) {dC : Nat → ClassId} {dI : Nat → Nat → Nat} {dA : Nat → ClassId} {sz : Nat} (hE : en dC dI dA sz s) (hsz : sz = s.heap.size) (hbA : ¬ ty_A sz b) (X : va_W) (q1 q13 q29 : Nat) (n : Nat) (ih : LJ p l e s m below meth c b dC dI dA sz X q1 q13 q29 n) (i : Int32) (Γ : ty_G) (g : gh) (kc ks : Nat) (H : Heap) (locs : List Loc) (ls : Array Slot) (fq : Nat → Int64) (hm : (3073 - i.toInt : Int) < (n + 1 : Nat)) (hi0 : 0 ≤ i.toInt ∧ i.toInt ≤ 3072) (hy4 : g 4 0 ≤ i.toInt) (hRL : RLA g) (hIJ : IJ g) (hBd : Bd Γ g) (hU : Un Γ) (t_q1 : ty Γ q1 1) (t_q13 : ty Γ q13 30) (hkc : kc ≤ 300 + i.toInt.toNat) (hks : ks ≤ 30000 + 28 * i.toInt.toNat) (hG : ty_ok (dC, dI) vwCl Γ (TP dA Γ g) sz ((q29, .inl (dA 3, 1, .inr (.inl fq))) :: X) H) (hS : va_S (ty_A sz) s.heap H locs) (hl : lv_has ls 7 [(4, .int i), (3, .ref q29), (2, .ref q13), (1, .ref q1), (0, .ref b)]) (hiL : i.toInt + 6 ≤ (L : Int)) : W p l e room_1 s m #[Value.ref b] below meth c H locs kc ks (lw_Z below #[Value.ref b] s) (F0 m 374 ls []) := by
  refine lv_aload_n hx hb dL_law_374 rfl (lv_at hl 3 rfl) ?_
  refine cI (va_runV (C := RX8) (As := []) (rest := []) ⟨hx, hb, hml, hown, hA⟩ (k_X8_place l dC dI dA sz ((q29, .inl (dA 3, 1, .inr (.inl fq))) :: X) Γ hU g q1 t_q1   ) ⟨callB_of 0 hA (al_A wd_2_225) rfl rfl rfl (hA _ wd_1_1) (hA _ wd_2_222) (by decide +kernel) ⟨Nat.le_of_ble_eq_true rfl, Nat.le_of_ble_eq_true rfl⟩, hA _ wd_2_223, hA _ wd_2_224⟩ ⟨bl, recv_X8 hE hG t_q1, fun U hU9 hW9 => ⟨rfl, by rw [hU9]; exact hG, hE.go hS hU9 hW9⟩⟩ rfl rfl hl.1 rfl (lv_room (Nat.le_of_ble_eq_true rfl)) dL_law_375 ⟨(Nat.le_trans (show kc + 0 ≤ 300000 by omega) (Nat.le_of_ble_eq_true rfl)), (Nat.le_trans (show ks + 0 ≤ 300000 by omega) (Nat.le_of_ble_eq_true rfl))⟩) hS (fun x365 u363 H locs w364 hG hS => ?_)
  obtain ⟨eu366, w364⟩ := w364
  rw [eu366] at hG
  replace w364 := HD.mk w364
  refine lv_pop hx hb dL_law_378 rfl ?_
  refine lv_aload_n hx hb dL_law_379 rfl (lv_at hl 2 rfl) ?_
  refine cI (va_runV (C := RX9) (As := []) (rest := []) ⟨hx, hb, hml, hown, hA⟩ (k_X9_place l dC dI dA sz ((q29, .inl (dA 3, 1, .inr (.inl fq))) :: X) Γ hU g q13 t_q13   ) ⟨callB_of 0 hA (al_A wd_5_116) rfl rfl rfl (hA _ wd_1_7) (hA _ wd_5_113) (by decide +kernel) ⟨Nat.le_of_ble_eq_true rfl, Nat.le_of_ble_eq_true rfl⟩, hA _ wd_5_114, hA _ wd_5_115⟩ ⟨bl, recv_X9 hE hG t_q13, fun U hU9 hW9 => ⟨rfl, by rw [hU9]; exact hG, hE.go hS hU9 hW9⟩⟩ rfl rfl hl.1 rfl (lv_room (Nat.le_of_ble_eq_true rfl)) dL_law_380 ⟨(Nat.le_trans (show kc + 0 ≤ 300000 by omega) (Nat.le_of_ble_eq_true rfl)), (Nat.le_trans (show ks + 0 ≤ 300000 by omega) (Nat.le_of_ble_eq_true rfl))⟩) hS (fun x369 u367 H locs w368 hG hS => ?_)
  obtain ⟨hf370, w368⟩ := w368
  replace w368 := HD.mk w368
  have hw371 : ∀ c, c ∉ ([100] : List Nat) → u367 c = g c := fun c hc => funext fun j => hf370 c j (fun q => hc (by rw [q]; decide))
  have hst372 := st_place (g := g) (u1 := g) (u2 := u367) (r1 := x365) (r2 := x369) hRL (fun _ _ => rfl) hw371 w364.v w368.v
  have hrr373 := hst372.2
  refine lv_pop hx hb dL_law_383 rfl ?_
  refine lv_goto (tgt := 1075) hx hb dL_law_384 (by decide) ?_
  obtain ⟨x374, h375⟩ : ∃ y : Int32, y = i + Int32.ofInt (6) := ⟨_, rfl⟩
  try have h376 : x374.toInt = i.toInt + (6) := ty_inc h375 (by decide) (by omega) (by omega)
  refine lv_iinc (v := x374) (lv' := [(4, .int x374), (3, .ref q29), (2, .ref q13), (1, .ref q1), (0, .ref b)]) hx hb dL_law_1075 hl (k := 0) rfl h375.symm (by decide) rfl (fun ls hl => ?_)
  refine lv_goto (tgt := 23) hx hb dL_law_1078 (by decide) ?_
  exact ih x374 Γ u367 (kc) (ks) _ _ ls fq (by omega) (by omega) (by have a9 := congrFun (hw371 4 (by decide)) 0; have b9 := True.intro; omega) hst372.1 (IJ_e hIJ (hw371 126 (by decide)) (hw371 132 (by decide)) (hw371 134 (by decide))) (Bd_e hBd (hw371 33 (by decide)) (hw371 34 (by decide)) (hw371 35 (by decide))) hU t_q1 t_q13  (by omega) (by omega) hG hS (lv_sub hl [0, 1, 2, 3, 4] rfl)
set_option maxHeartbeats 40000000 in
set_option maxRecDepth 100000 in
/-- the law's case 7 -/
theorem law_c7 {p : Program} {e : Env} {s : State} {m : MethodId} {below : List Frame} {meth : Method} {c : Code} (l : Launch) (hl9 : l.stackTraces = false) {b L : Nat} {xs : Nat → Int32} (hLN : L ≤ 3072) (hx : p.tables.exec = Jvm.exec) (hb : c.code = code) (hr : meth.sig.returnType = ret) (hml : c.maxLocals = 7) (hown : s.vm.findClass R_law = some m.cls) (hA : ∀ w ∈ AL, w.before #[Value.ref b] s = true) (hXs : va_X b L xs s s.heap) (hbl : b < s.heap.size) (hlocks : meth.locks = false) {dC : Nat → ClassId} {dI : Nat → Nat → Nat} {dA : Nat → ClassId} {sz : Nat} (hE : en dC dI dA sz s) (hsz : sz = s.heap.size) (hbA : ¬ ty_A sz b) (X : va_W) (q1 q13 q29 : Nat) (n : Nat) (ih : LJ p l e s m below meth c b dC dI dA sz X q1 q13 q29 n) (i : Int32) (Γ : ty_G) (g : gh) (kc ks : Nat) (H : Heap) (locs : List Loc) (ls : Array Slot) (fq : Nat → Int64) (hm : (3073 - i.toInt : Int) < (n + 1 : Nat)) (hi0 : 0 ≤ i.toInt ∧ i.toInt ≤ 3072) (hy4 : g 4 0 ≤ i.toInt) (hRL : RLA g) (hIJ : IJ g) (hBd : Bd Γ g) (hU : Un Γ) (t_q1 : ty Γ q1 1) (t_q13 : ty Γ q13 30) (hkc : kc ≤ 300 + i.toInt.toNat) (hks : ks ≤ 30000 + 28 * i.toInt.toNat) (hG : ty_ok (dC, dI) vwCl Γ (TP dA Γ g) sz ((q29, .inl (dA 3, 1, .inr (.inl fq))) :: X) H) (hS : va_S (ty_A sz) s.heap H locs) (hl : lv_has ls 7 [(4, .int i), (3, .ref q29), (2, .ref q13), (1, .ref q1), (0, .ref b)]) (hiL : i.toInt + 6 ≤ (L : Int)) : W p l e room_1 s m #[Value.ref b] below meth c H locs kc ks (lw_Z below #[Value.ref b] s) (F0 m 387 ls []) := by
  refine lv_aload_n hx hb dL_law_387 rfl (lv_at hl 3 rfl) ?_
  refine lv_aload_n hx hb dL_law_388 rfl (lv_at hl 4 rfl) ?_
  refine lv_iload hx hb dL_law_389 (lv_at hl 0 rfl) ?_
  refine ty_iconst hx hb (1) dL_law_391 (by decide) (fun x377 h378 => ?_)
  refine ty_iadd hx hb dL_law_392 (fun x379 h380 => ?_)
  have h381 := lw_ix (k := 1) h378 h380 hi0 hiL hLN (by decide)
  refine va_sld hx hb hXs hbl hbA hS (i := x379) (ty_ix h381.2) dL_law_393 ?_
  refine W.eq (g2 := F0 m 394 ls [.int (xs (i.toInt.toNat + 1)), .ref q1]) (by rw [lw_xs (xs := xs) h381.1 hi0.1]) ?_
  clear h381 h380 h378
  refine lv_topi (fun x382 s383 => ?_)
  refine lv_aload_n hx hb dL_law_394 rfl (lv_at hl 4 rfl) ?_
  refine lv_iload hx hb dL_law_395 (lv_at hl 0 rfl) ?_
  refine ty_iconst hx hb (2) dL_law_397 (by decide) (fun x384 h385 => ?_)
  refine ty_iadd hx hb dL_law_398 (fun x386 h387 => ?_)
  have h388 := lw_ix (k := 2) h385 h387 hi0 hiL hLN (by decide)
  refine va_sld hx hb hXs hbl hbA hS (i := x386) (ty_ix h388.2) dL_law_399 ?_
  refine W.eq (g2 := F0 m 400 ls [.int (xs (i.toInt.toNat + 2)), .int x382, .ref q1]) (by rw [lw_xs (xs := xs) h388.1 hi0.1]) ?_
  clear h388 h387 h385
  refine lv_topi (fun x389 s390 => ?_)
  refine cI (va_runV (C := RX8) (As := [.int x382, .int x389]) (rest := []) ⟨hx, hb, hml, hown, hA⟩ (k_X8_worth l dC dI dA sz ((q29, .inl (dA 3, 1, .inr (.inl fq))) :: X) Γ hU g q1 t_q1 x382 x389   (RL_1 hRL) (RL_5 hRL)) ⟨callB_of 2 hA (al_A wd_2_229) rfl rfl rfl (hA _ wd_1_1) (hA _ wd_2_226) (by decide +kernel) ⟨Nat.le_of_ble_eq_true rfl, Nat.le_of_ble_eq_true rfl⟩, hA _ wd_2_227, hA _ wd_2_228⟩ ⟨bl, recv_X8 hE hG t_q1, fun U hU9 hW9 => ⟨rfl, by rw [hU9]; exact hG, hE.go hS hU9 hW9⟩⟩ rfl rfl hl.1 rfl (lv_room (Nat.le_of_ble_eq_true rfl)) dL_law_400 ⟨(Nat.le_trans (show kc + 0 ≤ 300000 by omega) (Nat.le_of_ble_eq_true rfl)), (Nat.le_trans (show ks + 0 ≤ 300000 by omega) (Nat.le_of_ble_eq_true rfl))⟩) hS (fun x393 u391 H locs w392 hG hS => ?_)
  obtain ⟨eu395, hq394⟩ := w392
  rw [eu395] at hG
  replace hq394 := HD.mk hq394
  refine lv_pop hx hb dL_law_403 rfl ?_
  refine lv_aload_n hx hb dL_law_404 rfl (lv_at hl 2 rfl) ?_
  refine lv_aload_n hx hb dL_law_405 rfl (lv_at hl 4 rfl) ?_
  refine lv_iload hx hb dL_law_406 (lv_at hl 0 rfl) ?_
  refine ty_iconst hx hb (1) dL_law_408 (by decide) (fun x396 h397 => ?_)
  refine ty_iadd hx hb dL_law_409 (fun x398 h399 => ?_)
  have h400 := lw_ix (k := 1) h397 h399 hi0 hiL hLN (by decide)
  refine va_sld hx hb hXs hbl hbA hS (i := x398) (ty_ix h400.2) dL_law_410 ?_
  refine W.eq (g2 := F0 m 411 ls [.int (xs (i.toInt.toNat + 1)), .ref q13]) (by rw [lw_xs (xs := xs) h400.1 hi0.1]) ?_
  clear h400 h399 h397
  refine W.eq (g2 := F0 m 411 ls [.int x382, .ref q13]) (by rw [s383]) ?_
  refine lv_aload_n hx hb dL_law_411 rfl (lv_at hl 4 rfl) ?_
  refine lv_iload hx hb dL_law_412 (lv_at hl 0 rfl) ?_
  refine ty_iconst hx hb (2) dL_law_414 (by decide) (fun x401 h402 => ?_)
  refine ty_iadd hx hb dL_law_415 (fun x403 h404 => ?_)
  have h405 := lw_ix (k := 2) h402 h404 hi0 hiL hLN (by decide)
  refine va_sld hx hb hXs hbl hbA hS (i := x403) (ty_ix h405.2) dL_law_416 ?_
  refine W.eq (g2 := F0 m 417 ls [.int (xs (i.toInt.toNat + 2)), .int x382, .ref q13]) (by rw [lw_xs (xs := xs) h405.1 hi0.1]) ?_
  clear h405 h404 h402
  refine W.eq (g2 := F0 m 417 ls [.int x389, .int x382, .ref q13]) (by rw [s390]) ?_
  refine cI (va_runV (C := RX9) (As := [.int x382, .int x389]) (rest := []) ⟨hx, hb, hml, hown, hA⟩ (k_X9_worth l dC dI dA sz ((q29, .inl (dA 3, 1, .inr (.inl fq))) :: X) Γ hU g q13 t_q13 x382 x389   (RM_101 hRL rfl) (RM_122 hRL rfl) (RM_112 hRL rfl)) ⟨callB_of 2 hA (al_A wd_5_120) rfl rfl rfl (hA _ wd_1_7) (hA _ wd_5_117) (by decide +kernel) ⟨Nat.le_of_ble_eq_true rfl, Nat.le_of_ble_eq_true rfl⟩, hA _ wd_5_118, hA _ wd_5_119⟩ ⟨bl, recv_X9 hE hG t_q13, fun U hU9 hW9 => ⟨rfl, by rw [hU9]; exact hG, hE.go hS hU9 hW9⟩⟩ rfl rfl hl.1 rfl (lv_room (Nat.le_of_ble_eq_true rfl)) dL_law_417 ⟨(Nat.le_trans (show kc + 0 ≤ 300000 by omega) (Nat.le_of_ble_eq_true rfl)), (Nat.le_trans (show ks + 0 ≤ 300000 by omega) (Nat.le_of_ble_eq_true rfl))⟩) hS (fun x408 u406 H locs w407 hG hS => ?_)
  obtain ⟨hf410, hq409⟩ := w407
  replace hq409 := HD.mk hq409
  have hw411 : ∀ c, c ∉ ([100] : List Nat) → u406 c = g c := fun c hc => funext fun j => hf410 c j (fun q => hc (by rw [q]; decide))
  have hst412 := st_worth (g := g) (u1 := g) (u2 := u406) (r1 := x393) (r2 := x408) hRL (fun _ _ => rfl) hw411 hq394.v hq409.v
  have hrr413 := hst412.2
  refine lv_pop hx hb dL_law_420 rfl ?_
  refine lv_goto (tgt := 1075) hx hb dL_law_421 (by decide) ?_
  obtain ⟨x414, h415⟩ : ∃ y : Int32, y = i + Int32.ofInt (6) := ⟨_, rfl⟩
  try have h416 : x414.toInt = i.toInt + (6) := ty_inc h415 (by decide) (by omega) (by omega)
  refine lv_iinc (v := x414) (lv' := [(4, .int x414), (3, .ref q29), (2, .ref q13), (1, .ref q1), (0, .ref b)]) hx hb dL_law_1075 hl (k := 0) rfl h415.symm (by decide) rfl (fun ls hl => ?_)
  refine lv_goto (tgt := 23) hx hb dL_law_1078 (by decide) ?_
  exact ih x414 Γ u406 (kc) (ks) _ _ ls fq (by omega) (by omega) (by have a9 := congrFun (hw411 4 (by decide)) 0; have b9 := True.intro; omega) hst412.1 (IJ_e hIJ (hw411 126 (by decide)) (hw411 132 (by decide)) (hw411 134 (by decide))) (Bd_e hBd (hw411 33 (by decide)) (hw411 34 (by decide)) (hw411 35 (by decide))) hU t_q1 t_q13  (by omega) (by omega) hG hS (lv_sub hl [0, 1, 2, 3, 4] rfl)
