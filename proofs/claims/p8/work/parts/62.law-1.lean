set_option maxHeartbeats 40000000 in
set_option maxRecDepth 100000 in
/-- the law's case 0 -/
theorem law_c0 {p : Program} {e : Env} {s : State} {m : MethodId} {below : List Frame} {meth : Method} {c : Code} (l : Launch) (hl9 : l.stackTraces = false) {b L : Nat} {xs : Nat → Int32} (hLN : L ≤ 3072) (hx : p.tables.exec = Jvm.exec) (hb : c.code = code) (hr : meth.sig.returnType = ret) (hml : c.maxLocals = 7) (hown : s.vm.findClass R_law = some m.cls) (hA : ∀ w ∈ AL, w.before #[Value.ref b] s = true) (hXs : va_X b L xs s s.heap) (hbl : b < s.heap.size) (hlocks : meth.locks = false) {dC : Nat → ClassId} {dI : Nat → Nat → Nat} {dA : Nat → ClassId} {sz : Nat} (hE : en dC dI dA sz s) (hsz : sz = s.heap.size) (hbA : ¬ ty_A sz b) (X : va_W) (q1 q12 q25 : Nat) (n : Nat) (ih : LJ p l e s m below meth c b dC dI dA sz X q1 q12 q25 n) (i : Int32) (Γ : ty_G) (g : gh) (kc ks : Nat) (H : Heap) (locs : List Loc) (ls : Array Slot) (hm : (3073 - i.toInt : Int) < (n + 1 : Nat)) (hi0 : 0 ≤ i.toInt ∧ i.toInt ≤ 3072) (hi1 : g 1 0 = g 33 0 ∧ 0 ≤ g 1 0 ∧ g 1 0 ≤ 6) (hi2 : g 2 0 = g 34 0 ∧ 0 ≤ g 2 0 ∧ g 2 0 ≤ 10) (hi3 : g 3 0 = g 35 0 ∧ 0 ≤ g 3 0 ∧ g 3 0 ≤ 200) (hi4 : 0 ≤ g 5 0 ∧ g 5 0 ≤ 52) (hi5 : 0 ≤ g 4 0 ∧ g 4 0 ≤ i.toInt) (hi6 : 0 ≤ g 6 0 ∧ g 6 0 ≤ 300) (hi7 : 0 ≤ g 7 0 ∧ g 7 0 ≤ g 36 0 ∧ g 36 0 ≤ 9) (hi8 : g 101 0 = g 1 0) (hi9 : g 104 0 = g 2 0) (hi10 : g 112 0 = g 5 0) (hi11 : g 111 0 = g 4 0) (hi12 : g 114 0 = g 6 0) (hi13 : 0 ≤ g 126 0 ∧ g 126 0 ≤ 200) (hi14 : 0 ≤ g 122 0 ∧ g 122 0 ≤ 30) (hi15 : g 14 0 = g 121 0) (hi16 : g 18 0 = g 118 0) (hIJ : IJ g) (hTE : pz_t g = g 19) (hU : Un Γ) (t_q1 : ty Γ q1 1) (t_q12 : ty Γ q12 30) (t_q25 : ty Γ q25 25) (hkc : kc ≤ 300 + i.toInt.toNat) (hks : ks ≤ 30000 + 28 * i.toInt.toNat) (hG : ty_ok (dC, dI) vwCl Γ (TP dA Γ g) sz X H) (hS : va_S (ty_A sz) s.heap H locs) (hl : lv_has ls 7 [(4, .int i), (3, .ref q25), (2, .ref q12), (1, .ref q1), (0, .ref b)]) (hiL : i.toInt + 6 ≤ (L : Int)) : W p l e room_1 s m #[Value.ref b] below meth c H locs kc ks (lw_Z below #[Value.ref b] s) (F0 m 152 ls []) := by
  refine lv_aload_n hx hb dL_law_152 rfl (lv_at hl 3 rfl) ?_
  refine lv_aload_n hx hb dL_law_153 rfl (lv_at hl 4 rfl) ?_
  refine lv_iload hx hb dL_law_154 (lv_at hl 0 rfl) ?_
  refine ty_iconst hx hb (1) dL_law_156 (by decide) (fun x101 h102 => ?_)
  refine ty_iadd hx hb dL_law_157 (fun x103 h104 => ?_)
  have h105 := lw_ix (k := 1) h102 h104 hi0 hiL hLN (by decide)
  refine va_sld hx hb hXs hbl hbA hS (i := x103) (ty_ix h105.2) dL_law_158 ?_
  refine W.eq (g2 := F0 m 159 ls [.int (xs (i.toInt.toNat + 1)), .ref q1]) (by rw [lw_xs (xs := xs) h105.1 hi0.1]) ?_
  clear h105 h104 h102
  refine lv_topi (fun x106 s107 => ?_)
  refine lv_aload_n hx hb dL_law_159 rfl (lv_at hl 4 rfl) ?_
  refine lv_iload hx hb dL_law_160 (lv_at hl 0 rfl) ?_
  refine ty_iconst hx hb (2) dL_law_162 (by decide) (fun x108 h109 => ?_)
  refine ty_iadd hx hb dL_law_163 (fun x110 h111 => ?_)
  have h112 := lw_ix (k := 2) h109 h111 hi0 hiL hLN (by decide)
  refine va_sld hx hb hXs hbl hbA hS (i := x110) (ty_ix h112.2) dL_law_164 ?_
  refine W.eq (g2 := F0 m 165 ls [.int (xs (i.toInt.toNat + 2)), .int x106, .ref q1]) (by rw [lw_xs (xs := xs) h112.1 hi0.1]) ?_
  clear h112 h111 h109
  refine lv_topi (fun x113 s114 => ?_)
  refine cIB (va_runV (C := RX8) (As := [.int x106, .int x113]) (rest := []) ⟨hx, hb, hml, hown, hA⟩ (k_X8_flat l dC dI dA sz X Γ hU g q1 t_q1 x106 x113   (by first | with_reducible assumption | omega)) ⟨callB_of 2 hA (al_A wd_1_200) rfl rfl rfl (hA _ wd_1_1) (hA _ wd_1_197) (by decide +kernel) ⟨Nat.le_of_ble_eq_true rfl, Nat.le_of_ble_eq_true rfl⟩, hA _ wd_1_198, hA _ wd_1_199⟩ ⟨bl, recv_X8 hE hG t_q1, fun U hU9 hW9 => ⟨rfl, by rw [hU9]; exact hG, hE.go hS hU9 hW9⟩⟩ rfl rfl hl.1 rfl (lv_room (Nat.le_of_ble_eq_true rfl)) dL_law_165 ⟨(Nat.le_trans (show kc + 4 ≤ 300000 by omega) (Nat.le_of_ble_eq_true rfl)), (Nat.le_trans (show ks + 165 ≤ 300000 by omega) (Nat.le_of_ble_eq_true rfl))⟩) hS (fun x117 u115 H locs w116 hG hS => ?_)
  obtain ⟨Γ118, g119⟩ := u115
  dsimp only at w116 hG
  obtain ⟨hx120, hU, hf121, w122⟩ := w116
  have hj124 : IJ g119 := IJ_cg (hf121 126 0 (by decide) (by decide)) (fun j => hf121 132 j (by decide) (by decide)) (fun j => hf121 134 j (by decide) (by decide)) (by (repeat (first | with_reducible assumption | (refine IJ_c (by decide) (by decide) (by decide) ?_) | (refine IJ_take (by omega) (by omega) ?_) | (refine IJ_how (by omega) ?_) | (refine IJ_by (by omega) ?_))))
  have hX125 : ext Γ Γ118 := ext.trans ext.rf hx120
  replace t_q25 : ty Γ118 q25 25 := hx120.one t_q25 (by decide)
  replace t_q12 : ty Γ118 q12 30 := hx120.one t_q12 (by decide)
  replace t_q1 : ty Γ118 q1 1 := hx120.one t_q1 (by decide)
  replace w122 := or2 w122.1 w122.2 (by exact Classical.em _)
  rcases w122 with w122 | w122
  · skip
    refine lv_pop hx hb dL_law_168 rfl ?_
    refine lv_aload_n hx hb dL_law_169 rfl (lv_at hl 2 rfl) ?_
    refine lv_aload_n hx hb dL_law_170 rfl (lv_at hl 4 rfl) ?_
    refine lv_iload hx hb dL_law_171 (lv_at hl 0 rfl) ?_
    refine ty_iconst hx hb (1) dL_law_173 (by decide) (fun x126 h127 => ?_)
    refine ty_iadd hx hb dL_law_174 (fun x128 h129 => ?_)
    have h130 := lw_ix (k := 1) h127 h129 hi0 hiL hLN (by decide)
    refine va_sld hx hb hXs hbl hbA hS (i := x128) (ty_ix h130.2) dL_law_175 ?_
    refine W.eq (g2 := F0 m 176 ls [.int (xs (i.toInt.toNat + 1)), .ref q12]) (by rw [lw_xs (xs := xs) h130.1 hi0.1]) ?_
    clear h130 h129 h127
    refine W.eq (g2 := F0 m 176 ls [.int x106, .ref q12]) (by rw [s107]) ?_
    refine lv_aload_n hx hb dL_law_176 rfl (lv_at hl 4 rfl) ?_
    refine lv_iload hx hb dL_law_177 (lv_at hl 0 rfl) ?_
    refine ty_iconst hx hb (2) dL_law_179 (by decide) (fun x131 h132 => ?_)
    refine ty_iadd hx hb dL_law_180 (fun x133 h134 => ?_)
    have h135 := lw_ix (k := 2) h132 h134 hi0 hiL hLN (by decide)
    refine va_sld hx hb hXs hbl hbA hS (i := x133) (ty_ix h135.2) dL_law_181 ?_
    refine W.eq (g2 := F0 m 182 ls [.int (xs (i.toInt.toNat + 2)), .int x106, .ref q12]) (by rw [lw_xs (xs := xs) h135.1 hi0.1]) ?_
    clear h135 h134 h132
    refine W.eq (g2 := F0 m 182 ls [.int x113, .int x106, .ref q12]) (by rw [s114]) ?_
    have hk136 : g119 101 0 = g 101 0 := hf121 101 0 (by decide) (by decide)
    refine cI (va_runV (C := RX9) (As := [.int x106, .int x113]) (rest := []) ⟨hx, hb, hml, hown, hA⟩ (k_X9_flat l dC dI dA sz X Γ118 hU g119 q12 t_q12 x106 x113   (by first | with_reducible assumption | omega)) ⟨callB_of 2 hA (al_A wd_5_35) rfl rfl rfl (hA _ wd_1_7) (hA _ wd_5_32) (by decide +kernel) ⟨Nat.le_of_ble_eq_true rfl, Nat.le_of_ble_eq_true rfl⟩, hA _ wd_5_33, hA _ wd_5_34⟩ ⟨bl, recv_X9 hE hG t_q12, fun U hU9 hW9 => ⟨rfl, by rw [hU9]; exact hG, hE.go hS hU9 hW9⟩⟩ rfl rfl hl.1 rfl (lv_room (Nat.le_of_ble_eq_true rfl)) dL_law_182 ⟨(Nat.le_trans (show (kc + 4) + 0 ≤ 300000 by omega) (Nat.le_of_ble_eq_true rfl)), (Nat.le_trans (show (ks + 165) + 0 ≤ 300000 by omega) (Nat.le_of_ble_eq_true rfl))⟩) hS (fun x139 u137 H locs w138 hG hS => ?_)
    obtain ⟨hf140, w138⟩ := w138
    have hj141 : IJ u137 := IJ_cg (hf140 126 0 (by decide) (by decide) (by decide) (by decide)) (fun j => hf140 132 j (by decide) (by decide) (by decide) (by decide)) (fun j => hf140 134 j (by decide) (by decide) (by decide) (by decide)) (by (repeat (first | with_reducible assumption | (refine IJ_c (by decide) (by decide) (by decide) ?_) | (refine IJ_take (by omega) (by omega) ?_) | (refine IJ_how (by omega) ?_) | (refine IJ_by (by omega) ?_))))
    replace w138 := or2 w138.1 w138.2 (by exact Classical.em _)
    rcases w138 with w138 | w138
    · skip
      refine lv_pop hx hb dL_law_185 rfl ?_
      refine lv_goto (tgt := 1047) hx hb dL_law_186 (by decide) ?_
      obtain ⟨x142, h143⟩ : ∃ y : Int32, y = i + Int32.ofInt (6) := ⟨_, rfl⟩
      try have h144 : x142.toInt = i.toInt + (6) := ty_inc h143 (by decide) (by omega) (by omega)
      refine lv_iinc (v := x142) (lv' := [(4, .int x142), (3, .ref q25), (2, .ref q12), (1, .ref q1), (0, .ref b)]) hx hb dL_law_1047 hl (k := 0) rfl h143.symm (by decide) rfl (fun ls hl => ?_)
      refine lv_goto (tgt := 23) hx hb dL_law_1050 (by decide) ?_
      have hk145 : u137 1 0 = g119 1 0 := hf140 1 0 (by decide) (by decide) (by decide) (by decide)
      have hk146 : u137 4 0 = g119 4 0 := hf140 4 0 (by decide) (by decide) (by decide) (by decide)
      have hk147 : g119 4 0 = g 4 0 := hf121 4 0 (by decide) (by decide)
      have hk148 : u137 33 0 = g119 33 0 := hf140 33 0 (by decide) (by decide) (by decide) (by decide)
      exact ih x142 Γ118 u137 ((kc + 4)) ((ks + 165)) _ _ ls (by omega) (by omega) (by omega) (by rw [hf140 2 0 (by decide) (by decide) (by decide) (by decide), hf121 2 0 (by decide) (by decide), hf140 34 0 (by decide) (by decide) (by decide) (by decide), hf121 34 0 (by decide) (by decide)]; exact hi2) (by rw [hf140 3 0 (by decide) (by decide) (by decide) (by decide), hf121 3 0 (by decide) (by decide), hf140 35 0 (by decide) (by decide) (by decide) (by decide), hf121 35 0 (by decide) (by decide)]; exact hi3) (by rw [hf140 5 0 (by decide) (by decide) (by decide) (by decide), hf121 5 0 (by decide) (by decide)]; exact hi4) (by omega) (by rw [hf140 6 0 (by decide) (by decide) (by decide) (by decide), hf121 6 0 (by decide) (by decide)]; exact hi6) (by rw [hf140 7 0 (by decide) (by decide) (by decide) (by decide), hf121 7 0 (by decide) (by decide), hf140 36 0 (by decide) (by decide) (by decide) (by decide), hf121 36 0 (by decide) (by decide)]; exact hi7) (by omega) (by rw [hf140 104 0 (by decide) (by decide) (by decide) (by decide), hf121 104 0 (by decide) (by decide), hf140 2 0 (by decide) (by decide) (by decide) (by decide), hf121 2 0 (by decide) (by decide)]; exact hi9) (by rw [hf140 112 0 (by decide) (by decide) (by decide) (by decide), hf121 112 0 (by decide) (by decide), hf140 5 0 (by decide) (by decide) (by decide) (by decide), hf121 5 0 (by decide) (by decide)]; exact hi10) (by rw [hf140 111 0 (by decide) (by decide) (by decide) (by decide), hf121 111 0 (by decide) (by decide), hf140 4 0 (by decide) (by decide) (by decide) (by decide), hf121 4 0 (by decide) (by decide)]; exact hi11) (by rw [hf140 114 0 (by decide) (by decide) (by decide) (by decide), hf121 114 0 (by decide) (by decide), hf140 6 0 (by decide) (by decide) (by decide) (by decide), hf121 6 0 (by decide) (by decide)]; exact hi12) (by rw [hf140 126 0 (by decide) (by decide) (by decide) (by decide), hf121 126 0 (by decide) (by decide)]; exact hi13) (by rw [hf140 122 0 (by decide) (by decide) (by decide) (by decide), hf121 122 0 (by decide) (by decide)]; exact hi14) (by rw [hf140 14 0 (by decide) (by decide) (by decide) (by decide), hf121 14 0 (by decide) (by decide), hf140 121 0 (by decide) (by decide) (by decide) (by decide), hf121 121 0 (by decide) (by decide)]; exact hi15) (by rw [hf140 18 0 (by decide) (by decide) (by decide) (by decide), hf121 18 0 (by decide) (by decide), hf140 118 0 (by decide) (by decide) (by decide) (by decide), hf121 118 0 (by decide) (by decide)]; exact hi16) (by (repeat (first | with_reducible assumption | (refine IJ_c (by decide) (by decide) (by decide) ?_) | (refine IJ_take (by omega) (by omega) ?_) | (refine IJ_how (by omega) ?_) | (refine IJ_by (by omega) ?_)))) (funext fun j => by show u137 113 j % 256 = u137 19 j; rw [hf140 113 j (by decide) (by decide) (by decide) (by decide), hf121 113 j (by decide) (by decide), hf140 19 j (by decide) (by decide) (by decide) (by decide), hf121 19 j (by decide) (by decide)]; exact congrFun hTE j) hU t_q1 t_q12 t_q25 (by omega) (by omega) hG hS (lv_sub hl [0, 1, 2, 3, 4] rfl)
    · exfalso; omega
  · skip
    refine lv_pop hx hb dL_law_168 rfl ?_
    refine lv_aload_n hx hb dL_law_169 rfl (lv_at hl 2 rfl) ?_
    refine lv_aload_n hx hb dL_law_170 rfl (lv_at hl 4 rfl) ?_
    refine lv_iload hx hb dL_law_171 (lv_at hl 0 rfl) ?_
    refine ty_iconst hx hb (1) dL_law_173 (by decide) (fun x149 h150 => ?_)
    refine ty_iadd hx hb dL_law_174 (fun x151 h152 => ?_)
    have h153 := lw_ix (k := 1) h150 h152 hi0 hiL hLN (by decide)
    refine va_sld hx hb hXs hbl hbA hS (i := x151) (ty_ix h153.2) dL_law_175 ?_
    refine W.eq (g2 := F0 m 176 ls [.int (xs (i.toInt.toNat + 1)), .ref q12]) (by rw [lw_xs (xs := xs) h153.1 hi0.1]) ?_
    clear h153 h152 h150
    refine W.eq (g2 := F0 m 176 ls [.int x106, .ref q12]) (by rw [s107]) ?_
    refine lv_aload_n hx hb dL_law_176 rfl (lv_at hl 4 rfl) ?_
    refine lv_iload hx hb dL_law_177 (lv_at hl 0 rfl) ?_
    refine ty_iconst hx hb (2) dL_law_179 (by decide) (fun x154 h155 => ?_)
    refine ty_iadd hx hb dL_law_180 (fun x156 h157 => ?_)
    have h158 := lw_ix (k := 2) h155 h157 hi0 hiL hLN (by decide)
    refine va_sld hx hb hXs hbl hbA hS (i := x156) (ty_ix h158.2) dL_law_181 ?_
    refine W.eq (g2 := F0 m 182 ls [.int (xs (i.toInt.toNat + 2)), .int x106, .ref q12]) (by rw [lw_xs (xs := xs) h158.1 hi0.1]) ?_
    clear h158 h157 h155
    refine W.eq (g2 := F0 m 182 ls [.int x113, .int x106, .ref q12]) (by rw [s114]) ?_
    have hk159 : g119 101 0 = g 101 0 := hf121 101 0 (by decide) (by decide)
    refine cI (va_runV (C := RX9) (As := [.int x106, .int x113]) (rest := []) ⟨hx, hb, hml, hown, hA⟩ (k_X9_flat l dC dI dA sz X Γ118 hU g119 q12 t_q12 x106 x113   (by first | with_reducible assumption | omega)) ⟨callB_of 2 hA (al_A wd_5_35) rfl rfl rfl (hA _ wd_1_7) (hA _ wd_5_32) (by decide +kernel) ⟨Nat.le_of_ble_eq_true rfl, Nat.le_of_ble_eq_true rfl⟩, hA _ wd_5_33, hA _ wd_5_34⟩ ⟨bl, recv_X9 hE hG t_q12, fun U hU9 hW9 => ⟨rfl, by rw [hU9]; exact hG, hE.go hS hU9 hW9⟩⟩ rfl rfl hl.1 rfl (lv_room (Nat.le_of_ble_eq_true rfl)) dL_law_182 ⟨(Nat.le_trans (show (kc + 4) + 0 ≤ 300000 by omega) (Nat.le_of_ble_eq_true rfl)), (Nat.le_trans (show (ks + 165) + 0 ≤ 300000 by omega) (Nat.le_of_ble_eq_true rfl))⟩) hS (fun x162 u160 H locs w161 hG hS => ?_)
    obtain ⟨hf163, w161⟩ := w161
    have hj164 : IJ u160 := IJ_cg (hf163 126 0 (by decide) (by decide) (by decide) (by decide)) (fun j => hf163 132 j (by decide) (by decide) (by decide) (by decide)) (fun j => hf163 134 j (by decide) (by decide) (by decide) (by decide)) (by (repeat (first | with_reducible assumption | (refine IJ_c (by decide) (by decide) (by decide) ?_) | (refine IJ_take (by omega) (by omega) ?_) | (refine IJ_how (by omega) ?_) | (refine IJ_by (by omega) ?_))))
    replace w161 := or2 w161.1 w161.2 (by exact Classical.em _)
    rcases w161 with w161 | w161
    · exfalso; omega
    · skip
      refine lv_pop hx hb dL_law_185 rfl ?_
      refine lv_goto (tgt := 1047) hx hb dL_law_186 (by decide) ?_
      obtain ⟨x165, h166⟩ : ∃ y : Int32, y = i + Int32.ofInt (6) := ⟨_, rfl⟩
      try have h167 : x165.toInt = i.toInt + (6) := ty_inc h166 (by decide) (by omega) (by omega)
      refine lv_iinc (v := x165) (lv' := [(4, .int x165), (3, .ref q25), (2, .ref q12), (1, .ref q1), (0, .ref b)]) hx hb dL_law_1047 hl (k := 0) rfl h166.symm (by decide) rfl (fun ls hl => ?_)
      refine lv_goto (tgt := 23) hx hb dL_law_1050 (by decide) ?_
      have hk168 : u160 1 0 = g119 1 0 := hf163 1 0 (by decide) (by decide) (by decide) (by decide)
      have hk169 : u160 4 0 = g119 4 0 := hf163 4 0 (by decide) (by decide) (by decide) (by decide)
      have hk170 : g119 4 0 = g 4 0 := hf121 4 0 (by decide) (by decide)
      have hk171 : u160 33 0 = g119 33 0 := hf163 33 0 (by decide) (by decide) (by decide) (by decide)
      exact ih x165 Γ118 u160 ((kc + 4)) ((ks + 165)) _ _ ls (by omega) (by omega) (by omega) (by rw [hf163 2 0 (by decide) (by decide) (by decide) (by decide), hf121 2 0 (by decide) (by decide), hf163 34 0 (by decide) (by decide) (by decide) (by decide), hf121 34 0 (by decide) (by decide)]; exact hi2) (by rw [hf163 3 0 (by decide) (by decide) (by decide) (by decide), hf121 3 0 (by decide) (by decide), hf163 35 0 (by decide) (by decide) (by decide) (by decide), hf121 35 0 (by decide) (by decide)]; exact hi3) (by rw [hf163 5 0 (by decide) (by decide) (by decide) (by decide), hf121 5 0 (by decide) (by decide)]; exact hi4) (by omega) (by rw [hf163 6 0 (by decide) (by decide) (by decide) (by decide), hf121 6 0 (by decide) (by decide)]; exact hi6) (by rw [hf163 7 0 (by decide) (by decide) (by decide) (by decide), hf121 7 0 (by decide) (by decide), hf163 36 0 (by decide) (by decide) (by decide) (by decide), hf121 36 0 (by decide) (by decide)]; exact hi7) (by omega) (by rw [hf163 104 0 (by decide) (by decide) (by decide) (by decide), hf121 104 0 (by decide) (by decide), hf163 2 0 (by decide) (by decide) (by decide) (by decide), hf121 2 0 (by decide) (by decide)]; exact hi9) (by rw [hf163 112 0 (by decide) (by decide) (by decide) (by decide), hf121 112 0 (by decide) (by decide), hf163 5 0 (by decide) (by decide) (by decide) (by decide), hf121 5 0 (by decide) (by decide)]; exact hi10) (by rw [hf163 111 0 (by decide) (by decide) (by decide) (by decide), hf121 111 0 (by decide) (by decide), hf163 4 0 (by decide) (by decide) (by decide) (by decide), hf121 4 0 (by decide) (by decide)]; exact hi11) (by rw [hf163 114 0 (by decide) (by decide) (by decide) (by decide), hf121 114 0 (by decide) (by decide), hf163 6 0 (by decide) (by decide) (by decide) (by decide), hf121 6 0 (by decide) (by decide)]; exact hi12) (by rw [hf163 126 0 (by decide) (by decide) (by decide) (by decide), hf121 126 0 (by decide) (by decide)]; exact hi13) (by rw [hf163 122 0 (by decide) (by decide) (by decide) (by decide), hf121 122 0 (by decide) (by decide)]; exact hi14) (by rw [hf163 14 0 (by decide) (by decide) (by decide) (by decide), hf121 14 0 (by decide) (by decide), hf163 121 0 (by decide) (by decide) (by decide) (by decide), hf121 121 0 (by decide) (by decide)]; exact hi15) (by rw [hf163 18 0 (by decide) (by decide) (by decide) (by decide), hf121 18 0 (by decide) (by decide), hf163 118 0 (by decide) (by decide) (by decide) (by decide), hf121 118 0 (by decide) (by decide)]; exact hi16) (by (repeat (first | with_reducible assumption | (refine IJ_c (by decide) (by decide) (by decide) ?_) | (refine IJ_take (by omega) (by omega) ?_) | (refine IJ_how (by omega) ?_) | (refine IJ_by (by omega) ?_)))) (funext fun j => by show u160 113 j % 256 = u160 19 j; rw [hf163 113 j (by decide) (by decide) (by decide) (by decide), hf121 113 j (by decide) (by decide), hf163 19 j (by decide) (by decide) (by decide) (by decide), hf121 19 j (by decide) (by decide)]; exact congrFun hTE j) hU t_q1 t_q12 t_q25 (by omega) (by omega) hG hS (lv_sub hl [0, 1, 2, 3, 4] rfl)
set_option maxHeartbeats 40000000 in
set_option maxRecDepth 100000 in
/-- the law's case 1 -/
theorem law_c1 {p : Program} {e : Env} {s : State} {m : MethodId} {below : List Frame} {meth : Method} {c : Code} (l : Launch) (hl9 : l.stackTraces = false) {b L : Nat} {xs : Nat → Int32} (hLN : L ≤ 3072) (hx : p.tables.exec = Jvm.exec) (hb : c.code = code) (hr : meth.sig.returnType = ret) (hml : c.maxLocals = 7) (hown : s.vm.findClass R_law = some m.cls) (hA : ∀ w ∈ AL, w.before #[Value.ref b] s = true) (hXs : va_X b L xs s s.heap) (hbl : b < s.heap.size) (hlocks : meth.locks = false) {dC : Nat → ClassId} {dI : Nat → Nat → Nat} {dA : Nat → ClassId} {sz : Nat} (hE : en dC dI dA sz s) (hsz : sz = s.heap.size) (hbA : ¬ ty_A sz b) (X : va_W) (q1 q12 q25 : Nat) (n : Nat) (ih : LJ p l e s m below meth c b dC dI dA sz X q1 q12 q25 n) (i : Int32) (Γ : ty_G) (g : gh) (kc ks : Nat) (H : Heap) (locs : List Loc) (ls : Array Slot) (hm : (3073 - i.toInt : Int) < (n + 1 : Nat)) (hi0 : 0 ≤ i.toInt ∧ i.toInt ≤ 3072) (hi1 : g 1 0 = g 33 0 ∧ 0 ≤ g 1 0 ∧ g 1 0 ≤ 6) (hi2 : g 2 0 = g 34 0 ∧ 0 ≤ g 2 0 ∧ g 2 0 ≤ 10) (hi3 : g 3 0 = g 35 0 ∧ 0 ≤ g 3 0 ∧ g 3 0 ≤ 200) (hi4 : 0 ≤ g 5 0 ∧ g 5 0 ≤ 52) (hi5 : 0 ≤ g 4 0 ∧ g 4 0 ≤ i.toInt) (hi6 : 0 ≤ g 6 0 ∧ g 6 0 ≤ 300) (hi7 : 0 ≤ g 7 0 ∧ g 7 0 ≤ g 36 0 ∧ g 36 0 ≤ 9) (hi8 : g 101 0 = g 1 0) (hi9 : g 104 0 = g 2 0) (hi10 : g 112 0 = g 5 0) (hi11 : g 111 0 = g 4 0) (hi12 : g 114 0 = g 6 0) (hi13 : 0 ≤ g 126 0 ∧ g 126 0 ≤ 200) (hi14 : 0 ≤ g 122 0 ∧ g 122 0 ≤ 30) (hi15 : g 14 0 = g 121 0) (hi16 : g 18 0 = g 118 0) (hIJ : IJ g) (hTE : pz_t g = g 19) (hU : Un Γ) (t_q1 : ty Γ q1 1) (t_q12 : ty Γ q12 30) (t_q25 : ty Γ q25 25) (hkc : kc ≤ 300 + i.toInt.toNat) (hks : ks ≤ 30000 + 28 * i.toInt.toNat) (hG : ty_ok (dC, dI) vwCl Γ (TP dA Γ g) sz X H) (hS : va_S (ty_A sz) s.heap H locs) (hl : lv_has ls 7 [(4, .int i), (3, .ref q25), (2, .ref q12), (1, .ref q1), (0, .ref b)]) (hiL : i.toInt + 6 ≤ (L : Int)) : W p l e room_1 s m #[Value.ref b] below meth c H locs kc ks (lw_Z below #[Value.ref b] s) (F0 m 189 ls []) := by
  refine lv_aload_n hx hb dL_law_189 rfl (lv_at hl 3 rfl) ?_
  refine lv_aload_n hx hb dL_law_190 rfl (lv_at hl 4 rfl) ?_
  refine lv_iload hx hb dL_law_191 (lv_at hl 0 rfl) ?_
  refine ty_iconst hx hb (1) dL_law_193 (by decide) (fun x172 h173 => ?_)
  refine ty_iadd hx hb dL_law_194 (fun x174 h175 => ?_)
  have h176 := lw_ix (k := 1) h173 h175 hi0 hiL hLN (by decide)
  refine va_sld hx hb hXs hbl hbA hS (i := x174) (ty_ix h176.2) dL_law_195 ?_
  refine W.eq (g2 := F0 m 196 ls [.int (xs (i.toInt.toNat + 1)), .ref q1]) (by rw [lw_xs (xs := xs) h176.1 hi0.1]) ?_
  clear h176 h175 h173
  refine lv_topi (fun x177 s178 => ?_)
  refine cIB (va_runV (C := RX8) (As := [.int x177]) (rest := []) ⟨hx, hb, hml, hown, hA⟩ (k_X8_owner l dC dI dA sz X Γ hU g q1 t_q1 x177   (by first | with_reducible assumption | omega)) ⟨callB_of 1 hA (al_A wd_2_0) rfl rfl rfl (hA _ wd_1_1) (hA _ wd_1_237) (by decide +kernel) ⟨Nat.le_of_ble_eq_true rfl, Nat.le_of_ble_eq_true rfl⟩, hA _ wd_1_238, hA _ wd_1_239⟩ ⟨bl, recv_X8 hE hG t_q1, fun U hU9 hW9 => ⟨rfl, by rw [hU9]; exact hG, hE.go hS hU9 hW9⟩⟩ rfl rfl hl.1 rfl (lv_room (Nat.le_of_ble_eq_true rfl)) dL_law_196 ⟨(Nat.le_trans (show kc + 1 ≤ 300000 by omega) (Nat.le_of_ble_eq_true rfl)), (Nat.le_trans (show ks + 8 ≤ 300000 by omega) (Nat.le_of_ble_eq_true rfl))⟩) hS (fun x181 u179 H locs w180 hG hS => ?_)
  obtain ⟨Γ182, g183⟩ := u179
  dsimp only at w180 hG
  obtain ⟨hx184, hU, hf185, w186⟩ := w180
  have hj188 : IJ g183 := IJ_cg (hf185 126 0 (by decide) (by decide)) (fun j => hf185 132 j (by decide) (by decide)) (fun j => hf185 134 j (by decide) (by decide)) (by (repeat (first | with_reducible assumption | (refine IJ_c (by decide) (by decide) (by decide) ?_) | (refine IJ_take (by omega) (by omega) ?_) | (refine IJ_how (by omega) ?_) | (refine IJ_by (by omega) ?_))))
  have hX189 : ext Γ Γ182 := ext.trans ext.rf hx184
  replace t_q25 : ty Γ182 q25 25 := hx184.one t_q25 (by decide)
  replace t_q12 : ty Γ182 q12 30 := hx184.one t_q12 (by decide)
  replace t_q1 : ty Γ182 q1 1 := hx184.one t_q1 (by decide)
  replace w186 := or2 w186.1 w186.2 (by exact Classical.em _)
  rcases w186 with w186 | w186
  · skip
    refine lv_pop hx hb dL_law_199 rfl ?_
    refine lv_aload_n hx hb dL_law_200 rfl (lv_at hl 2 rfl) ?_
    refine lv_aload_n hx hb dL_law_201 rfl (lv_at hl 4 rfl) ?_
    refine lv_iload hx hb dL_law_202 (lv_at hl 0 rfl) ?_
    refine ty_iconst hx hb (1) dL_law_204 (by decide) (fun x190 h191 => ?_)
    refine ty_iadd hx hb dL_law_205 (fun x192 h193 => ?_)
    have h194 := lw_ix (k := 1) h191 h193 hi0 hiL hLN (by decide)
    refine va_sld hx hb hXs hbl hbA hS (i := x192) (ty_ix h194.2) dL_law_206 ?_
    refine W.eq (g2 := F0 m 207 ls [.int (xs (i.toInt.toNat + 1)), .ref q12]) (by rw [lw_xs (xs := xs) h194.1 hi0.1]) ?_
    clear h194 h193 h191
    refine W.eq (g2 := F0 m 207 ls [.int x177, .ref q12]) (by rw [s178]) ?_
    have hk195 : g183 104 0 = g 104 0 := hf185 104 0 (by decide) (by decide)
    refine cI (va_runV (C := RX9) (As := [.int x177]) (rest := []) ⟨hx, hb, hml, hown, hA⟩ (k_X9_owner l dC dI dA sz X Γ182 hU g183 q12 t_q12 x177   (by first | with_reducible assumption | omega)) ⟨callB_of 1 hA (al_A wd_5_42) rfl rfl rfl (hA _ wd_1_7) (hA _ wd_5_39) (by decide +kernel) ⟨Nat.le_of_ble_eq_true rfl, Nat.le_of_ble_eq_true rfl⟩, hA _ wd_5_40, hA _ wd_5_41⟩ ⟨bl, recv_X9 hE hG t_q12, fun U hU9 hW9 => ⟨rfl, by rw [hU9]; exact hG, hE.go hS hU9 hW9⟩⟩ rfl rfl hl.1 rfl (lv_room (Nat.le_of_ble_eq_true rfl)) dL_law_207 ⟨(Nat.le_trans (show (kc + 1) + 0 ≤ 300000 by omega) (Nat.le_of_ble_eq_true rfl)), (Nat.le_trans (show (ks + 8) + 0 ≤ 300000 by omega) (Nat.le_of_ble_eq_true rfl))⟩) hS (fun x198 u196 H locs w197 hG hS => ?_)
    obtain ⟨hf199, w197⟩ := w197
    have hj200 : IJ u196 := IJ_cg (hf199 126 0 (by decide) (by decide) (by decide)) (fun j => hf199 132 j (by decide) (by decide) (by decide)) (fun j => hf199 134 j (by decide) (by decide) (by decide)) (by (repeat (first | with_reducible assumption | (refine IJ_c (by decide) (by decide) (by decide) ?_) | (refine IJ_take (by omega) (by omega) ?_) | (refine IJ_how (by omega) ?_) | (refine IJ_by (by omega) ?_))))
    replace w197 := or2 w197.1 w197.2 (by exact Classical.em _)
    rcases w197 with w197 | w197
    · skip
      refine lv_pop hx hb dL_law_210 rfl ?_
      refine lv_goto (tgt := 1047) hx hb dL_law_211 (by decide) ?_
      obtain ⟨x201, h202⟩ : ∃ y : Int32, y = i + Int32.ofInt (6) := ⟨_, rfl⟩
      try have h203 : x201.toInt = i.toInt + (6) := ty_inc h202 (by decide) (by omega) (by omega)
      refine lv_iinc (v := x201) (lv' := [(4, .int x201), (3, .ref q25), (2, .ref q12), (1, .ref q1), (0, .ref b)]) hx hb dL_law_1047 hl (k := 0) rfl h202.symm (by decide) rfl (fun ls hl => ?_)
      refine lv_goto (tgt := 23) hx hb dL_law_1050 (by decide) ?_
      have hk204 : u196 2 0 = g183 2 0 := hf199 2 0 (by decide) (by decide) (by decide)
      have hk205 : u196 4 0 = g183 4 0 := hf199 4 0 (by decide) (by decide) (by decide)
      have hk206 : g183 4 0 = g 4 0 := hf185 4 0 (by decide) (by decide)
      have hk207 : u196 34 0 = g183 34 0 := hf199 34 0 (by decide) (by decide) (by decide)
      exact ih x201 Γ182 u196 ((kc + 1)) ((ks + 8)) _ _ ls (by omega) (by omega) (by rw [hf199 1 0 (by decide) (by decide) (by decide), hf185 1 0 (by decide) (by decide), hf199 33 0 (by decide) (by decide) (by decide), hf185 33 0 (by decide) (by decide)]; exact hi1) (by omega) (by rw [hf199 3 0 (by decide) (by decide) (by decide), hf185 3 0 (by decide) (by decide), hf199 35 0 (by decide) (by decide) (by decide), hf185 35 0 (by decide) (by decide)]; exact hi3) (by rw [hf199 5 0 (by decide) (by decide) (by decide), hf185 5 0 (by decide) (by decide)]; exact hi4) (by omega) (by rw [hf199 6 0 (by decide) (by decide) (by decide), hf185 6 0 (by decide) (by decide)]; exact hi6) (by rw [hf199 7 0 (by decide) (by decide) (by decide), hf185 7 0 (by decide) (by decide), hf199 36 0 (by decide) (by decide) (by decide), hf185 36 0 (by decide) (by decide)]; exact hi7) (by rw [hf199 101 0 (by decide) (by decide) (by decide), hf185 101 0 (by decide) (by decide), hf199 1 0 (by decide) (by decide) (by decide), hf185 1 0 (by decide) (by decide)]; exact hi8) (by omega) (by rw [hf199 112 0 (by decide) (by decide) (by decide), hf185 112 0 (by decide) (by decide), hf199 5 0 (by decide) (by decide) (by decide), hf185 5 0 (by decide) (by decide)]; exact hi10) (by rw [hf199 111 0 (by decide) (by decide) (by decide), hf185 111 0 (by decide) (by decide), hf199 4 0 (by decide) (by decide) (by decide), hf185 4 0 (by decide) (by decide)]; exact hi11) (by rw [hf199 114 0 (by decide) (by decide) (by decide), hf185 114 0 (by decide) (by decide), hf199 6 0 (by decide) (by decide) (by decide), hf185 6 0 (by decide) (by decide)]; exact hi12) (by rw [hf199 126 0 (by decide) (by decide) (by decide), hf185 126 0 (by decide) (by decide)]; exact hi13) (by rw [hf199 122 0 (by decide) (by decide) (by decide), hf185 122 0 (by decide) (by decide)]; exact hi14) (by rw [hf199 14 0 (by decide) (by decide) (by decide), hf185 14 0 (by decide) (by decide), hf199 121 0 (by decide) (by decide) (by decide), hf185 121 0 (by decide) (by decide)]; exact hi15) (by rw [hf199 18 0 (by decide) (by decide) (by decide), hf185 18 0 (by decide) (by decide), hf199 118 0 (by decide) (by decide) (by decide), hf185 118 0 (by decide) (by decide)]; exact hi16) (by (repeat (first | with_reducible assumption | (refine IJ_c (by decide) (by decide) (by decide) ?_) | (refine IJ_take (by omega) (by omega) ?_) | (refine IJ_how (by omega) ?_) | (refine IJ_by (by omega) ?_)))) (funext fun j => by show u196 113 j % 256 = u196 19 j; rw [hf199 113 j (by decide) (by decide) (by decide), hf185 113 j (by decide) (by decide), hf199 19 j (by decide) (by decide) (by decide), hf185 19 j (by decide) (by decide)]; exact congrFun hTE j) hU t_q1 t_q12 t_q25 (by omega) (by omega) hG hS (lv_sub hl [0, 1, 2, 3, 4] rfl)
    · exfalso; omega
  · skip
    refine lv_pop hx hb dL_law_199 rfl ?_
    refine lv_aload_n hx hb dL_law_200 rfl (lv_at hl 2 rfl) ?_
    refine lv_aload_n hx hb dL_law_201 rfl (lv_at hl 4 rfl) ?_
    refine lv_iload hx hb dL_law_202 (lv_at hl 0 rfl) ?_
    refine ty_iconst hx hb (1) dL_law_204 (by decide) (fun x208 h209 => ?_)
    refine ty_iadd hx hb dL_law_205 (fun x210 h211 => ?_)
    have h212 := lw_ix (k := 1) h209 h211 hi0 hiL hLN (by decide)
    refine va_sld hx hb hXs hbl hbA hS (i := x210) (ty_ix h212.2) dL_law_206 ?_
    refine W.eq (g2 := F0 m 207 ls [.int (xs (i.toInt.toNat + 1)), .ref q12]) (by rw [lw_xs (xs := xs) h212.1 hi0.1]) ?_
    clear h212 h211 h209
    refine W.eq (g2 := F0 m 207 ls [.int x177, .ref q12]) (by rw [s178]) ?_
    have hk213 : g183 104 0 = g 104 0 := hf185 104 0 (by decide) (by decide)
    refine cI (va_runV (C := RX9) (As := [.int x177]) (rest := []) ⟨hx, hb, hml, hown, hA⟩ (k_X9_owner l dC dI dA sz X Γ182 hU g183 q12 t_q12 x177   (by first | with_reducible assumption | omega)) ⟨callB_of 1 hA (al_A wd_5_42) rfl rfl rfl (hA _ wd_1_7) (hA _ wd_5_39) (by decide +kernel) ⟨Nat.le_of_ble_eq_true rfl, Nat.le_of_ble_eq_true rfl⟩, hA _ wd_5_40, hA _ wd_5_41⟩ ⟨bl, recv_X9 hE hG t_q12, fun U hU9 hW9 => ⟨rfl, by rw [hU9]; exact hG, hE.go hS hU9 hW9⟩⟩ rfl rfl hl.1 rfl (lv_room (Nat.le_of_ble_eq_true rfl)) dL_law_207 ⟨(Nat.le_trans (show (kc + 1) + 0 ≤ 300000 by omega) (Nat.le_of_ble_eq_true rfl)), (Nat.le_trans (show (ks + 8) + 0 ≤ 300000 by omega) (Nat.le_of_ble_eq_true rfl))⟩) hS (fun x216 u214 H locs w215 hG hS => ?_)
    obtain ⟨hf217, w215⟩ := w215
    have hj218 : IJ u214 := IJ_cg (hf217 126 0 (by decide) (by decide) (by decide)) (fun j => hf217 132 j (by decide) (by decide) (by decide)) (fun j => hf217 134 j (by decide) (by decide) (by decide)) (by (repeat (first | with_reducible assumption | (refine IJ_c (by decide) (by decide) (by decide) ?_) | (refine IJ_take (by omega) (by omega) ?_) | (refine IJ_how (by omega) ?_) | (refine IJ_by (by omega) ?_))))
    replace w215 := or2 w215.1 w215.2 (by exact Classical.em _)
    rcases w215 with w215 | w215
    · exfalso; omega
    · skip
      refine lv_pop hx hb dL_law_210 rfl ?_
      refine lv_goto (tgt := 1047) hx hb dL_law_211 (by decide) ?_
      obtain ⟨x219, h220⟩ : ∃ y : Int32, y = i + Int32.ofInt (6) := ⟨_, rfl⟩
      try have h221 : x219.toInt = i.toInt + (6) := ty_inc h220 (by decide) (by omega) (by omega)
      refine lv_iinc (v := x219) (lv' := [(4, .int x219), (3, .ref q25), (2, .ref q12), (1, .ref q1), (0, .ref b)]) hx hb dL_law_1047 hl (k := 0) rfl h220.symm (by decide) rfl (fun ls hl => ?_)
      refine lv_goto (tgt := 23) hx hb dL_law_1050 (by decide) ?_
      have hk222 : u214 2 0 = g183 2 0 := hf217 2 0 (by decide) (by decide) (by decide)
      have hk223 : u214 4 0 = g183 4 0 := hf217 4 0 (by decide) (by decide) (by decide)
      have hk224 : g183 4 0 = g 4 0 := hf185 4 0 (by decide) (by decide)
      have hk225 : u214 34 0 = g183 34 0 := hf217 34 0 (by decide) (by decide) (by decide)
      exact ih x219 Γ182 u214 ((kc + 1)) ((ks + 8)) _ _ ls (by omega) (by omega) (by rw [hf217 1 0 (by decide) (by decide) (by decide), hf185 1 0 (by decide) (by decide), hf217 33 0 (by decide) (by decide) (by decide), hf185 33 0 (by decide) (by decide)]; exact hi1) (by omega) (by rw [hf217 3 0 (by decide) (by decide) (by decide), hf185 3 0 (by decide) (by decide), hf217 35 0 (by decide) (by decide) (by decide), hf185 35 0 (by decide) (by decide)]; exact hi3) (by rw [hf217 5 0 (by decide) (by decide) (by decide), hf185 5 0 (by decide) (by decide)]; exact hi4) (by omega) (by rw [hf217 6 0 (by decide) (by decide) (by decide), hf185 6 0 (by decide) (by decide)]; exact hi6) (by rw [hf217 7 0 (by decide) (by decide) (by decide), hf185 7 0 (by decide) (by decide), hf217 36 0 (by decide) (by decide) (by decide), hf185 36 0 (by decide) (by decide)]; exact hi7) (by rw [hf217 101 0 (by decide) (by decide) (by decide), hf185 101 0 (by decide) (by decide), hf217 1 0 (by decide) (by decide) (by decide), hf185 1 0 (by decide) (by decide)]; exact hi8) (by omega) (by rw [hf217 112 0 (by decide) (by decide) (by decide), hf185 112 0 (by decide) (by decide), hf217 5 0 (by decide) (by decide) (by decide), hf185 5 0 (by decide) (by decide)]; exact hi10) (by rw [hf217 111 0 (by decide) (by decide) (by decide), hf185 111 0 (by decide) (by decide), hf217 4 0 (by decide) (by decide) (by decide), hf185 4 0 (by decide) (by decide)]; exact hi11) (by rw [hf217 114 0 (by decide) (by decide) (by decide), hf185 114 0 (by decide) (by decide), hf217 6 0 (by decide) (by decide) (by decide), hf185 6 0 (by decide) (by decide)]; exact hi12) (by rw [hf217 126 0 (by decide) (by decide) (by decide), hf185 126 0 (by decide) (by decide)]; exact hi13) (by rw [hf217 122 0 (by decide) (by decide) (by decide), hf185 122 0 (by decide) (by decide)]; exact hi14) (by rw [hf217 14 0 (by decide) (by decide) (by decide), hf185 14 0 (by decide) (by decide), hf217 121 0 (by decide) (by decide) (by decide), hf185 121 0 (by decide) (by decide)]; exact hi15) (by rw [hf217 18 0 (by decide) (by decide) (by decide), hf185 18 0 (by decide) (by decide), hf217 118 0 (by decide) (by decide) (by decide), hf185 118 0 (by decide) (by decide)]; exact hi16) (by (repeat (first | with_reducible assumption | (refine IJ_c (by decide) (by decide) (by decide) ?_) | (refine IJ_take (by omega) (by omega) ?_) | (refine IJ_how (by omega) ?_) | (refine IJ_by (by omega) ?_)))) (funext fun j => by show u214 113 j % 256 = u214 19 j; rw [hf217 113 j (by decide) (by decide) (by decide), hf185 113 j (by decide) (by decide), hf217 19 j (by decide) (by decide) (by decide), hf185 19 j (by decide) (by decide)]; exact congrFun hTE j) hU t_q1 t_q12 t_q25 (by omega) (by omega) hG hS (lv_sub hl [0, 1, 2, 3, 4] rfl)
set_option maxHeartbeats 40000000 in
set_option maxRecDepth 100000 in
/-- the law's case 2 -/
theorem law_c2 {p : Program} {e : Env} {s : State} {m : MethodId} {below : List Frame} {meth : Method} {c : Code} (l : Launch) (hl9 : l.stackTraces = false) {b L : Nat} {xs : Nat → Int32} (hLN : L ≤ 3072) (hx : p.tables.exec = Jvm.exec) (hb : c.code = code) (hr : meth.sig.returnType = ret) (hml : c.maxLocals = 7) (hown : s.vm.findClass R_law = some m.cls) (hA : ∀ w ∈ AL, w.before #[Value.ref b] s = true) (hXs : va_X b L xs s s.heap) (hbl : b < s.heap.size) (hlocks : meth.locks = false) {dC : Nat → ClassId} {dI : Nat → Nat → Nat} {dA : Nat → ClassId} {sz : Nat} (hE : en dC dI dA sz s) (hsz : sz = s.heap.size) (hbA : ¬ ty_A sz b) (X : va_W) (q1 q12 q25 : Nat) (n : Nat) (ih : LJ p l e s m below meth c b dC dI dA sz X q1 q12 q25 n) (i : Int32) (Γ : ty_G) (g : gh) (kc ks : Nat) (H : Heap) (locs : List Loc) (ls : Array Slot) (hm : (3073 - i.toInt : Int) < (n + 1 : Nat)) (hi0 : 0 ≤ i.toInt ∧ i.toInt ≤ 3072) (hi1 : g 1 0 = g 33 0 ∧ 0 ≤ g 1 0 ∧ g 1 0 ≤ 6) (hi2 : g 2 0 = g 34 0 ∧ 0 ≤ g 2 0 ∧ g 2 0 ≤ 10) (hi3 : g 3 0 = g 35 0 ∧ 0 ≤ g 3 0 ∧ g 3 0 ≤ 200) (hi4 : 0 ≤ g 5 0 ∧ g 5 0 ≤ 52) (hi5 : 0 ≤ g 4 0 ∧ g 4 0 ≤ i.toInt) (hi6 : 0 ≤ g 6 0 ∧ g 6 0 ≤ 300) (hi7 : 0 ≤ g 7 0 ∧ g 7 0 ≤ g 36 0 ∧ g 36 0 ≤ 9) (hi8 : g 101 0 = g 1 0) (hi9 : g 104 0 = g 2 0) (hi10 : g 112 0 = g 5 0) (hi11 : g 111 0 = g 4 0) (hi12 : g 114 0 = g 6 0) (hi13 : 0 ≤ g 126 0 ∧ g 126 0 ≤ 200) (hi14 : 0 ≤ g 122 0 ∧ g 122 0 ≤ 30) (hi15 : g 14 0 = g 121 0) (hi16 : g 18 0 = g 118 0) (hIJ : IJ g) (hTE : pz_t g = g 19) (hU : Un Γ) (t_q1 : ty Γ q1 1) (t_q12 : ty Γ q12 30) (t_q25 : ty Γ q25 25) (hkc : kc ≤ 300 + i.toInt.toNat) (hks : ks ≤ 30000 + 28 * i.toInt.toNat) (hG : ty_ok (dC, dI) vwCl Γ (TP dA Γ g) sz X H) (hS : va_S (ty_A sz) s.heap H locs) (hl : lv_has ls 7 [(4, .int i), (3, .ref q25), (2, .ref q12), (1, .ref q1), (0, .ref b)]) (hiL : i.toInt + 6 ≤ (L : Int)) : W p l e room_1 s m #[Value.ref b] below meth c H locs kc ks (lw_Z below #[Value.ref b] s) (F0 m 214 ls []) := by
  refine lv_aload_n hx hb dL_law_214 rfl (lv_at hl 3 rfl) ?_
  refine lv_aload_n hx hb dL_law_215 rfl (lv_at hl 4 rfl) ?_
  refine lv_iload hx hb dL_law_216 (lv_at hl 0 rfl) ?_
  refine ty_iconst hx hb (1) dL_law_218 (by decide) (fun x226 h227 => ?_)
  refine ty_iadd hx hb dL_law_219 (fun x228 h229 => ?_)
  have h230 := lw_ix (k := 1) h227 h229 hi0 hiL hLN (by decide)
  refine va_sld hx hb hXs hbl hbA hS (i := x228) (ty_ix h230.2) dL_law_220 ?_
  refine W.eq (g2 := F0 m 221 ls [.int (xs (i.toInt.toNat + 1)), .ref q1]) (by rw [lw_xs (xs := xs) h230.1 hi0.1]) ?_
  clear h230 h229 h227
  refine lv_topi (fun x231 s232 => ?_)
  refine lv_aload_n hx hb dL_law_221 rfl (lv_at hl 4 rfl) ?_
  refine lv_iload hx hb dL_law_222 (lv_at hl 0 rfl) ?_
  refine ty_iconst hx hb (2) dL_law_224 (by decide) (fun x233 h234 => ?_)
  refine ty_iadd hx hb dL_law_225 (fun x235 h236 => ?_)
  have h237 := lw_ix (k := 2) h234 h236 hi0 hiL hLN (by decide)
  refine va_sld hx hb hXs hbl hbA hS (i := x235) (ty_ix h237.2) dL_law_226 ?_
  refine W.eq (g2 := F0 m 227 ls [.int (xs (i.toInt.toNat + 2)), .int x231, .ref q1]) (by rw [lw_xs (xs := xs) h237.1 hi0.1]) ?_
  clear h237 h236 h234
  refine lv_topi (fun x238 s239 => ?_)
  refine lv_aload_n hx hb dL_law_227 rfl (lv_at hl 4 rfl) ?_
  refine lv_iload hx hb dL_law_228 (lv_at hl 0 rfl) ?_
  refine ty_iconst hx hb (3) dL_law_230 (by decide) (fun x240 h241 => ?_)
  refine ty_iadd hx hb dL_law_231 (fun x242 h243 => ?_)
  have h244 := lw_ix (k := 3) h241 h243 hi0 hiL hLN (by decide)
  refine va_sld hx hb hXs hbl hbA hS (i := x242) (ty_ix h244.2) dL_law_232 ?_
  refine W.eq (g2 := F0 m 233 ls [.int (xs (i.toInt.toNat + 3)), .int x238, .int x231, .ref q1]) (by rw [lw_xs (xs := xs) h244.1 hi0.1]) ?_
  clear h244 h243 h241
  refine lv_topi (fun x245 s246 => ?_)
  refine cI (va_runV (C := RX8) (As := [.int x231, .int x238, .int x245]) (rest := []) ⟨hx, hb, hml, hown, hA⟩ (k_X8_own l dC dI dA sz X Γ hU g q1 t_q1 x231 x238 x245   (by first | with_reducible assumption | omega) (by first | with_reducible assumption | omega)) ⟨callB_of 3 hA (al_A wd_2_44) rfl rfl rfl (hA _ wd_1_1) (hA _ wd_2_41) (by decide +kernel) ⟨Nat.le_of_ble_eq_true rfl, Nat.le_of_ble_eq_true rfl⟩, hA _ wd_2_42, hA _ wd_2_43⟩ ⟨bl, recv_X8 hE hG t_q1, fun U hU9 hW9 => ⟨rfl, by rw [hU9]; exact hG, hE.go hS hU9 hW9⟩⟩ rfl rfl hl.1 rfl (lv_room (Nat.le_of_ble_eq_true rfl)) dL_law_233 ⟨(Nat.le_trans (show kc + 0 ≤ 300000 by omega) (Nat.le_of_ble_eq_true rfl)), (Nat.le_trans (show ks + 0 ≤ 300000 by omega) (Nat.le_of_ble_eq_true rfl))⟩) hS (fun x249 u247 H locs w248 hG hS => ?_)
  have eu250 := w248
  rw [eu250] at hG
  refine lv_pop hx hb dL_law_236 rfl ?_
  refine lv_aload_n hx hb dL_law_237 rfl (lv_at hl 2 rfl) ?_
  refine lv_aload_n hx hb dL_law_238 rfl (lv_at hl 4 rfl) ?_
  refine lv_iload hx hb dL_law_239 (lv_at hl 0 rfl) ?_
  refine ty_iconst hx hb (1) dL_law_241 (by decide) (fun x251 h252 => ?_)
  refine ty_iadd hx hb dL_law_242 (fun x253 h254 => ?_)
  have h255 := lw_ix (k := 1) h252 h254 hi0 hiL hLN (by decide)
  refine va_sld hx hb hXs hbl hbA hS (i := x253) (ty_ix h255.2) dL_law_243 ?_
  refine W.eq (g2 := F0 m 244 ls [.int (xs (i.toInt.toNat + 1)), .ref q12]) (by rw [lw_xs (xs := xs) h255.1 hi0.1]) ?_
  clear h255 h254 h252
  refine W.eq (g2 := F0 m 244 ls [.int x231, .ref q12]) (by rw [s232]) ?_
  refine lv_aload_n hx hb dL_law_244 rfl (lv_at hl 4 rfl) ?_
  refine lv_iload hx hb dL_law_245 (lv_at hl 0 rfl) ?_
  refine ty_iconst hx hb (2) dL_law_247 (by decide) (fun x256 h257 => ?_)
  refine ty_iadd hx hb dL_law_248 (fun x258 h259 => ?_)
  have h260 := lw_ix (k := 2) h257 h259 hi0 hiL hLN (by decide)
  refine va_sld hx hb hXs hbl hbA hS (i := x258) (ty_ix h260.2) dL_law_249 ?_
  refine W.eq (g2 := F0 m 250 ls [.int (xs (i.toInt.toNat + 2)), .int x231, .ref q12]) (by rw [lw_xs (xs := xs) h260.1 hi0.1]) ?_
  clear h260 h259 h257
  refine W.eq (g2 := F0 m 250 ls [.int x238, .int x231, .ref q12]) (by rw [s239]) ?_
  refine lv_aload_n hx hb dL_law_250 rfl (lv_at hl 4 rfl) ?_
  refine lv_iload hx hb dL_law_251 (lv_at hl 0 rfl) ?_
  refine ty_iconst hx hb (3) dL_law_253 (by decide) (fun x261 h262 => ?_)
  refine ty_iadd hx hb dL_law_254 (fun x263 h264 => ?_)
  have h265 := lw_ix (k := 3) h262 h264 hi0 hiL hLN (by decide)
  refine va_sld hx hb hXs hbl hbA hS (i := x263) (ty_ix h265.2) dL_law_255 ?_
  refine W.eq (g2 := F0 m 256 ls [.int (xs (i.toInt.toNat + 3)), .int x238, .int x231, .ref q12]) (by rw [lw_xs (xs := xs) h265.1 hi0.1]) ?_
  clear h265 h264 h262
  refine W.eq (g2 := F0 m 256 ls [.int x245, .int x238, .int x231, .ref q12]) (by rw [s246]) ?_
  refine cI (va_runV (C := RX9) (As := [.int x231, .int x238, .int x245]) (rest := []) ⟨hx, hb, hml, hown, hA⟩ (k_X9_own l dC dI dA sz X Γ hU g q12 t_q12 x231 x238 x245   (by first | with_reducible assumption | omega) (by first | with_reducible assumption | omega) (by first | with_reducible assumption | omega)) ⟨callB_of 3 hA (al_A wd_5_46) rfl rfl rfl (hA _ wd_1_7) (hA _ wd_5_43) (by decide +kernel) ⟨Nat.le_of_ble_eq_true rfl, Nat.le_of_ble_eq_true rfl⟩, hA _ wd_5_44, hA _ wd_5_45⟩ ⟨bl, recv_X9 hE hG t_q12, fun U hU9 hW9 => ⟨rfl, by rw [hU9]; exact hG, hE.go hS hU9 hW9⟩⟩ rfl rfl hl.1 rfl (lv_room (Nat.le_of_ble_eq_true rfl)) dL_law_256 ⟨(Nat.le_trans (show kc + 0 ≤ 300000 by omega) (Nat.le_of_ble_eq_true rfl)), (Nat.le_trans (show ks + 0 ≤ 300000 by omega) (Nat.le_of_ble_eq_true rfl))⟩) hS (fun x268 u266 H locs w267 hG hS => ?_)
  obtain ⟨hf269, w267⟩ := w267
  have hj270 : IJ u266 := IJ_cg (hf269 126 0 (by decide) (by decide)) (fun j => hf269 132 j (by decide) (by decide)) (fun j => hf269 134 j (by decide) (by decide)) (by (repeat (first | with_reducible assumption | (refine IJ_c (by decide) (by decide) (by decide) ?_) | (refine IJ_take (by omega) (by omega) ?_) | (refine IJ_how (by omega) ?_) | (refine IJ_by (by omega) ?_))))
  refine lv_pop hx hb dL_law_259 rfl ?_
  refine lv_goto (tgt := 1047) hx hb dL_law_260 (by decide) ?_
  obtain ⟨x271, h272⟩ : ∃ y : Int32, y = i + Int32.ofInt (6) := ⟨_, rfl⟩
  try have h273 : x271.toInt = i.toInt + (6) := ty_inc h272 (by decide) (by omega) (by omega)
  refine lv_iinc (v := x271) (lv' := [(4, .int x271), (3, .ref q25), (2, .ref q12), (1, .ref q1), (0, .ref b)]) hx hb dL_law_1047 hl (k := 0) rfl h272.symm (by decide) rfl (fun ls hl => ?_)
  refine lv_goto (tgt := 23) hx hb dL_law_1050 (by decide) ?_
  have hk274 : u266 4 0 = g 4 0 := hf269 4 0 (by decide) (by decide)
  exact ih x271 Γ u266 (kc) (ks) _ _ ls (by omega) (by omega) (by rw [hf269 1 0 (by decide) (by decide), hf269 33 0 (by decide) (by decide)]; exact hi1) (by rw [hf269 2 0 (by decide) (by decide), hf269 34 0 (by decide) (by decide)]; exact hi2) (by rw [hf269 3 0 (by decide) (by decide), hf269 35 0 (by decide) (by decide)]; exact hi3) (by rw [hf269 5 0 (by decide) (by decide)]; exact hi4) (by omega) (by rw [hf269 6 0 (by decide) (by decide)]; exact hi6) (by rw [hf269 7 0 (by decide) (by decide), hf269 36 0 (by decide) (by decide)]; exact hi7) (by rw [hf269 101 0 (by decide) (by decide), hf269 1 0 (by decide) (by decide)]; exact hi8) (by rw [hf269 104 0 (by decide) (by decide), hf269 2 0 (by decide) (by decide)]; exact hi9) (by rw [hf269 112 0 (by decide) (by decide), hf269 5 0 (by decide) (by decide)]; exact hi10) (by rw [hf269 111 0 (by decide) (by decide), hf269 4 0 (by decide) (by decide)]; exact hi11) (by rw [hf269 114 0 (by decide) (by decide), hf269 6 0 (by decide) (by decide)]; exact hi12) (by rw [hf269 126 0 (by decide) (by decide)]; exact hi13) (by rw [hf269 122 0 (by decide) (by decide)]; exact hi14) (by rw [hf269 14 0 (by decide) (by decide), hf269 121 0 (by decide) (by decide)]; exact hi15) (by rw [hf269 18 0 (by decide) (by decide), hf269 118 0 (by decide) (by decide)]; exact hi16) (by (repeat (first | with_reducible assumption | (refine IJ_c (by decide) (by decide) (by decide) ?_) | (refine IJ_take (by omega) (by omega) ?_) | (refine IJ_how (by omega) ?_) | (refine IJ_by (by omega) ?_)))) (funext fun j => by show u266 113 j % 256 = u266 19 j; rw [hf269 113 j (by decide) (by decide), hf269 19 j (by decide) (by decide)]; exact congrFun hTE j) hU t_q1 t_q12 t_q25 (by omega) (by omega) hG hS (lv_sub hl [0, 1, 2, 3, 4] rfl)
set_option maxHeartbeats 40000000 in
set_option maxRecDepth 100000 in
/-- the law's case 3 -/
theorem law_c3 {p : Program} {e : Env} {s : State} {m : MethodId} {below : List Frame} {meth : Method} {c : Code} (l : Launch) (hl9 : l.stackTraces = false) {b L : Nat} {xs : Nat → Int32} (hLN : L ≤ 3072) (hx : p.tables.exec = Jvm.exec) (hb : c.code = code) (hr : meth.sig.returnType = ret) (hml : c.maxLocals = 7) (hown : s.vm.findClass R_law = some m.cls) (hA : ∀ w ∈ AL, w.before #[Value.ref b] s = true) (hXs : va_X b L xs s s.heap) (hbl : b < s.heap.size) (hlocks : meth.locks = false) {dC : Nat → ClassId} {dI : Nat → Nat → Nat} {dA : Nat → ClassId} {sz : Nat} (hE : en dC dI dA sz s) (hsz : sz = s.heap.size) (hbA : ¬ ty_A sz b) (X : va_W) (q1 q12 q25 : Nat) (n : Nat) (ih : LJ p l e s m below meth c b dC dI dA sz X q1 q12 q25 n) (i : Int32) (Γ : ty_G) (g : gh) (kc ks : Nat) (H : Heap) (locs : List Loc) (ls : Array Slot) (hm : (3073 - i.toInt : Int) < (n + 1 : Nat)) (hi0 : 0 ≤ i.toInt ∧ i.toInt ≤ 3072) (hi1 : g 1 0 = g 33 0 ∧ 0 ≤ g 1 0 ∧ g 1 0 ≤ 6) (hi2 : g 2 0 = g 34 0 ∧ 0 ≤ g 2 0 ∧ g 2 0 ≤ 10) (hi3 : g 3 0 = g 35 0 ∧ 0 ≤ g 3 0 ∧ g 3 0 ≤ 200) (hi4 : 0 ≤ g 5 0 ∧ g 5 0 ≤ 52) (hi5 : 0 ≤ g 4 0 ∧ g 4 0 ≤ i.toInt) (hi6 : 0 ≤ g 6 0 ∧ g 6 0 ≤ 300) (hi7 : 0 ≤ g 7 0 ∧ g 7 0 ≤ g 36 0 ∧ g 36 0 ≤ 9) (hi8 : g 101 0 = g 1 0) (hi9 : g 104 0 = g 2 0) (hi10 : g 112 0 = g 5 0) (hi11 : g 111 0 = g 4 0) (hi12 : g 114 0 = g 6 0) (hi13 : 0 ≤ g 126 0 ∧ g 126 0 ≤ 200) (hi14 : 0 ≤ g 122 0 ∧ g 122 0 ≤ 30) (hi15 : g 14 0 = g 121 0) (hi16 : g 18 0 = g 118 0) (hIJ : IJ g) (hTE : pz_t g = g 19) (hU : Un Γ) (t_q1 : ty Γ q1 1) (t_q12 : ty Γ q12 30) (t_q25 : ty Γ q25 25) (hkc : kc ≤ 300 + i.toInt.toNat) (hks : ks ≤ 30000 + 28 * i.toInt.toNat) (hG : ty_ok (dC, dI) vwCl Γ (TP dA Γ g) sz X H) (hS : va_S (ty_A sz) s.heap H locs) (hl : lv_has ls 7 [(4, .int i), (3, .ref q25), (2, .ref q12), (1, .ref q1), (0, .ref b)]) (hiL : i.toInt + 6 ≤ (L : Int)) : W p l e room_1 s m #[Value.ref b] below meth c H locs kc ks (lw_Z below #[Value.ref b] s) (F0 m 263 ls []) := by
  refine lv_aload_n hx hb dL_law_263 rfl (lv_at hl 3 rfl) ?_
  refine lv_aload_n hx hb dL_law_264 rfl (lv_at hl 4 rfl) ?_
  refine lv_iload hx hb dL_law_265 (lv_at hl 0 rfl) ?_
  refine ty_iconst hx hb (1) dL_law_267 (by decide) (fun x275 h276 => ?_)
  refine ty_iadd hx hb dL_law_268 (fun x277 h278 => ?_)
  have h279 := lw_ix (k := 1) h276 h278 hi0 hiL hLN (by decide)
  refine va_sld hx hb hXs hbl hbA hS (i := x277) (ty_ix h279.2) dL_law_269 ?_
  refine W.eq (g2 := F0 m 270 ls [.int (xs (i.toInt.toNat + 1)), .ref q1]) (by rw [lw_xs (xs := xs) h279.1 hi0.1]) ?_
  clear h279 h278 h276
  refine lv_topi (fun x280 s281 => ?_)
  refine lv_aload_n hx hb dL_law_270 rfl (lv_at hl 4 rfl) ?_
  refine lv_iload hx hb dL_law_271 (lv_at hl 0 rfl) ?_
  refine ty_iconst hx hb (2) dL_law_273 (by decide) (fun x282 h283 => ?_)
  refine ty_iadd hx hb dL_law_274 (fun x284 h285 => ?_)
  have h286 := lw_ix (k := 2) h283 h285 hi0 hiL hLN (by decide)
  refine va_sld hx hb hXs hbl hbA hS (i := x284) (ty_ix h286.2) dL_law_275 ?_
  refine W.eq (g2 := F0 m 276 ls [.int (xs (i.toInt.toNat + 2)), .int x280, .ref q1]) (by rw [lw_xs (xs := xs) h286.1 hi0.1]) ?_
  clear h286 h285 h283
  refine lv_topi (fun x287 s288 => ?_)
  refine lv_aload_n hx hb dL_law_276 rfl (lv_at hl 4 rfl) ?_
  refine lv_iload hx hb dL_law_277 (lv_at hl 0 rfl) ?_
  refine ty_iconst hx hb (3) dL_law_279 (by decide) (fun x289 h290 => ?_)
  refine ty_iadd hx hb dL_law_280 (fun x291 h292 => ?_)
  have h293 := lw_ix (k := 3) h290 h292 hi0 hiL hLN (by decide)
  refine va_sld hx hb hXs hbl hbA hS (i := x291) (ty_ix h293.2) dL_law_281 ?_
  refine W.eq (g2 := F0 m 282 ls [.int (xs (i.toInt.toNat + 3)), .int x287, .int x280, .ref q1]) (by rw [lw_xs (xs := xs) h293.1 hi0.1]) ?_
  clear h293 h292 h290
  refine lv_topi (fun x294 s295 => ?_)
  refine lv_aload_n hx hb dL_law_282 rfl (lv_at hl 4 rfl) ?_
  refine lv_iload hx hb dL_law_283 (lv_at hl 0 rfl) ?_
  refine ty_iconst hx hb (4) dL_law_285 (by decide) (fun x296 h297 => ?_)
  refine ty_iadd hx hb dL_law_286 (fun x298 h299 => ?_)
  have h300 := lw_ix (k := 4) h297 h299 hi0 hiL hLN (by decide)
  refine va_sld hx hb hXs hbl hbA hS (i := x298) (ty_ix h300.2) dL_law_287 ?_
  refine W.eq (g2 := F0 m 288 ls [.int (xs (i.toInt.toNat + 4)), .int x294, .int x287, .int x280, .ref q1]) (by rw [lw_xs (xs := xs) h300.1 hi0.1]) ?_
  clear h300 h299 h297
  refine lv_topi (fun x301 s302 => ?_)
  refine lv_aload_n hx hb dL_law_288 rfl (lv_at hl 4 rfl) ?_
  refine lv_iload hx hb dL_law_289 (lv_at hl 0 rfl) ?_
  refine ty_iconst hx hb (5) dL_law_291 (by decide) (fun x303 h304 => ?_)
  refine ty_iadd hx hb dL_law_292 (fun x305 h306 => ?_)
  have h307 := lw_ix (k := 5) h304 h306 hi0 hiL hLN (by decide)
  refine va_sld hx hb hXs hbl hbA hS (i := x305) (ty_ix h307.2) dL_law_293 ?_
  refine W.eq (g2 := F0 m 294 ls [.int (xs (i.toInt.toNat + 5)), .int x301, .int x294, .int x287, .int x280, .ref q1]) (by rw [lw_xs (xs := xs) h307.1 hi0.1]) ?_
  clear h307 h306 h304
  refine lv_topi (fun x308 s309 => ?_)
  refine cI (va_runV (C := RX8) (As := [.int x280, .int x287, .int x294, .int x301, .int x308]) (rest := []) ⟨hx, hb, hml, hown, hA⟩ (k_X8_feed l dC dI dA sz X Γ hU g q1 t_q1 x280 x287 x294 x301 x308   (by first | with_reducible assumption | omega)) ⟨callB_of 5 hA (al_A wd_2_76) rfl rfl rfl (hA _ wd_1_1) (hA _ wd_2_73) (by decide +kernel) ⟨Nat.le_of_ble_eq_true rfl, Nat.le_of_ble_eq_true rfl⟩, hA _ wd_2_74, hA _ wd_2_75⟩ ⟨bl, recv_X8 hE hG t_q1, fun U hU9 hW9 => ⟨rfl, by rw [hU9]; exact hG, hE.go hS hU9 hW9⟩⟩ rfl rfl hl.1 rfl (lv_room (Nat.le_of_ble_eq_true rfl)) dL_law_294 ⟨(Nat.le_trans (show kc + 0 ≤ 300000 by omega) (Nat.le_of_ble_eq_true rfl)), (Nat.le_trans (show ks + 0 ≤ 300000 by omega) (Nat.le_of_ble_eq_true rfl))⟩) hS (fun x312 u310 H locs w311 hG hS => ?_)
  obtain ⟨hf314, w311, hq313⟩ := w311
  have hj315 : IJ u310 := IJ_cg (hf314 126 0 (by decide) (by decide)) (fun j => hf314 132 j (by decide) (by decide)) (fun j => hf314 134 j (by decide) (by decide)) (by (repeat (first | with_reducible assumption | (refine IJ_c (by decide) (by decide) (by decide) ?_) | (refine IJ_take (by omega) (by omega) ?_) | (refine IJ_how (by omega) ?_) | (refine IJ_by (by omega) ?_))))
  replace w311 := or2 w311.1 w311.2 (by omega)
  rcases w311 with w311 | w311
  · skip
    refine lv_pop hx hb dL_law_297 rfl ?_
    refine lv_aload_n hx hb dL_law_298 rfl (lv_at hl 2 rfl) ?_
    refine lv_aload_n hx hb dL_law_299 rfl (lv_at hl 4 rfl) ?_
    refine lv_iload hx hb dL_law_300 (lv_at hl 0 rfl) ?_
    refine ty_iconst hx hb (1) dL_law_302 (by decide) (fun x316 h317 => ?_)
    refine ty_iadd hx hb dL_law_303 (fun x318 h319 => ?_)
    have h320 := lw_ix (k := 1) h317 h319 hi0 hiL hLN (by decide)
    refine va_sld hx hb hXs hbl hbA hS (i := x318) (ty_ix h320.2) dL_law_304 ?_
    refine W.eq (g2 := F0 m 305 ls [.int (xs (i.toInt.toNat + 1)), .ref q12]) (by rw [lw_xs (xs := xs) h320.1 hi0.1]) ?_
    clear h320 h319 h317
    refine W.eq (g2 := F0 m 305 ls [.int x280, .ref q12]) (by rw [s281]) ?_
    refine lv_aload_n hx hb dL_law_305 rfl (lv_at hl 4 rfl) ?_
    refine lv_iload hx hb dL_law_306 (lv_at hl 0 rfl) ?_
    refine ty_iconst hx hb (2) dL_law_308 (by decide) (fun x321 h322 => ?_)
    refine ty_iadd hx hb dL_law_309 (fun x323 h324 => ?_)
    have h325 := lw_ix (k := 2) h322 h324 hi0 hiL hLN (by decide)
    refine va_sld hx hb hXs hbl hbA hS (i := x323) (ty_ix h325.2) dL_law_310 ?_
    refine W.eq (g2 := F0 m 311 ls [.int (xs (i.toInt.toNat + 2)), .int x280, .ref q12]) (by rw [lw_xs (xs := xs) h325.1 hi0.1]) ?_
    clear h325 h324 h322
    refine W.eq (g2 := F0 m 311 ls [.int x287, .int x280, .ref q12]) (by rw [s288]) ?_
    refine lv_aload_n hx hb dL_law_311 rfl (lv_at hl 4 rfl) ?_
    refine lv_iload hx hb dL_law_312 (lv_at hl 0 rfl) ?_
    refine ty_iconst hx hb (3) dL_law_314 (by decide) (fun x326 h327 => ?_)
    refine ty_iadd hx hb dL_law_315 (fun x328 h329 => ?_)
    have h330 := lw_ix (k := 3) h327 h329 hi0 hiL hLN (by decide)
    refine va_sld hx hb hXs hbl hbA hS (i := x328) (ty_ix h330.2) dL_law_316 ?_
    refine W.eq (g2 := F0 m 317 ls [.int (xs (i.toInt.toNat + 3)), .int x287, .int x280, .ref q12]) (by rw [lw_xs (xs := xs) h330.1 hi0.1]) ?_
    clear h330 h329 h327
    refine W.eq (g2 := F0 m 317 ls [.int x294, .int x287, .int x280, .ref q12]) (by rw [s295]) ?_
    refine lv_aload_n hx hb dL_law_317 rfl (lv_at hl 4 rfl) ?_
    refine lv_iload hx hb dL_law_318 (lv_at hl 0 rfl) ?_
    refine ty_iconst hx hb (4) dL_law_320 (by decide) (fun x331 h332 => ?_)
    refine ty_iadd hx hb dL_law_321 (fun x333 h334 => ?_)
    have h335 := lw_ix (k := 4) h332 h334 hi0 hiL hLN (by decide)
    refine va_sld hx hb hXs hbl hbA hS (i := x333) (ty_ix h335.2) dL_law_322 ?_
    refine W.eq (g2 := F0 m 323 ls [.int (xs (i.toInt.toNat + 4)), .int x294, .int x287, .int x280, .ref q12]) (by rw [lw_xs (xs := xs) h335.1 hi0.1]) ?_
    clear h335 h334 h332
    refine W.eq (g2 := F0 m 323 ls [.int x301, .int x294, .int x287, .int x280, .ref q12]) (by rw [s302]) ?_
    refine lv_aload_n hx hb dL_law_323 rfl (lv_at hl 4 rfl) ?_
    refine lv_iload hx hb dL_law_324 (lv_at hl 0 rfl) ?_
    refine ty_iconst hx hb (5) dL_law_326 (by decide) (fun x336 h337 => ?_)
    refine ty_iadd hx hb dL_law_327 (fun x338 h339 => ?_)
    have h340 := lw_ix (k := 5) h337 h339 hi0 hiL hLN (by decide)
    refine va_sld hx hb hXs hbl hbA hS (i := x338) (ty_ix h340.2) dL_law_328 ?_
    refine W.eq (g2 := F0 m 329 ls [.int (xs (i.toInt.toNat + 5)), .int x301, .int x294, .int x287, .int x280, .ref q12]) (by rw [lw_xs (xs := xs) h340.1 hi0.1]) ?_
    clear h340 h339 h337
    refine W.eq (g2 := F0 m 329 ls [.int x308, .int x301, .int x294, .int x287, .int x280, .ref q12]) (by rw [s309]) ?_
    have hk341 : u310 114 0 = g 114 0 := hf314 114 0 (by decide) (by decide)
    refine cI (va_runV (C := RX9) (As := [.int x280, .int x287, .int x294, .int x301, .int x308]) (rest := []) ⟨hx, hb, hml, hown, hA⟩ (k_X9_feed l dC dI dA sz X Γ hU u310 q12 t_q12 x280 x287 x294 x301 x308   (by first | with_reducible assumption | omega)) ⟨callB_of 5 hA (al_A wd_5_62) rfl rfl rfl (hA _ wd_1_7) (hA _ wd_5_59) (by decide +kernel) ⟨Nat.le_of_ble_eq_true rfl, Nat.le_of_ble_eq_true rfl⟩, hA _ wd_5_60, hA _ wd_5_61⟩ ⟨bl, recv_X9 hE hG t_q12, fun U hU9 hW9 => ⟨rfl, by rw [hU9]; exact hG, hE.go hS hU9 hW9⟩⟩ rfl rfl hl.1 rfl (lv_room (Nat.le_of_ble_eq_true rfl)) dL_law_329 ⟨(Nat.le_trans (show kc + 0 ≤ 300000 by omega) (Nat.le_of_ble_eq_true rfl)), (Nat.le_trans (show ks + 0 ≤ 300000 by omega) (Nat.le_of_ble_eq_true rfl))⟩) hS (fun x344 u342 H locs w343 hG hS => ?_)
    obtain ⟨hf346, w343, hq345⟩ := w343
    have hj347 : IJ u342 := IJ_cg (hf346 126 0 (by decide) (by decide) (by decide)) (fun j => hf346 132 j (by decide) (by decide) (by decide)) (fun j => hf346 134 j (by decide) (by decide) (by decide)) (by (repeat (first | with_reducible assumption | (refine IJ_c (by decide) (by decide) (by decide) ?_) | (refine IJ_take (by omega) (by omega) ?_) | (refine IJ_how (by omega) ?_) | (refine IJ_by (by omega) ?_))))
    replace w343 := or2 w343.1 w343.2 (by omega)
    rcases w343 with w343 | w343
    · skip
      refine lv_pop hx hb dL_law_332 rfl ?_
      refine lv_goto (tgt := 1047) hx hb dL_law_333 (by decide) ?_
      obtain ⟨x348, h349⟩ : ∃ y : Int32, y = i + Int32.ofInt (6) := ⟨_, rfl⟩
      try have h350 : x348.toInt = i.toInt + (6) := ty_inc h349 (by decide) (by omega) (by omega)
      refine lv_iinc (v := x348) (lv' := [(4, .int x348), (3, .ref q25), (2, .ref q12), (1, .ref q1), (0, .ref b)]) hx hb dL_law_1047 hl (k := 0) rfl h349.symm (by decide) rfl (fun ls hl => ?_)
      refine lv_goto (tgt := 23) hx hb dL_law_1050 (by decide) ?_
      have hk351 : u342 4 0 = u310 4 0 := hf346 4 0 (by decide) (by decide) (by decide)
      have hk352 : u310 4 0 = g 4 0 := hf314 4 0 (by decide) (by decide)
      have hk353 : u342 6 0 = u310 6 0 := hf346 6 0 (by decide) (by decide) (by decide)
      exact ih x348 Γ u342 (kc) (ks) _ _ ls (by omega) (by omega) (by rw [hf346 1 0 (by decide) (by decide) (by decide), hf314 1 0 (by decide) (by decide), hf346 33 0 (by decide) (by decide) (by decide), hf314 33 0 (by decide) (by decide)]; exact hi1) (by rw [hf346 2 0 (by decide) (by decide) (by decide), hf314 2 0 (by decide) (by decide), hf346 34 0 (by decide) (by decide) (by decide), hf314 34 0 (by decide) (by decide)]; exact hi2) (by rw [hf346 3 0 (by decide) (by decide) (by decide), hf314 3 0 (by decide) (by decide), hf346 35 0 (by decide) (by decide) (by decide), hf314 35 0 (by decide) (by decide)]; exact hi3) (by rw [hf346 5 0 (by decide) (by decide) (by decide), hf314 5 0 (by decide) (by decide)]; exact hi4) (by omega) (by omega) (by rw [hf346 7 0 (by decide) (by decide) (by decide), hf314 7 0 (by decide) (by decide), hf346 36 0 (by decide) (by decide) (by decide), hf314 36 0 (by decide) (by decide)]; exact hi7) (by rw [hf346 101 0 (by decide) (by decide) (by decide), hf314 101 0 (by decide) (by decide), hf346 1 0 (by decide) (by decide) (by decide), hf314 1 0 (by decide) (by decide)]; exact hi8) (by rw [hf346 104 0 (by decide) (by decide) (by decide), hf314 104 0 (by decide) (by decide), hf346 2 0 (by decide) (by decide) (by decide), hf314 2 0 (by decide) (by decide)]; exact hi9) (by rw [hf346 112 0 (by decide) (by decide) (by decide), hf314 112 0 (by decide) (by decide), hf346 5 0 (by decide) (by decide) (by decide), hf314 5 0 (by decide) (by decide)]; exact hi10) (by rw [hf346 111 0 (by decide) (by decide) (by decide), hf314 111 0 (by decide) (by decide), hf346 4 0 (by decide) (by decide) (by decide), hf314 4 0 (by decide) (by decide)]; exact hi11) (by omega) (by rw [hf346 126 0 (by decide) (by decide) (by decide), hf314 126 0 (by decide) (by decide)]; exact hi13) (by rw [hf346 122 0 (by decide) (by decide) (by decide), hf314 122 0 (by decide) (by decide)]; exact hi14) (by rw [hf346 14 0 (by decide) (by decide) (by decide), hf314 14 0 (by decide) (by decide), hf346 121 0 (by decide) (by decide) (by decide), hf314 121 0 (by decide) (by decide)]; exact hi15) (by rw [hf346 18 0 (by decide) (by decide) (by decide), hf314 18 0 (by decide) (by decide), hf346 118 0 (by decide) (by decide) (by decide), hf314 118 0 (by decide) (by decide)]; exact hi16) (by (repeat (first | with_reducible assumption | (refine IJ_c (by decide) (by decide) (by decide) ?_) | (refine IJ_take (by omega) (by omega) ?_) | (refine IJ_how (by omega) ?_) | (refine IJ_by (by omega) ?_)))) (by have h1 : pz_t u342 = _ := hq345.1 (by omega); have h2 : u310 19 = _ := hq313.1 (by omega); rw [h1, show pz_t u310 = pz_t g from (funext fun j => show u310 113 j % 256 = g 113 j % 256 by rw [hf314 113 j (by decide) (by decide)]), hTE, show (u310 114 0).toNat = (g 6 0).toNat by omega, ← h2]; exact (show u342 19 = u310 19 from (funext fun j => by rw [hf346 19 j (by decide) (by decide) (by decide)])).symm) hU t_q1 t_q12 t_q25 (by omega) (by omega) hG hS (lv_sub hl [0, 1, 2, 3, 4] rfl)
    · exfalso; omega
  · skip
    refine lv_pop hx hb dL_law_297 rfl ?_
    refine lv_aload_n hx hb dL_law_298 rfl (lv_at hl 2 rfl) ?_
    refine lv_aload_n hx hb dL_law_299 rfl (lv_at hl 4 rfl) ?_
    refine lv_iload hx hb dL_law_300 (lv_at hl 0 rfl) ?_
    refine ty_iconst hx hb (1) dL_law_302 (by decide) (fun x354 h355 => ?_)
    refine ty_iadd hx hb dL_law_303 (fun x356 h357 => ?_)
    have h358 := lw_ix (k := 1) h355 h357 hi0 hiL hLN (by decide)
    refine va_sld hx hb hXs hbl hbA hS (i := x356) (ty_ix h358.2) dL_law_304 ?_
    refine W.eq (g2 := F0 m 305 ls [.int (xs (i.toInt.toNat + 1)), .ref q12]) (by rw [lw_xs (xs := xs) h358.1 hi0.1]) ?_
    clear h358 h357 h355
    refine W.eq (g2 := F0 m 305 ls [.int x280, .ref q12]) (by rw [s281]) ?_
    refine lv_aload_n hx hb dL_law_305 rfl (lv_at hl 4 rfl) ?_
    refine lv_iload hx hb dL_law_306 (lv_at hl 0 rfl) ?_
    refine ty_iconst hx hb (2) dL_law_308 (by decide) (fun x359 h360 => ?_)
    refine ty_iadd hx hb dL_law_309 (fun x361 h362 => ?_)
    have h363 := lw_ix (k := 2) h360 h362 hi0 hiL hLN (by decide)
    refine va_sld hx hb hXs hbl hbA hS (i := x361) (ty_ix h363.2) dL_law_310 ?_
    refine W.eq (g2 := F0 m 311 ls [.int (xs (i.toInt.toNat + 2)), .int x280, .ref q12]) (by rw [lw_xs (xs := xs) h363.1 hi0.1]) ?_
    clear h363 h362 h360
    refine W.eq (g2 := F0 m 311 ls [.int x287, .int x280, .ref q12]) (by rw [s288]) ?_
    refine lv_aload_n hx hb dL_law_311 rfl (lv_at hl 4 rfl) ?_
    refine lv_iload hx hb dL_law_312 (lv_at hl 0 rfl) ?_
    refine ty_iconst hx hb (3) dL_law_314 (by decide) (fun x364 h365 => ?_)
    refine ty_iadd hx hb dL_law_315 (fun x366 h367 => ?_)
    have h368 := lw_ix (k := 3) h365 h367 hi0 hiL hLN (by decide)
    refine va_sld hx hb hXs hbl hbA hS (i := x366) (ty_ix h368.2) dL_law_316 ?_
    refine W.eq (g2 := F0 m 317 ls [.int (xs (i.toInt.toNat + 3)), .int x287, .int x280, .ref q12]) (by rw [lw_xs (xs := xs) h368.1 hi0.1]) ?_
    clear h368 h367 h365
    refine W.eq (g2 := F0 m 317 ls [.int x294, .int x287, .int x280, .ref q12]) (by rw [s295]) ?_
    refine lv_aload_n hx hb dL_law_317 rfl (lv_at hl 4 rfl) ?_
    refine lv_iload hx hb dL_law_318 (lv_at hl 0 rfl) ?_
    refine ty_iconst hx hb (4) dL_law_320 (by decide) (fun x369 h370 => ?_)
    refine ty_iadd hx hb dL_law_321 (fun x371 h372 => ?_)
    have h373 := lw_ix (k := 4) h370 h372 hi0 hiL hLN (by decide)
    refine va_sld hx hb hXs hbl hbA hS (i := x371) (ty_ix h373.2) dL_law_322 ?_
    refine W.eq (g2 := F0 m 323 ls [.int (xs (i.toInt.toNat + 4)), .int x294, .int x287, .int x280, .ref q12]) (by rw [lw_xs (xs := xs) h373.1 hi0.1]) ?_
    clear h373 h372 h370
    refine W.eq (g2 := F0 m 323 ls [.int x301, .int x294, .int x287, .int x280, .ref q12]) (by rw [s302]) ?_
    refine lv_aload_n hx hb dL_law_323 rfl (lv_at hl 4 rfl) ?_
    refine lv_iload hx hb dL_law_324 (lv_at hl 0 rfl) ?_
    refine ty_iconst hx hb (5) dL_law_326 (by decide) (fun x374 h375 => ?_)
    refine ty_iadd hx hb dL_law_327 (fun x376 h377 => ?_)
    have h378 := lw_ix (k := 5) h375 h377 hi0 hiL hLN (by decide)
    refine va_sld hx hb hXs hbl hbA hS (i := x376) (ty_ix h378.2) dL_law_328 ?_
    refine W.eq (g2 := F0 m 329 ls [.int (xs (i.toInt.toNat + 5)), .int x301, .int x294, .int x287, .int x280, .ref q12]) (by rw [lw_xs (xs := xs) h378.1 hi0.1]) ?_
    clear h378 h377 h375
    refine W.eq (g2 := F0 m 329 ls [.int x308, .int x301, .int x294, .int x287, .int x280, .ref q12]) (by rw [s309]) ?_
    have hk379 : u310 114 0 = g 114 0 := hf314 114 0 (by decide) (by decide)
    refine cI (va_runV (C := RX9) (As := [.int x280, .int x287, .int x294, .int x301, .int x308]) (rest := []) ⟨hx, hb, hml, hown, hA⟩ (k_X9_feed l dC dI dA sz X Γ hU u310 q12 t_q12 x280 x287 x294 x301 x308   (by first | with_reducible assumption | omega)) ⟨callB_of 5 hA (al_A wd_5_62) rfl rfl rfl (hA _ wd_1_7) (hA _ wd_5_59) (by decide +kernel) ⟨Nat.le_of_ble_eq_true rfl, Nat.le_of_ble_eq_true rfl⟩, hA _ wd_5_60, hA _ wd_5_61⟩ ⟨bl, recv_X9 hE hG t_q12, fun U hU9 hW9 => ⟨rfl, by rw [hU9]; exact hG, hE.go hS hU9 hW9⟩⟩ rfl rfl hl.1 rfl (lv_room (Nat.le_of_ble_eq_true rfl)) dL_law_329 ⟨(Nat.le_trans (show kc + 0 ≤ 300000 by omega) (Nat.le_of_ble_eq_true rfl)), (Nat.le_trans (show ks + 0 ≤ 300000 by omega) (Nat.le_of_ble_eq_true rfl))⟩) hS (fun x382 u380 H locs w381 hG hS => ?_)
    obtain ⟨hf384, w381, hq383⟩ := w381
    have hj385 : IJ u380 := IJ_cg (hf384 126 0 (by decide) (by decide) (by decide)) (fun j => hf384 132 j (by decide) (by decide) (by decide)) (fun j => hf384 134 j (by decide) (by decide) (by decide)) (by (repeat (first | with_reducible assumption | (refine IJ_c (by decide) (by decide) (by decide) ?_) | (refine IJ_take (by omega) (by omega) ?_) | (refine IJ_how (by omega) ?_) | (refine IJ_by (by omega) ?_))))
    replace w381 := or2 w381.1 w381.2 (by omega)
    rcases w381 with w381 | w381
    · exfalso; omega
    · skip
      refine lv_pop hx hb dL_law_332 rfl ?_
      refine lv_goto (tgt := 1047) hx hb dL_law_333 (by decide) ?_
      obtain ⟨x386, h387⟩ : ∃ y : Int32, y = i + Int32.ofInt (6) := ⟨_, rfl⟩
      try have h388 : x386.toInt = i.toInt + (6) := ty_inc h387 (by decide) (by omega) (by omega)
      refine lv_iinc (v := x386) (lv' := [(4, .int x386), (3, .ref q25), (2, .ref q12), (1, .ref q1), (0, .ref b)]) hx hb dL_law_1047 hl (k := 0) rfl h387.symm (by decide) rfl (fun ls hl => ?_)
      refine lv_goto (tgt := 23) hx hb dL_law_1050 (by decide) ?_
      have hk389 : u380 4 0 = u310 4 0 := hf384 4 0 (by decide) (by decide) (by decide)
      have hk390 : u310 4 0 = g 4 0 := hf314 4 0 (by decide) (by decide)
      have hk391 : u380 6 0 = u310 6 0 := hf384 6 0 (by decide) (by decide) (by decide)
      exact ih x386 Γ u380 (kc) (ks) _ _ ls (by omega) (by omega) (by rw [hf384 1 0 (by decide) (by decide) (by decide), hf314 1 0 (by decide) (by decide), hf384 33 0 (by decide) (by decide) (by decide), hf314 33 0 (by decide) (by decide)]; exact hi1) (by rw [hf384 2 0 (by decide) (by decide) (by decide), hf314 2 0 (by decide) (by decide), hf384 34 0 (by decide) (by decide) (by decide), hf314 34 0 (by decide) (by decide)]; exact hi2) (by rw [hf384 3 0 (by decide) (by decide) (by decide), hf314 3 0 (by decide) (by decide), hf384 35 0 (by decide) (by decide) (by decide), hf314 35 0 (by decide) (by decide)]; exact hi3) (by rw [hf384 5 0 (by decide) (by decide) (by decide), hf314 5 0 (by decide) (by decide)]; exact hi4) (by omega) (by omega) (by rw [hf384 7 0 (by decide) (by decide) (by decide), hf314 7 0 (by decide) (by decide), hf384 36 0 (by decide) (by decide) (by decide), hf314 36 0 (by decide) (by decide)]; exact hi7) (by rw [hf384 101 0 (by decide) (by decide) (by decide), hf314 101 0 (by decide) (by decide), hf384 1 0 (by decide) (by decide) (by decide), hf314 1 0 (by decide) (by decide)]; exact hi8) (by rw [hf384 104 0 (by decide) (by decide) (by decide), hf314 104 0 (by decide) (by decide), hf384 2 0 (by decide) (by decide) (by decide), hf314 2 0 (by decide) (by decide)]; exact hi9) (by rw [hf384 112 0 (by decide) (by decide) (by decide), hf314 112 0 (by decide) (by decide), hf384 5 0 (by decide) (by decide) (by decide), hf314 5 0 (by decide) (by decide)]; exact hi10) (by rw [hf384 111 0 (by decide) (by decide) (by decide), hf314 111 0 (by decide) (by decide), hf384 4 0 (by decide) (by decide) (by decide), hf314 4 0 (by decide) (by decide)]; exact hi11) (by omega) (by rw [hf384 126 0 (by decide) (by decide) (by decide), hf314 126 0 (by decide) (by decide)]; exact hi13) (by rw [hf384 122 0 (by decide) (by decide) (by decide), hf314 122 0 (by decide) (by decide)]; exact hi14) (by rw [hf384 14 0 (by decide) (by decide) (by decide), hf314 14 0 (by decide) (by decide), hf384 121 0 (by decide) (by decide) (by decide), hf314 121 0 (by decide) (by decide)]; exact hi15) (by rw [hf384 18 0 (by decide) (by decide) (by decide), hf314 18 0 (by decide) (by decide), hf384 118 0 (by decide) (by decide) (by decide), hf314 118 0 (by decide) (by decide)]; exact hi16) (by (repeat (first | with_reducible assumption | (refine IJ_c (by decide) (by decide) (by decide) ?_) | (refine IJ_take (by omega) (by omega) ?_) | (refine IJ_how (by omega) ?_) | (refine IJ_by (by omega) ?_)))) (by have h1 : pz_t u380 = _ := hq383.2 (by omega); have h2 : u310 19 = _ := hq313.2 (by omega); rw [h1, show pz_t u310 = pz_t g from (funext fun j => show u310 113 j % 256 = g 113 j % 256 by rw [hf314 113 j (by decide) (by decide)]), hTE, ← h2]; exact (show u380 19 = u310 19 from (funext fun j => by rw [hf384 19 j (by decide) (by decide) (by decide)])).symm) hU t_q1 t_q12 t_q25 (by omega) (by omega) hG hS (lv_sub hl [0, 1, 2, 3, 4] rfl)
set_option maxHeartbeats 40000000 in
set_option maxRecDepth 100000 in
/-- the law's case 4 -/
theorem law_c4 {p : Program} {e : Env} {s : State} {m : MethodId} {below : List Frame} {meth : Method} {c : Code} (l : Launch) (hl9 : l.stackTraces = false) {b L : Nat} {xs : Nat → Int32} (hLN : L ≤ 3072) (hx : p.tables.exec = Jvm.exec) (hb : c.code = code) (hr : meth.sig.returnType = ret) (hml : c.maxLocals = 7) (hown : s.vm.findClass R_law = some m.cls) (hA : ∀ w ∈ AL, w.before #[Value.ref b] s = true) (hXs : va_X b L xs s s.heap) (hbl : b < s.heap.size) (hlocks : meth.locks = false) {dC : Nat → ClassId} {dI : Nat → Nat → Nat} {dA : Nat → ClassId} {sz : Nat} (hE : en dC dI dA sz s) (hsz : sz = s.heap.size) (hbA : ¬ ty_A sz b) (X : va_W) (q1 q12 q25 : Nat) (n : Nat) (ih : LJ p l e s m below meth c b dC dI dA sz X q1 q12 q25 n) (i : Int32) (Γ : ty_G) (g : gh) (kc ks : Nat) (H : Heap) (locs : List Loc) (ls : Array Slot) (hm : (3073 - i.toInt : Int) < (n + 1 : Nat)) (hi0 : 0 ≤ i.toInt ∧ i.toInt ≤ 3072) (hi1 : g 1 0 = g 33 0 ∧ 0 ≤ g 1 0 ∧ g 1 0 ≤ 6) (hi2 : g 2 0 = g 34 0 ∧ 0 ≤ g 2 0 ∧ g 2 0 ≤ 10) (hi3 : g 3 0 = g 35 0 ∧ 0 ≤ g 3 0 ∧ g 3 0 ≤ 200) (hi4 : 0 ≤ g 5 0 ∧ g 5 0 ≤ 52) (hi5 : 0 ≤ g 4 0 ∧ g 4 0 ≤ i.toInt) (hi6 : 0 ≤ g 6 0 ∧ g 6 0 ≤ 300) (hi7 : 0 ≤ g 7 0 ∧ g 7 0 ≤ g 36 0 ∧ g 36 0 ≤ 9) (hi8 : g 101 0 = g 1 0) (hi9 : g 104 0 = g 2 0) (hi10 : g 112 0 = g 5 0) (hi11 : g 111 0 = g 4 0) (hi12 : g 114 0 = g 6 0) (hi13 : 0 ≤ g 126 0 ∧ g 126 0 ≤ 200) (hi14 : 0 ≤ g 122 0 ∧ g 122 0 ≤ 30) (hi15 : g 14 0 = g 121 0) (hi16 : g 18 0 = g 118 0) (hIJ : IJ g) (hTE : pz_t g = g 19) (hU : Un Γ) (t_q1 : ty Γ q1 1) (t_q12 : ty Γ q12 30) (t_q25 : ty Γ q25 25) (hkc : kc ≤ 300 + i.toInt.toNat) (hks : ks ≤ 30000 + 28 * i.toInt.toNat) (hG : ty_ok (dC, dI) vwCl Γ (TP dA Γ g) sz X H) (hS : va_S (ty_A sz) s.heap H locs) (hl : lv_has ls 7 [(4, .int i), (3, .ref q25), (2, .ref q12), (1, .ref q1), (0, .ref b)]) (hiL : i.toInt + 6 ≤ (L : Int)) : W p l e room_1 s m #[Value.ref b] below meth c H locs kc ks (lw_Z below #[Value.ref b] s) (F0 m 336 ls []) := by
  refine lv_aload_n hx hb dL_law_336 rfl (lv_at hl 3 rfl) ?_
  refine lv_aload_n hx hb dL_law_337 rfl (lv_at hl 4 rfl) ?_
  refine lv_iload hx hb dL_law_338 (lv_at hl 0 rfl) ?_
  refine ty_iconst hx hb (1) dL_law_340 (by decide) (fun x392 h393 => ?_)
  refine ty_iadd hx hb dL_law_341 (fun x394 h395 => ?_)
  have h396 := lw_ix (k := 1) h393 h395 hi0 hiL hLN (by decide)
  refine va_sld hx hb hXs hbl hbA hS (i := x394) (ty_ix h396.2) dL_law_342 ?_
  refine W.eq (g2 := F0 m 343 ls [.int (xs (i.toInt.toNat + 1)), .ref q1]) (by rw [lw_xs (xs := xs) h396.1 hi0.1]) ?_
  clear h396 h395 h393
  refine lv_topi (fun x397 s398 => ?_)
  refine cI (va_runV (C := RX8) (As := [.int x397]) (rest := []) ⟨hx, hb, hml, hown, hA⟩ (k_X8_end l dC dI dA sz X Γ hU g q1 t_q1 x397   (by first | with_reducible assumption | omega)) ⟨callB_of 1 hA (al_A wd_2_84) rfl rfl rfl (hA _ wd_1_1) (hA _ wd_2_81) (by decide +kernel) ⟨Nat.le_of_ble_eq_true rfl, Nat.le_of_ble_eq_true rfl⟩, hA _ wd_2_82, hA _ wd_2_83⟩ ⟨bl, recv_X8 hE hG t_q1, fun U hU9 hW9 => ⟨rfl, by rw [hU9]; exact hG, hE.go hS hU9 hW9⟩⟩ rfl rfl hl.1 rfl (lv_room (Nat.le_of_ble_eq_true rfl)) dL_law_343 ⟨(Nat.le_trans (show kc + 0 ≤ 300000 by omega) (Nat.le_of_ble_eq_true rfl)), (Nat.le_trans (show ks + 0 ≤ 300000 by omega) (Nat.le_of_ble_eq_true rfl))⟩) hS (fun x401 u399 H locs w400 hG hS => ?_)
  obtain ⟨hf402, w400⟩ := w400
  have hj403 : IJ u399 := IJ_cg (hf402 126 0 (by decide)) (fun j => hf402 132 j (by decide)) (fun j => hf402 134 j (by decide)) (by (repeat (first | with_reducible assumption | (refine IJ_c (by decide) (by decide) (by decide) ?_) | (refine IJ_take (by omega) (by omega) ?_) | (refine IJ_how (by omega) ?_) | (refine IJ_by (by omega) ?_))))
  replace w400 := or2 w400.1 w400.2 (by exact Classical.em _)
  rcases w400 with w400 | w400
  · skip
    refine lv_pop hx hb dL_law_346 rfl ?_
    refine lv_aload_n hx hb dL_law_347 rfl (lv_at hl 2 rfl) ?_
    refine lv_aload_n hx hb dL_law_348 rfl (lv_at hl 4 rfl) ?_
    refine lv_iload hx hb dL_law_349 (lv_at hl 0 rfl) ?_
    refine ty_iconst hx hb (1) dL_law_351 (by decide) (fun x404 h405 => ?_)
    refine ty_iadd hx hb dL_law_352 (fun x406 h407 => ?_)
    have h408 := lw_ix (k := 1) h405 h407 hi0 hiL hLN (by decide)
    refine va_sld hx hb hXs hbl hbA hS (i := x406) (ty_ix h408.2) dL_law_353 ?_
    refine W.eq (g2 := F0 m 354 ls [.int (xs (i.toInt.toNat + 1)), .ref q12]) (by rw [lw_xs (xs := xs) h408.1 hi0.1]) ?_
    clear h408 h407 h405
    refine W.eq (g2 := F0 m 354 ls [.int x397, .ref q12]) (by rw [s398]) ?_
    have hk409 : u399 114 0 = g 114 0 := hf402 114 0 (by decide)
    refine cI (va_runV (C := RX9) (As := [.int x397]) (rest := []) ⟨hx, hb, hml, hown, hA⟩ (k_X9_end l dC dI dA sz X Γ hU u399 q12 t_q12 x397   (by first | with_reducible assumption | omega)) ⟨callB_of 1 hA (al_A wd_5_66) rfl rfl rfl (hA _ wd_1_7) (hA _ wd_5_63) (by decide +kernel) ⟨Nat.le_of_ble_eq_true rfl, Nat.le_of_ble_eq_true rfl⟩, hA _ wd_5_64, hA _ wd_5_65⟩ ⟨bl, recv_X9 hE hG t_q12, fun U hU9 hW9 => ⟨rfl, by rw [hU9]; exact hG, hE.go hS hU9 hW9⟩⟩ rfl rfl hl.1 rfl (lv_room (Nat.le_of_ble_eq_true rfl)) dL_law_354 ⟨(Nat.le_trans (show kc + 0 ≤ 300000 by omega) (Nat.le_of_ble_eq_true rfl)), (Nat.le_trans (show ks + 0 ≤ 300000 by omega) (Nat.le_of_ble_eq_true rfl))⟩) hS (fun x412 u410 H locs w411 hG hS => ?_)
    obtain ⟨hf413, w411⟩ := w411
    have hj414 : IJ u410 := IJ_cg (hf413 126 0 (by decide) (by decide)) (fun j => hf413 132 j (by decide) (by decide)) (fun j => hf413 134 j (by decide) (by decide)) (by (repeat (first | with_reducible assumption | (refine IJ_c (by decide) (by decide) (by decide) ?_) | (refine IJ_take (by omega) (by omega) ?_) | (refine IJ_how (by omega) ?_) | (refine IJ_by (by omega) ?_))))
    replace w411 := or2 w411.1 w411.2 (by exact Classical.em _)
    rcases w411 with w411 | w411
    · skip
      refine lv_pop hx hb dL_law_357 rfl ?_
      refine lv_goto (tgt := 1047) hx hb dL_law_358 (by decide) ?_
      obtain ⟨x415, h416⟩ : ∃ y : Int32, y = i + Int32.ofInt (6) := ⟨_, rfl⟩
      try have h417 : x415.toInt = i.toInt + (6) := ty_inc h416 (by decide) (by omega) (by omega)
      refine lv_iinc (v := x415) (lv' := [(4, .int x415), (3, .ref q25), (2, .ref q12), (1, .ref q1), (0, .ref b)]) hx hb dL_law_1047 hl (k := 0) rfl h416.symm (by decide) rfl (fun ls hl => ?_)
      refine lv_goto (tgt := 23) hx hb dL_law_1050 (by decide) ?_
      have hk418 : u410 4 0 = u399 4 0 := hf413 4 0 (by decide) (by decide)
      have hk419 : u399 4 0 = g 4 0 := hf402 4 0 (by decide)
      have hk420 : u410 6 0 = u399 6 0 := hf413 6 0 (by decide) (by decide)
      exact ih x415 Γ u410 (kc) (ks) _ _ ls (by omega) (by omega) (by rw [hf413 1 0 (by decide) (by decide), hf402 1 0 (by decide), hf413 33 0 (by decide) (by decide), hf402 33 0 (by decide)]; exact hi1) (by rw [hf413 2 0 (by decide) (by decide), hf402 2 0 (by decide), hf413 34 0 (by decide) (by decide), hf402 34 0 (by decide)]; exact hi2) (by rw [hf413 3 0 (by decide) (by decide), hf402 3 0 (by decide), hf413 35 0 (by decide) (by decide), hf402 35 0 (by decide)]; exact hi3) (by rw [hf413 5 0 (by decide) (by decide), hf402 5 0 (by decide)]; exact hi4) (by omega) (by omega) (by rw [hf413 7 0 (by decide) (by decide), hf402 7 0 (by decide), hf413 36 0 (by decide) (by decide), hf402 36 0 (by decide)]; exact hi7) (by rw [hf413 101 0 (by decide) (by decide), hf402 101 0 (by decide), hf413 1 0 (by decide) (by decide), hf402 1 0 (by decide)]; exact hi8) (by rw [hf413 104 0 (by decide) (by decide), hf402 104 0 (by decide), hf413 2 0 (by decide) (by decide), hf402 2 0 (by decide)]; exact hi9) (by rw [hf413 112 0 (by decide) (by decide), hf402 112 0 (by decide), hf413 5 0 (by decide) (by decide), hf402 5 0 (by decide)]; exact hi10) (by rw [hf413 111 0 (by decide) (by decide), hf402 111 0 (by decide), hf413 4 0 (by decide) (by decide), hf402 4 0 (by decide)]; exact hi11) (by omega) (by rw [hf413 126 0 (by decide) (by decide), hf402 126 0 (by decide)]; exact hi13) (by rw [hf413 122 0 (by decide) (by decide), hf402 122 0 (by decide)]; exact hi14) (by rw [hf413 14 0 (by decide) (by decide), hf402 14 0 (by decide), hf413 121 0 (by decide) (by decide), hf402 121 0 (by decide)]; exact hi15) (by rw [hf413 18 0 (by decide) (by decide), hf402 18 0 (by decide), hf413 118 0 (by decide) (by decide), hf402 118 0 (by decide)]; exact hi16) (by (repeat (first | with_reducible assumption | (refine IJ_c (by decide) (by decide) (by decide) ?_) | (refine IJ_take (by omega) (by omega) ?_) | (refine IJ_how (by omega) ?_) | (refine IJ_by (by omega) ?_)))) (funext fun j => by show u410 113 j % 256 = u410 19 j; rw [hf413 113 j (by decide) (by decide), hf402 113 j (by decide), hf413 19 j (by decide) (by decide), hf402 19 j (by decide)]; exact congrFun hTE j) hU t_q1 t_q12 t_q25 (by omega) (by omega) hG hS (lv_sub hl [0, 1, 2, 3, 4] rfl)
    · exfalso; omega
  · skip
    refine lv_pop hx hb dL_law_346 rfl ?_
    refine lv_aload_n hx hb dL_law_347 rfl (lv_at hl 2 rfl) ?_
    refine lv_aload_n hx hb dL_law_348 rfl (lv_at hl 4 rfl) ?_
    refine lv_iload hx hb dL_law_349 (lv_at hl 0 rfl) ?_
    refine ty_iconst hx hb (1) dL_law_351 (by decide) (fun x421 h422 => ?_)
    refine ty_iadd hx hb dL_law_352 (fun x423 h424 => ?_)
    have h425 := lw_ix (k := 1) h422 h424 hi0 hiL hLN (by decide)
    refine va_sld hx hb hXs hbl hbA hS (i := x423) (ty_ix h425.2) dL_law_353 ?_
    refine W.eq (g2 := F0 m 354 ls [.int (xs (i.toInt.toNat + 1)), .ref q12]) (by rw [lw_xs (xs := xs) h425.1 hi0.1]) ?_
    clear h425 h424 h422
    refine W.eq (g2 := F0 m 354 ls [.int x397, .ref q12]) (by rw [s398]) ?_
    have hk426 : u399 114 0 = g 114 0 := hf402 114 0 (by decide)
    refine cI (va_runV (C := RX9) (As := [.int x397]) (rest := []) ⟨hx, hb, hml, hown, hA⟩ (k_X9_end l dC dI dA sz X Γ hU u399 q12 t_q12 x397   (by first | with_reducible assumption | omega)) ⟨callB_of 1 hA (al_A wd_5_66) rfl rfl rfl (hA _ wd_1_7) (hA _ wd_5_63) (by decide +kernel) ⟨Nat.le_of_ble_eq_true rfl, Nat.le_of_ble_eq_true rfl⟩, hA _ wd_5_64, hA _ wd_5_65⟩ ⟨bl, recv_X9 hE hG t_q12, fun U hU9 hW9 => ⟨rfl, by rw [hU9]; exact hG, hE.go hS hU9 hW9⟩⟩ rfl rfl hl.1 rfl (lv_room (Nat.le_of_ble_eq_true rfl)) dL_law_354 ⟨(Nat.le_trans (show kc + 0 ≤ 300000 by omega) (Nat.le_of_ble_eq_true rfl)), (Nat.le_trans (show ks + 0 ≤ 300000 by omega) (Nat.le_of_ble_eq_true rfl))⟩) hS (fun x429 u427 H locs w428 hG hS => ?_)
    obtain ⟨hf430, w428⟩ := w428
    have hj431 : IJ u427 := IJ_cg (hf430 126 0 (by decide) (by decide)) (fun j => hf430 132 j (by decide) (by decide)) (fun j => hf430 134 j (by decide) (by decide)) (by (repeat (first | with_reducible assumption | (refine IJ_c (by decide) (by decide) (by decide) ?_) | (refine IJ_take (by omega) (by omega) ?_) | (refine IJ_how (by omega) ?_) | (refine IJ_by (by omega) ?_))))
    replace w428 := or2 w428.1 w428.2 (by exact Classical.em _)
    rcases w428 with w428 | w428
    · exfalso; omega
    · skip
      refine lv_pop hx hb dL_law_357 rfl ?_
      refine lv_goto (tgt := 1047) hx hb dL_law_358 (by decide) ?_
      obtain ⟨x432, h433⟩ : ∃ y : Int32, y = i + Int32.ofInt (6) := ⟨_, rfl⟩
      try have h434 : x432.toInt = i.toInt + (6) := ty_inc h433 (by decide) (by omega) (by omega)
      refine lv_iinc (v := x432) (lv' := [(4, .int x432), (3, .ref q25), (2, .ref q12), (1, .ref q1), (0, .ref b)]) hx hb dL_law_1047 hl (k := 0) rfl h433.symm (by decide) rfl (fun ls hl => ?_)
      refine lv_goto (tgt := 23) hx hb dL_law_1050 (by decide) ?_
      have hk435 : u427 4 0 = u399 4 0 := hf430 4 0 (by decide) (by decide)
      have hk436 : u399 4 0 = g 4 0 := hf402 4 0 (by decide)
      have hk437 : u427 6 0 = u399 6 0 := hf430 6 0 (by decide) (by decide)
      exact ih x432 Γ u427 (kc) (ks) _ _ ls (by omega) (by omega) (by rw [hf430 1 0 (by decide) (by decide), hf402 1 0 (by decide), hf430 33 0 (by decide) (by decide), hf402 33 0 (by decide)]; exact hi1) (by rw [hf430 2 0 (by decide) (by decide), hf402 2 0 (by decide), hf430 34 0 (by decide) (by decide), hf402 34 0 (by decide)]; exact hi2) (by rw [hf430 3 0 (by decide) (by decide), hf402 3 0 (by decide), hf430 35 0 (by decide) (by decide), hf402 35 0 (by decide)]; exact hi3) (by rw [hf430 5 0 (by decide) (by decide), hf402 5 0 (by decide)]; exact hi4) (by omega) (by omega) (by rw [hf430 7 0 (by decide) (by decide), hf402 7 0 (by decide), hf430 36 0 (by decide) (by decide), hf402 36 0 (by decide)]; exact hi7) (by rw [hf430 101 0 (by decide) (by decide), hf402 101 0 (by decide), hf430 1 0 (by decide) (by decide), hf402 1 0 (by decide)]; exact hi8) (by rw [hf430 104 0 (by decide) (by decide), hf402 104 0 (by decide), hf430 2 0 (by decide) (by decide), hf402 2 0 (by decide)]; exact hi9) (by rw [hf430 112 0 (by decide) (by decide), hf402 112 0 (by decide), hf430 5 0 (by decide) (by decide), hf402 5 0 (by decide)]; exact hi10) (by rw [hf430 111 0 (by decide) (by decide), hf402 111 0 (by decide), hf430 4 0 (by decide) (by decide), hf402 4 0 (by decide)]; exact hi11) (by omega) (by rw [hf430 126 0 (by decide) (by decide), hf402 126 0 (by decide)]; exact hi13) (by rw [hf430 122 0 (by decide) (by decide), hf402 122 0 (by decide)]; exact hi14) (by rw [hf430 14 0 (by decide) (by decide), hf402 14 0 (by decide), hf430 121 0 (by decide) (by decide), hf402 121 0 (by decide)]; exact hi15) (by rw [hf430 18 0 (by decide) (by decide), hf402 18 0 (by decide), hf430 118 0 (by decide) (by decide), hf402 118 0 (by decide)]; exact hi16) (by (repeat (first | with_reducible assumption | (refine IJ_c (by decide) (by decide) (by decide) ?_) | (refine IJ_take (by omega) (by omega) ?_) | (refine IJ_how (by omega) ?_) | (refine IJ_by (by omega) ?_)))) (funext fun j => by show u427 113 j % 256 = u427 19 j; rw [hf430 113 j (by decide) (by decide), hf402 113 j (by decide), hf430 19 j (by decide) (by decide), hf402 19 j (by decide)]; exact congrFun hTE j) hU t_q1 t_q12 t_q25 (by omega) (by omega) hG hS (lv_sub hl [0, 1, 2, 3, 4] rfl)
set_option maxHeartbeats 40000000 in
set_option maxRecDepth 100000 in
/-- the law's case 5 -/
theorem law_c5 {p : Program} {e : Env} {s : State} {m : MethodId} {below : List Frame} {meth : Method} {c : Code} (l : Launch) (hl9 : l.stackTraces = false) {b L : Nat} {xs : Nat → Int32} (hLN : L ≤ 3072) (hx : p.tables.exec = Jvm.exec) (hb : c.code = code) (hr : meth.sig.returnType = ret) (hml : c.maxLocals = 7) (hown : s.vm.findClass R_law = some m.cls) (hA : ∀ w ∈ AL, w.before #[Value.ref b] s = true) (hXs : va_X b L xs s s.heap) (hbl : b < s.heap.size) (hlocks : meth.locks = false) {dC : Nat → ClassId} {dI : Nat → Nat → Nat} {dA : Nat → ClassId} {sz : Nat} (hE : en dC dI dA sz s) (hsz : sz = s.heap.size) (hbA : ¬ ty_A sz b) (X : va_W) (q1 q12 q25 : Nat) (n : Nat) (ih : LJ p l e s m below meth c b dC dI dA sz X q1 q12 q25 n) (i : Int32) (Γ : ty_G) (g : gh) (kc ks : Nat) (H : Heap) (locs : List Loc) (ls : Array Slot) (hm : (3073 - i.toInt : Int) < (n + 1 : Nat)) (hi0 : 0 ≤ i.toInt ∧ i.toInt ≤ 3072) (hi1 : g 1 0 = g 33 0 ∧ 0 ≤ g 1 0 ∧ g 1 0 ≤ 6) (hi2 : g 2 0 = g 34 0 ∧ 0 ≤ g 2 0 ∧ g 2 0 ≤ 10) (hi3 : g 3 0 = g 35 0 ∧ 0 ≤ g 3 0 ∧ g 3 0 ≤ 200) (hi4 : 0 ≤ g 5 0 ∧ g 5 0 ≤ 52) (hi5 : 0 ≤ g 4 0 ∧ g 4 0 ≤ i.toInt) (hi6 : 0 ≤ g 6 0 ∧ g 6 0 ≤ 300) (hi7 : 0 ≤ g 7 0 ∧ g 7 0 ≤ g 36 0 ∧ g 36 0 ≤ 9) (hi8 : g 101 0 = g 1 0) (hi9 : g 104 0 = g 2 0) (hi10 : g 112 0 = g 5 0) (hi11 : g 111 0 = g 4 0) (hi12 : g 114 0 = g 6 0) (hi13 : 0 ≤ g 126 0 ∧ g 126 0 ≤ 200) (hi14 : 0 ≤ g 122 0 ∧ g 122 0 ≤ 30) (hi15 : g 14 0 = g 121 0) (hi16 : g 18 0 = g 118 0) (hIJ : IJ g) (hTE : pz_t g = g 19) (hU : Un Γ) (t_q1 : ty Γ q1 1) (t_q12 : ty Γ q12 30) (t_q25 : ty Γ q25 25) (hkc : kc ≤ 300 + i.toInt.toNat) (hks : ks ≤ 30000 + 28 * i.toInt.toNat) (hG : ty_ok (dC, dI) vwCl Γ (TP dA Γ g) sz X H) (hS : va_S (ty_A sz) s.heap H locs) (hl : lv_has ls 7 [(4, .int i), (3, .ref q25), (2, .ref q12), (1, .ref q1), (0, .ref b)]) (hiL : i.toInt + 6 ≤ (L : Int)) : W p l e room_1 s m #[Value.ref b] below meth c H locs kc ks (lw_Z below #[Value.ref b] s) (F0 m 361 ls []) := by
  refine lv_aload_n hx hb dL_law_361 rfl (lv_at hl 3 rfl) ?_
  refine cI (va_runV (C := RX8) (As := []) (rest := []) ⟨hx, hb, hml, hown, hA⟩ (k_X8_rules l dC dI dA sz X Γ hU g q1 t_q1 (g 19) (g 6 0).toNat  (by first | with_reducible assumption | omega) (rfl) (by omega)) ⟨callB_of 0 hA (al_A wd_2_88) rfl rfl rfl (hA _ wd_1_1) (hA _ wd_2_85) (by decide +kernel) ⟨Nat.le_of_ble_eq_true rfl, Nat.le_of_ble_eq_true rfl⟩, hA _ wd_2_86, hA _ wd_2_87⟩ ⟨bl, recv_X8 hE hG t_q1, fun U hU9 hW9 => ⟨rfl, by rw [hU9]; exact hG, hE.go hS hU9 hW9⟩⟩ rfl rfl hl.1 rfl (lv_room (Nat.le_of_ble_eq_true rfl)) dL_law_362 ⟨(Nat.le_trans (show kc + 0 ≤ 300000 by omega) (Nat.le_of_ble_eq_true rfl)), (Nat.le_trans (show ks + 0 ≤ 300000 by omega) (Nat.le_of_ble_eq_true rfl))⟩) hS (fun x440 u438 H locs w439 hG hS => ?_)
  obtain ⟨hf442, w439, hq441⟩ := w439
  have hj443 : IJ u438 := IJ_cg (hf442 126 0 (by decide) (by decide) (by decide) (by decide) (by decide) (by decide) (by decide) (by decide) (by decide) (by decide) (by decide)) (fun j => hf442 132 j (by decide) (by decide) (by decide) (by decide) (by decide) (by decide) (by decide) (by decide) (by decide) (by decide) (by decide)) (fun j => hf442 134 j (by decide) (by decide) (by decide) (by decide) (by decide) (by decide) (by decide) (by decide) (by decide) (by decide) (by decide)) (by (repeat (first | with_reducible assumption | (refine IJ_c (by decide) (by decide) (by decide) ?_) | (refine IJ_take (by omega) (by omega) ?_) | (refine IJ_how (by omega) ?_) | (refine IJ_by (by omega) ?_))))
  obtain ⟨hq441a, hq441b, hq441c⟩ := hq441
  refine lv_pop hx hb dL_law_365 rfl ?_
  refine lv_aload_n hx hb dL_law_366 rfl (lv_at hl 2 rfl) ?_
  have hk444 : u438 114 0 = g 114 0 := hf442 114 0 (by decide) (by decide) (by decide) (by decide) (by decide) (by decide) (by decide) (by decide) (by decide) (by decide) (by decide)
  have hk445 : u438 122 0 = g 122 0 := hf442 122 0 (by decide) (by decide) (by decide) (by decide) (by decide) (by decide) (by decide) (by decide) (by decide) (by decide) (by decide)
  refine cI (va_runV (C := RX9) (As := []) (rest := []) ⟨hx, hb, hml, hown, hA⟩ (k_X9_rules l dC dI dA sz X Γ hU u438 q12 t_q12 (g 19) (g 6 0).toNat  (by first | with_reducible assumption | omega) ((funext fun j => show u438 113 j % 256 = g 113 j % 256 by rw [hf442 113 j (by decide) (by decide) (by decide) (by decide) (by decide) (by decide) (by decide) (by decide) (by decide) (by decide) (by decide)]).trans hTE) (by omega)) ⟨callB_of 0 hA (al_A wd_5_70) rfl rfl rfl (hA _ wd_1_7) (hA _ wd_5_67) (by decide +kernel) ⟨Nat.le_of_ble_eq_true rfl, Nat.le_of_ble_eq_true rfl⟩, hA _ wd_5_68, hA _ wd_5_69⟩ ⟨bl, recv_X9 hE hG t_q12, fun U hU9 hW9 => ⟨rfl, by rw [hU9]; exact hG, hE.go hS hU9 hW9⟩⟩ rfl rfl hl.1 rfl (lv_room (Nat.le_of_ble_eq_true rfl)) dL_law_367 ⟨(Nat.le_trans (show kc + 0 ≤ 300000 by omega) (Nat.le_of_ble_eq_true rfl)), (Nat.le_trans (show ks + 0 ≤ 300000 by omega) (Nat.le_of_ble_eq_true rfl))⟩) hS (fun x448 u446 H locs w447 hG hS => ?_)
  obtain ⟨hf450, w447, hq449⟩ := w447
  have hj451 : IJ u446 := IJ_cg (hf450 126 0 (by decide) (by decide) (by decide) (by decide) (by decide) (by decide) (by decide) (by decide) (by decide) (by decide) (by decide) (by decide) (by decide)) (fun j => hf450 132 j (by decide) (by decide) (by decide) (by decide) (by decide) (by decide) (by decide) (by decide) (by decide) (by decide) (by decide) (by decide) (by decide)) (fun j => hf450 134 j (by decide) (by decide) (by decide) (by decide) (by decide) (by decide) (by decide) (by decide) (by decide) (by decide) (by decide) (by decide) (by decide)) (by (repeat (first | with_reducible assumption | (refine IJ_c (by decide) (by decide) (by decide) ?_) | (refine IJ_take (by omega) (by omega) ?_) | (refine IJ_how (by omega) ?_) | (refine IJ_by (by omega) ?_))))
  rw [show u438 118 0 = g 18 0 by rw [hf442 118 0 (by decide) (by decide) (by decide) (by decide) (by decide) (by decide) (by decide) (by decide) (by decide) (by decide) (by decide)]; omega] at hq449
  obtain ⟨hq449a, hq449b, hq449c⟩ := hq449
  refine lv_pop hx hb dL_law_370 rfl ?_
  refine lv_goto (tgt := 1047) hx hb dL_law_371 (by decide) ?_
  obtain ⟨x452, h453⟩ : ∃ y : Int32, y = i + Int32.ofInt (6) := ⟨_, rfl⟩
  try have h454 : x452.toInt = i.toInt + (6) := ty_inc h453 (by decide) (by omega) (by omega)
  refine lv_iinc (v := x452) (lv' := [(4, .int x452), (3, .ref q25), (2, .ref q12), (1, .ref q1), (0, .ref b)]) hx hb dL_law_1047 hl (k := 0) rfl h453.symm (by decide) rfl (fun ls hl => ?_)
  refine lv_goto (tgt := 23) hx hb dL_law_1050 (by decide) ?_
  have hk455 : u446 4 0 = u438 4 0 := hf450 4 0 (by decide) (by decide) (by decide) (by decide) (by decide) (by decide) (by decide) (by decide) (by decide) (by decide) (by decide) (by decide) (by decide)
  have hk456 : u438 4 0 = g 4 0 := hf442 4 0 (by decide) (by decide) (by decide) (by decide) (by decide) (by decide) (by decide) (by decide) (by decide) (by decide) (by decide)
  have hk457 : u446 6 0 = u438 6 0 := hf450 6 0 (by decide) (by decide) (by decide) (by decide) (by decide) (by decide) (by decide) (by decide) (by decide) (by decide) (by decide) (by decide) (by decide)
  have hk458 : u446 14 0 = u438 14 0 := hf450 14 0 (by decide) (by decide) (by decide) (by decide) (by decide) (by decide) (by decide) (by decide) (by decide) (by decide) (by decide) (by decide) (by decide)
  have hk459 : u446 18 0 = u438 18 0 := hf450 18 0 (by decide) (by decide) (by decide) (by decide) (by decide) (by decide) (by decide) (by decide) (by decide) (by decide) (by decide) (by decide) (by decide)
  exact ih x452 Γ u446 (kc) (ks) _ _ ls (by omega) (by omega) (by rw [hf450 1 0 (by decide) (by decide) (by decide) (by decide) (by decide) (by decide) (by decide) (by decide) (by decide) (by decide) (by decide) (by decide) (by decide), hf442 1 0 (by decide) (by decide) (by decide) (by decide) (by decide) (by decide) (by decide) (by decide) (by decide) (by decide) (by decide), hf450 33 0 (by decide) (by decide) (by decide) (by decide) (by decide) (by decide) (by decide) (by decide) (by decide) (by decide) (by decide) (by decide) (by decide), hf442 33 0 (by decide) (by decide) (by decide) (by decide) (by decide) (by decide) (by decide) (by decide) (by decide) (by decide) (by decide)]; exact hi1) (by rw [hf450 2 0 (by decide) (by decide) (by decide) (by decide) (by decide) (by decide) (by decide) (by decide) (by decide) (by decide) (by decide) (by decide) (by decide), hf442 2 0 (by decide) (by decide) (by decide) (by decide) (by decide) (by decide) (by decide) (by decide) (by decide) (by decide) (by decide), hf450 34 0 (by decide) (by decide) (by decide) (by decide) (by decide) (by decide) (by decide) (by decide) (by decide) (by decide) (by decide) (by decide) (by decide), hf442 34 0 (by decide) (by decide) (by decide) (by decide) (by decide) (by decide) (by decide) (by decide) (by decide) (by decide) (by decide)]; exact hi2) (by rw [hf450 3 0 (by decide) (by decide) (by decide) (by decide) (by decide) (by decide) (by decide) (by decide) (by decide) (by decide) (by decide) (by decide) (by decide), hf442 3 0 (by decide) (by decide) (by decide) (by decide) (by decide) (by decide) (by decide) (by decide) (by decide) (by decide) (by decide), hf450 35 0 (by decide) (by decide) (by decide) (by decide) (by decide) (by decide) (by decide) (by decide) (by decide) (by decide) (by decide) (by decide) (by decide), hf442 35 0 (by decide) (by decide) (by decide) (by decide) (by decide) (by decide) (by decide) (by decide) (by decide) (by decide) (by decide)]; exact hi3) (by rw [hf450 5 0 (by decide) (by decide) (by decide) (by decide) (by decide) (by decide) (by decide) (by decide) (by decide) (by decide) (by decide) (by decide) (by decide), hf442 5 0 (by decide) (by decide) (by decide) (by decide) (by decide) (by decide) (by decide) (by decide) (by decide) (by decide) (by decide)]; exact hi4) (by omega) (by omega) (by rw [hf450 7 0 (by decide) (by decide) (by decide) (by decide) (by decide) (by decide) (by decide) (by decide) (by decide) (by decide) (by decide) (by decide) (by decide), hf442 7 0 (by decide) (by decide) (by decide) (by decide) (by decide) (by decide) (by decide) (by decide) (by decide) (by decide) (by decide), hf450 36 0 (by decide) (by decide) (by decide) (by decide) (by decide) (by decide) (by decide) (by decide) (by decide) (by decide) (by decide) (by decide) (by decide), hf442 36 0 (by decide) (by decide) (by decide) (by decide) (by decide) (by decide) (by decide) (by decide) (by decide) (by decide) (by decide)]; exact hi7) (by rw [hf450 101 0 (by decide) (by decide) (by decide) (by decide) (by decide) (by decide) (by decide) (by decide) (by decide) (by decide) (by decide) (by decide) (by decide), hf442 101 0 (by decide) (by decide) (by decide) (by decide) (by decide) (by decide) (by decide) (by decide) (by decide) (by decide) (by decide), hf450 1 0 (by decide) (by decide) (by decide) (by decide) (by decide) (by decide) (by decide) (by decide) (by decide) (by decide) (by decide) (by decide) (by decide), hf442 1 0 (by decide) (by decide) (by decide) (by decide) (by decide) (by decide) (by decide) (by decide) (by decide) (by decide) (by decide)]; exact hi8) (by rw [hf450 104 0 (by decide) (by decide) (by decide) (by decide) (by decide) (by decide) (by decide) (by decide) (by decide) (by decide) (by decide) (by decide) (by decide), hf442 104 0 (by decide) (by decide) (by decide) (by decide) (by decide) (by decide) (by decide) (by decide) (by decide) (by decide) (by decide), hf450 2 0 (by decide) (by decide) (by decide) (by decide) (by decide) (by decide) (by decide) (by decide) (by decide) (by decide) (by decide) (by decide) (by decide), hf442 2 0 (by decide) (by decide) (by decide) (by decide) (by decide) (by decide) (by decide) (by decide) (by decide) (by decide) (by decide)]; exact hi9) (by rw [hf450 112 0 (by decide) (by decide) (by decide) (by decide) (by decide) (by decide) (by decide) (by decide) (by decide) (by decide) (by decide) (by decide) (by decide), hf442 112 0 (by decide) (by decide) (by decide) (by decide) (by decide) (by decide) (by decide) (by decide) (by decide) (by decide) (by decide), hf450 5 0 (by decide) (by decide) (by decide) (by decide) (by decide) (by decide) (by decide) (by decide) (by decide) (by decide) (by decide) (by decide) (by decide), hf442 5 0 (by decide) (by decide) (by decide) (by decide) (by decide) (by decide) (by decide) (by decide) (by decide) (by decide) (by decide)]; exact hi10) (by rw [hf450 111 0 (by decide) (by decide) (by decide) (by decide) (by decide) (by decide) (by decide) (by decide) (by decide) (by decide) (by decide) (by decide) (by decide), hf442 111 0 (by decide) (by decide) (by decide) (by decide) (by decide) (by decide) (by decide) (by decide) (by decide) (by decide) (by decide), hf450 4 0 (by decide) (by decide) (by decide) (by decide) (by decide) (by decide) (by decide) (by decide) (by decide) (by decide) (by decide) (by decide) (by decide), hf442 4 0 (by decide) (by decide) (by decide) (by decide) (by decide) (by decide) (by decide) (by decide) (by decide) (by decide) (by decide)]; exact hi11) (by omega) (by rw [hf450 126 0 (by decide) (by decide) (by decide) (by decide) (by decide) (by decide) (by decide) (by decide) (by decide) (by decide) (by decide) (by decide) (by decide), hf442 126 0 (by decide) (by decide) (by decide) (by decide) (by decide) (by decide) (by decide) (by decide) (by decide) (by decide) (by decide)]; exact hi13) (by omega) (by omega) (by omega) (by (repeat (first | with_reducible assumption | (refine IJ_c (by decide) (by decide) (by decide) ?_) | (refine IJ_take (by omega) (by omega) ?_) | (refine IJ_how (by omega) ?_) | (refine IJ_by (by omega) ?_)))) (funext fun j => by show u446 113 j % 256 = u446 19 j; rw [hf450 113 j (by decide) (by decide) (by decide) (by decide) (by decide) (by decide) (by decide) (by decide) (by decide) (by decide) (by decide) (by decide) (by decide), hf442 113 j (by decide) (by decide) (by decide) (by decide) (by decide) (by decide) (by decide) (by decide) (by decide) (by decide) (by decide), hf450 19 j (by decide) (by decide) (by decide) (by decide) (by decide) (by decide) (by decide) (by decide) (by decide) (by decide) (by decide) (by decide) (by decide), hf442 19 j (by decide) (by decide) (by decide) (by decide) (by decide) (by decide) (by decide) (by decide) (by decide) (by decide) (by decide)]; exact congrFun hTE j) hU t_q1 t_q12 t_q25 (by omega) (by omega) hG hS (lv_sub hl [0, 1, 2, 3, 4] rfl)
set_option maxHeartbeats 40000000 in
set_option maxRecDepth 100000 in
/-- the law's case 6 -/
theorem law_c6 {p : Program} {e : Env} {s : State} {m : MethodId} {below : List Frame} {meth : Method} {c : Code} (l : Launch) (hl9 : l.stackTraces = false) {b L : Nat} {xs : Nat → Int32} (hLN : L ≤ 3072) (hx : p.tables.exec = Jvm.exec) (hb : c.code = code) (hr : meth.sig.returnType = ret) (hml : c.maxLocals = 7) (hown : s.vm.findClass R_law = some m.cls) (hA : ∀ w ∈ AL, w.before #[Value.ref b] s = true) (hXs : va_X b L xs s s.heap) (hbl : b < s.heap.size) (hlocks : meth.locks = false) {dC : Nat → ClassId} {dI : Nat → Nat → Nat} {dA : Nat → ClassId} {sz : Nat} (hE : en dC dI dA sz s) (hsz : sz = s.heap.size) (hbA : ¬ ty_A sz b) (X : va_W) (q1 q12 q25 : Nat) (n : Nat) (ih : LJ p l e s m below meth c b dC dI dA sz X q1 q12 q25 n) (i : Int32) (Γ : ty_G) (g : gh) (kc ks : Nat) (H : Heap) (locs : List Loc) (ls : Array Slot) (hm : (3073 - i.toInt : Int) < (n + 1 : Nat)) (hi0 : 0 ≤ i.toInt ∧ i.toInt ≤ 3072) (hi1 : g 1 0 = g 33 0 ∧ 0 ≤ g 1 0 ∧ g 1 0 ≤ 6) (hi2 : g 2 0 = g 34 0 ∧ 0 ≤ g 2 0 ∧ g 2 0 ≤ 10) (hi3 : g 3 0 = g 35 0 ∧ 0 ≤ g 3 0 ∧ g 3 0 ≤ 200) (hi4 : 0 ≤ g 5 0 ∧ g 5 0 ≤ 52) (hi5 : 0 ≤ g 4 0 ∧ g 4 0 ≤ i.toInt) (hi6 : 0 ≤ g 6 0 ∧ g 6 0 ≤ 300) (hi7 : 0 ≤ g 7 0 ∧ g 7 0 ≤ g 36 0 ∧ g 36 0 ≤ 9) (hi8 : g 101 0 = g 1 0) (hi9 : g 104 0 = g 2 0) (hi10 : g 112 0 = g 5 0) (hi11 : g 111 0 = g 4 0) (hi12 : g 114 0 = g 6 0) (hi13 : 0 ≤ g 126 0 ∧ g 126 0 ≤ 200) (hi14 : 0 ≤ g 122 0 ∧ g 122 0 ≤ 30) (hi15 : g 14 0 = g 121 0) (hi16 : g 18 0 = g 118 0) (hIJ : IJ g) (hTE : pz_t g = g 19) (hU : Un Γ) (t_q1 : ty Γ q1 1) (t_q12 : ty Γ q12 30) (t_q25 : ty Γ q25 25) (hkc : kc ≤ 300 + i.toInt.toNat) (hks : ks ≤ 30000 + 28 * i.toInt.toNat) (hG : ty_ok (dC, dI) vwCl Γ (TP dA Γ g) sz X H) (hS : va_S (ty_A sz) s.heap H locs) (hl : lv_has ls 7 [(4, .int i), (3, .ref q25), (2, .ref q12), (1, .ref q1), (0, .ref b)]) (hiL : i.toInt + 6 ≤ (L : Int)) : W p l e room_1 s m #[Value.ref b] below meth c H locs kc ks (lw_Z below #[Value.ref b] s) (F0 m 374 ls []) := by
  refine lv_aload_n hx hb dL_law_374 rfl (lv_at hl 3 rfl) ?_
  refine cI (va_runV (C := RX8) (As := []) (rest := []) ⟨hx, hb, hml, hown, hA⟩ (k_X8_place l dC dI dA sz X Γ hU g q1 t_q1   ) ⟨callB_of 0 hA (al_A wd_2_225) rfl rfl rfl (hA _ wd_1_1) (hA _ wd_2_222) (by decide +kernel) ⟨Nat.le_of_ble_eq_true rfl, Nat.le_of_ble_eq_true rfl⟩, hA _ wd_2_223, hA _ wd_2_224⟩ ⟨bl, recv_X8 hE hG t_q1, fun U hU9 hW9 => ⟨rfl, by rw [hU9]; exact hG, hE.go hS hU9 hW9⟩⟩ rfl rfl hl.1 rfl (lv_room (Nat.le_of_ble_eq_true rfl)) dL_law_375 ⟨(Nat.le_trans (show kc + 0 ≤ 300000 by omega) (Nat.le_of_ble_eq_true rfl)), (Nat.le_trans (show ks + 0 ≤ 300000 by omega) (Nat.le_of_ble_eq_true rfl))⟩) hS (fun x462 u460 H locs w461 hG hS => ?_)
  obtain ⟨eu463, w461⟩ := w461
  rw [eu463] at hG
  refine lv_aload_n hx hb dL_law_378 rfl (lv_at hl 2 rfl) ?_
  refine cI (va_runV (C := RX9) (As := []) (rest := [.int x462]) ⟨hx, hb, hml, hown, hA⟩ (k_X9_place l dC dI dA sz X Γ hU g q12 t_q12   ) ⟨callB_of 0 hA (al_A wd_5_112) rfl rfl rfl (hA _ wd_1_7) (hA _ wd_5_109) (by decide +kernel) ⟨Nat.le_of_ble_eq_true rfl, Nat.le_of_ble_eq_true rfl⟩, hA _ wd_5_110, hA _ wd_5_111⟩ ⟨bl, recv_X9 hE hG t_q12, fun U hU9 hW9 => ⟨rfl, by rw [hU9]; exact hG, hE.go hS hU9 hW9⟩⟩ rfl rfl hl.1 rfl (lv_room (Nat.le_of_ble_eq_true rfl)) dL_law_379 ⟨(Nat.le_trans (show kc + 0 ≤ 300000 by omega) (Nat.le_of_ble_eq_true rfl)), (Nat.le_trans (show ks + 0 ≤ 300000 by omega) (Nat.le_of_ble_eq_true rfl))⟩) hS (fun x466 u464 H locs w465 hG hS => ?_)
  obtain ⟨hf467, w465⟩ := w465
  have hj468 : IJ u464 := IJ_cg (hf467 126 0 (by decide)) (fun j => hf467 132 j (by decide)) (fun j => hf467 134 j (by decide)) (by (repeat (first | with_reducible assumption | (refine IJ_c (by decide) (by decide) (by decide) ?_) | (refine IJ_take (by omega) (by omega) ?_) | (refine IJ_how (by omega) ?_) | (refine IJ_by (by omega) ?_))))
  refine ty_icmp_eq (tgt := 1047) hx hb dL_law_382 (by decide) (fun c469 => ?_) (fun c469 => ?_)
  · skip
    obtain ⟨x470, h471⟩ : ∃ y : Int32, y = i + Int32.ofInt (6) := ⟨_, rfl⟩
    try have h472 : x470.toInt = i.toInt + (6) := ty_inc h471 (by decide) (by omega) (by omega)
    refine lv_iinc (v := x470) (lv' := [(4, .int x470), (3, .ref q25), (2, .ref q12), (1, .ref q1), (0, .ref b)]) hx hb dL_law_1047 hl (k := 0) rfl h471.symm (by decide) rfl (fun ls hl => ?_)
    refine lv_goto (tgt := 23) hx hb dL_law_1050 (by decide) ?_
    have hk473 : u464 4 0 = g 4 0 := hf467 4 0 (by decide)
    exact ih x470 Γ u464 (kc) (ks) _ _ ls (by omega) (by omega) (by rw [hf467 1 0 (by decide), hf467 33 0 (by decide)]; exact hi1) (by rw [hf467 2 0 (by decide), hf467 34 0 (by decide)]; exact hi2) (by rw [hf467 3 0 (by decide), hf467 35 0 (by decide)]; exact hi3) (by rw [hf467 5 0 (by decide)]; exact hi4) (by omega) (by rw [hf467 6 0 (by decide)]; exact hi6) (by rw [hf467 7 0 (by decide), hf467 36 0 (by decide)]; exact hi7) (by rw [hf467 101 0 (by decide), hf467 1 0 (by decide)]; exact hi8) (by rw [hf467 104 0 (by decide), hf467 2 0 (by decide)]; exact hi9) (by rw [hf467 112 0 (by decide), hf467 5 0 (by decide)]; exact hi10) (by rw [hf467 111 0 (by decide), hf467 4 0 (by decide)]; exact hi11) (by rw [hf467 114 0 (by decide), hf467 6 0 (by decide)]; exact hi12) (by rw [hf467 126 0 (by decide)]; exact hi13) (by rw [hf467 122 0 (by decide)]; exact hi14) (by rw [hf467 14 0 (by decide), hf467 121 0 (by decide)]; exact hi15) (by rw [hf467 18 0 (by decide), hf467 118 0 (by decide)]; exact hi16) (by (repeat (first | with_reducible assumption | (refine IJ_c (by decide) (by decide) (by decide) ?_) | (refine IJ_take (by omega) (by omega) ?_) | (refine IJ_how (by omega) ?_) | (refine IJ_by (by omega) ?_)))) (funext fun j => by show u464 113 j % 256 = u464 19 j; rw [hf467 113 j (by decide), hf467 19 j (by decide)]; exact congrFun hTE j) hU t_q1 t_q12 t_q25 (by omega) (by omega) hG hS (lv_sub hl [0, 1, 2, 3, 4] rfl)
  · exfalso; omega
set_option maxHeartbeats 40000000 in
set_option maxRecDepth 100000 in
/-- the law's case 7 -/
theorem law_c7 {p : Program} {e : Env} {s : State} {m : MethodId} {below : List Frame} {meth : Method} {c : Code} (l : Launch) (hl9 : l.stackTraces = false) {b L : Nat} {xs : Nat → Int32} (hLN : L ≤ 3072) (hx : p.tables.exec = Jvm.exec) (hb : c.code = code) (hr : meth.sig.returnType = ret) (hml : c.maxLocals = 7) (hown : s.vm.findClass R_law = some m.cls) (hA : ∀ w ∈ AL, w.before #[Value.ref b] s = true) (hXs : va_X b L xs s s.heap) (hbl : b < s.heap.size) (hlocks : meth.locks = false) {dC : Nat → ClassId} {dI : Nat → Nat → Nat} {dA : Nat → ClassId} {sz : Nat} (hE : en dC dI dA sz s) (hsz : sz = s.heap.size) (hbA : ¬ ty_A sz b) (X : va_W) (q1 q12 q25 : Nat) (n : Nat) (ih : LJ p l e s m below meth c b dC dI dA sz X q1 q12 q25 n) (i : Int32) (Γ : ty_G) (g : gh) (kc ks : Nat) (H : Heap) (locs : List Loc) (ls : Array Slot) (hm : (3073 - i.toInt : Int) < (n + 1 : Nat)) (hi0 : 0 ≤ i.toInt ∧ i.toInt ≤ 3072) (hi1 : g 1 0 = g 33 0 ∧ 0 ≤ g 1 0 ∧ g 1 0 ≤ 6) (hi2 : g 2 0 = g 34 0 ∧ 0 ≤ g 2 0 ∧ g 2 0 ≤ 10) (hi3 : g 3 0 = g 35 0 ∧ 0 ≤ g 3 0 ∧ g 3 0 ≤ 200) (hi4 : 0 ≤ g 5 0 ∧ g 5 0 ≤ 52) (hi5 : 0 ≤ g 4 0 ∧ g 4 0 ≤ i.toInt) (hi6 : 0 ≤ g 6 0 ∧ g 6 0 ≤ 300) (hi7 : 0 ≤ g 7 0 ∧ g 7 0 ≤ g 36 0 ∧ g 36 0 ≤ 9) (hi8 : g 101 0 = g 1 0) (hi9 : g 104 0 = g 2 0) (hi10 : g 112 0 = g 5 0) (hi11 : g 111 0 = g 4 0) (hi12 : g 114 0 = g 6 0) (hi13 : 0 ≤ g 126 0 ∧ g 126 0 ≤ 200) (hi14 : 0 ≤ g 122 0 ∧ g 122 0 ≤ 30) (hi15 : g 14 0 = g 121 0) (hi16 : g 18 0 = g 118 0) (hIJ : IJ g) (hTE : pz_t g = g 19) (hU : Un Γ) (t_q1 : ty Γ q1 1) (t_q12 : ty Γ q12 30) (t_q25 : ty Γ q25 25) (hkc : kc ≤ 300 + i.toInt.toNat) (hks : ks ≤ 30000 + 28 * i.toInt.toNat) (hG : ty_ok (dC, dI) vwCl Γ (TP dA Γ g) sz X H) (hS : va_S (ty_A sz) s.heap H locs) (hl : lv_has ls 7 [(4, .int i), (3, .ref q25), (2, .ref q12), (1, .ref q1), (0, .ref b)]) (hiL : i.toInt + 6 ≤ (L : Int)) : W p l e room_1 s m #[Value.ref b] below meth c H locs kc ks (lw_Z below #[Value.ref b] s) (F0 m 387 ls []) := by
  refine lv_aload_n hx hb dL_law_387 rfl (lv_at hl 3 rfl) ?_
  refine lv_aload_n hx hb dL_law_388 rfl (lv_at hl 4 rfl) ?_
  refine lv_iload hx hb dL_law_389 (lv_at hl 0 rfl) ?_
  refine ty_iconst hx hb (1) dL_law_391 (by decide) (fun x474 h475 => ?_)
  refine ty_iadd hx hb dL_law_392 (fun x476 h477 => ?_)
  have h478 := lw_ix (k := 1) h475 h477 hi0 hiL hLN (by decide)
  refine va_sld hx hb hXs hbl hbA hS (i := x476) (ty_ix h478.2) dL_law_393 ?_
  refine W.eq (g2 := F0 m 394 ls [.int (xs (i.toInt.toNat + 1)), .ref q1]) (by rw [lw_xs (xs := xs) h478.1 hi0.1]) ?_
  clear h478 h477 h475
  refine lv_topi (fun x479 s480 => ?_)
  refine lv_aload_n hx hb dL_law_394 rfl (lv_at hl 4 rfl) ?_
  refine lv_iload hx hb dL_law_395 (lv_at hl 0 rfl) ?_
  refine ty_iconst hx hb (2) dL_law_397 (by decide) (fun x481 h482 => ?_)
  refine ty_iadd hx hb dL_law_398 (fun x483 h484 => ?_)
  have h485 := lw_ix (k := 2) h482 h484 hi0 hiL hLN (by decide)
  refine va_sld hx hb hXs hbl hbA hS (i := x483) (ty_ix h485.2) dL_law_399 ?_
  refine W.eq (g2 := F0 m 400 ls [.int (xs (i.toInt.toNat + 2)), .int x479, .ref q1]) (by rw [lw_xs (xs := xs) h485.1 hi0.1]) ?_
  clear h485 h484 h482
  refine lv_topi (fun x486 s487 => ?_)
  refine cI (va_runV (C := RX8) (As := [.int x479, .int x486]) (rest := []) ⟨hx, hb, hml, hown, hA⟩ (k_X8_worth l dC dI dA sz X Γ hU g q1 t_q1 x479 x486   (by first | with_reducible assumption | omega)) ⟨callB_of 2 hA (al_A wd_2_229) rfl rfl rfl (hA _ wd_1_1) (hA _ wd_2_226) (by decide +kernel) ⟨Nat.le_of_ble_eq_true rfl, Nat.le_of_ble_eq_true rfl⟩, hA _ wd_2_227, hA _ wd_2_228⟩ ⟨bl, recv_X8 hE hG t_q1, fun U hU9 hW9 => ⟨rfl, by rw [hU9]; exact hG, hE.go hS hU9 hW9⟩⟩ rfl rfl hl.1 rfl (lv_room (Nat.le_of_ble_eq_true rfl)) dL_law_400 ⟨(Nat.le_trans (show kc + 0 ≤ 300000 by omega) (Nat.le_of_ble_eq_true rfl)), (Nat.le_trans (show ks + 0 ≤ 300000 by omega) (Nat.le_of_ble_eq_true rfl))⟩) hS (fun x490 u488 H locs w489 hG hS => ?_)
  have eu491 := w489
  rw [eu491] at hG
  refine lv_pop hx hb dL_law_403 rfl ?_
  refine lv_aload_n hx hb dL_law_404 rfl (lv_at hl 2 rfl) ?_
  refine lv_aload_n hx hb dL_law_405 rfl (lv_at hl 4 rfl) ?_
  refine lv_iload hx hb dL_law_406 (lv_at hl 0 rfl) ?_
  refine ty_iconst hx hb (1) dL_law_408 (by decide) (fun x492 h493 => ?_)
  refine ty_iadd hx hb dL_law_409 (fun x494 h495 => ?_)
  have h496 := lw_ix (k := 1) h493 h495 hi0 hiL hLN (by decide)
  refine va_sld hx hb hXs hbl hbA hS (i := x494) (ty_ix h496.2) dL_law_410 ?_
  refine W.eq (g2 := F0 m 411 ls [.int (xs (i.toInt.toNat + 1)), .ref q12]) (by rw [lw_xs (xs := xs) h496.1 hi0.1]) ?_
  clear h496 h495 h493
  refine W.eq (g2 := F0 m 411 ls [.int x479, .ref q12]) (by rw [s480]) ?_
  refine lv_aload_n hx hb dL_law_411 rfl (lv_at hl 4 rfl) ?_
  refine lv_iload hx hb dL_law_412 (lv_at hl 0 rfl) ?_
  refine ty_iconst hx hb (2) dL_law_414 (by decide) (fun x497 h498 => ?_)
  refine ty_iadd hx hb dL_law_415 (fun x499 h500 => ?_)
  have h501 := lw_ix (k := 2) h498 h500 hi0 hiL hLN (by decide)
  refine va_sld hx hb hXs hbl hbA hS (i := x499) (ty_ix h501.2) dL_law_416 ?_
  refine W.eq (g2 := F0 m 417 ls [.int (xs (i.toInt.toNat + 2)), .int x479, .ref q12]) (by rw [lw_xs (xs := xs) h501.1 hi0.1]) ?_
  clear h501 h500 h498
  refine W.eq (g2 := F0 m 417 ls [.int x486, .int x479, .ref q12]) (by rw [s487]) ?_
  refine cI (va_runV (C := RX9) (As := [.int x479, .int x486]) (rest := []) ⟨hx, hb, hml, hown, hA⟩ (k_X9_worth l dC dI dA sz X Γ hU g q12 t_q12 x479 x486   (by first | with_reducible assumption | omega) (by first | with_reducible assumption | omega)) ⟨callB_of 2 hA (al_A wd_5_116) rfl rfl rfl (hA _ wd_1_7) (hA _ wd_5_113) (by decide +kernel) ⟨Nat.le_of_ble_eq_true rfl, Nat.le_of_ble_eq_true rfl⟩, hA _ wd_5_114, hA _ wd_5_115⟩ ⟨bl, recv_X9 hE hG t_q12, fun U hU9 hW9 => ⟨rfl, by rw [hU9]; exact hG, hE.go hS hU9 hW9⟩⟩ rfl rfl hl.1 rfl (lv_room (Nat.le_of_ble_eq_true rfl)) dL_law_417 ⟨(Nat.le_trans (show kc + 0 ≤ 300000 by omega) (Nat.le_of_ble_eq_true rfl)), (Nat.le_trans (show ks + 0 ≤ 300000 by omega) (Nat.le_of_ble_eq_true rfl))⟩) hS (fun x504 u502 H locs w503 hG hS => ?_)
  have hf505 := w503
  have hj506 : IJ u502 := IJ_cg (hf505 126 0 (by decide)) (fun j => hf505 132 j (by decide)) (fun j => hf505 134 j (by decide)) (by (repeat (first | with_reducible assumption | (refine IJ_c (by decide) (by decide) (by decide) ?_) | (refine IJ_take (by omega) (by omega) ?_) | (refine IJ_how (by omega) ?_) | (refine IJ_by (by omega) ?_))))
  refine lv_pop hx hb dL_law_420 rfl ?_
  refine lv_goto (tgt := 1047) hx hb dL_law_421 (by decide) ?_
  obtain ⟨x507, h508⟩ : ∃ y : Int32, y = i + Int32.ofInt (6) := ⟨_, rfl⟩
  try have h509 : x507.toInt = i.toInt + (6) := ty_inc h508 (by decide) (by omega) (by omega)
  refine lv_iinc (v := x507) (lv' := [(4, .int x507), (3, .ref q25), (2, .ref q12), (1, .ref q1), (0, .ref b)]) hx hb dL_law_1047 hl (k := 0) rfl h508.symm (by decide) rfl (fun ls hl => ?_)
  refine lv_goto (tgt := 23) hx hb dL_law_1050 (by decide) ?_
  have hk510 : u502 4 0 = g 4 0 := hf505 4 0 (by decide)
  exact ih x507 Γ u502 (kc) (ks) _ _ ls (by omega) (by omega) (by rw [hf505 1 0 (by decide), hf505 33 0 (by decide)]; exact hi1) (by rw [hf505 2 0 (by decide), hf505 34 0 (by decide)]; exact hi2) (by rw [hf505 3 0 (by decide), hf505 35 0 (by decide)]; exact hi3) (by rw [hf505 5 0 (by decide)]; exact hi4) (by omega) (by rw [hf505 6 0 (by decide)]; exact hi6) (by rw [hf505 7 0 (by decide), hf505 36 0 (by decide)]; exact hi7) (by rw [hf505 101 0 (by decide), hf505 1 0 (by decide)]; exact hi8) (by rw [hf505 104 0 (by decide), hf505 2 0 (by decide)]; exact hi9) (by rw [hf505 112 0 (by decide), hf505 5 0 (by decide)]; exact hi10) (by rw [hf505 111 0 (by decide), hf505 4 0 (by decide)]; exact hi11) (by rw [hf505 114 0 (by decide), hf505 6 0 (by decide)]; exact hi12) (by rw [hf505 126 0 (by decide)]; exact hi13) (by rw [hf505 122 0 (by decide)]; exact hi14) (by rw [hf505 14 0 (by decide), hf505 121 0 (by decide)]; exact hi15) (by rw [hf505 18 0 (by decide), hf505 118 0 (by decide)]; exact hi16) (by (repeat (first | with_reducible assumption | (refine IJ_c (by decide) (by decide) (by decide) ?_) | (refine IJ_take (by omega) (by omega) ?_) | (refine IJ_how (by omega) ?_) | (refine IJ_by (by omega) ?_)))) (funext fun j => by show u502 113 j % 256 = u502 19 j; rw [hf505 113 j (by decide), hf505 19 j (by decide)]; exact congrFun hTE j) hU t_q1 t_q12 t_q25 (by omega) (by omega) hG hS (lv_sub hl [0, 1, 2, 3, 4] rfl)
