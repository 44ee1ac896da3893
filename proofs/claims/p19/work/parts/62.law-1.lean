set_option maxHeartbeats 40000000 in
set_option maxRecDepth 100000 in
/-- the law's case 0 -/
theorem law_c0 {p : Program} {e : Env} {s : State} {m : MethodId} {below : List Frame} {meth : Method} {c : Code} (l : Launch) (hl9 : l.stackTraces = false) {b L : Nat} {xs : Nat → Int32} (hLN : L ≤ 3072) (hx : p.tables.exec = Jvm.exec) (hb : c.code = code) (hr : meth.sig.returnType = ret) (hml : c.maxLocals = 7) (hown : s.vm.findClass R_law = some m.cls) (hA : ∀ w ∈ AL, w.before #[Value.ref b] s = true) (hXs : va_X b L xs s s.heap) (hbl : b < s.heap.size) (hlocks : meth.locks = false) {dC : Nat → ClassId} {dI : Nat → Nat → Nat} {dA : Nat → ClassId} {sz : Nat} (hE : en dC dI dA sz s) (hsz : sz = s.heap.size) (hbA : ¬ ty_A sz b) (X : va_W) (q1 q12 q25 : Nat) (n : Nat) (ih : LJ p l e s m below meth c b dC dI dA sz X q1 q12 q25 n) (i : Int32) (Γ : ty_G) (g : gh) (kc ks : Nat) (H : Heap) (locs : List Loc) (ls : Array Slot) (hm : (3073 - i.toInt : Int) < (n + 1 : Nat)) (hi0 : 0 ≤ i.toInt ∧ i.toInt ≤ 3072) (hi1 : g 1 0 = g 33 0 ∧ 0 ≤ g 1 0 ∧ g 1 0 ≤ 6) (hi2 : g 2 0 = g 34 0 ∧ 0 ≤ g 2 0 ∧ g 2 0 ≤ 10) (hi3 : g 3 0 = g 35 0 ∧ 0 ≤ g 3 0 ∧ g 3 0 ≤ 200) (hi4 : 0 ≤ g 5 0 ∧ g 5 0 ≤ 52) (hi5 : 0 ≤ g 4 0 ∧ g 4 0 ≤ i.toInt) (hi6 : 0 ≤ g 6 0 ∧ g 6 0 ≤ 300) (hi7 : 0 ≤ g 7 0 ∧ g 7 0 ≤ g 36 0 ∧ g 36 0 ≤ 9) (hi8 : g 101 0 = g 1 0) (hi9 : g 104 0 = g 2 0) (hi10 : g 112 0 = g 5 0) (hi11 : g 111 0 = g 4 0) (hi12 : g 114 0 = g 6 0) (hi13 : 0 ≤ g 126 0 ∧ g 126 0 ≤ 200) (hi14 : 0 ≤ g 122 0 ∧ g 122 0 ≤ 30) (hIJ : IJ g) (hU : Un Γ) (t_q1 : ty Γ q1 1) (t_q12 : ty Γ q12 30) (t_q25 : ty Γ q25 25) (hkc : kc ≤ 300 + i.toInt.toNat) (hks : ks ≤ 30000 + 28 * i.toInt.toNat) (hG : ty_ok (dC, dI) vwCl Γ (TP dA Γ g) sz X H) (hS : va_S (ty_A sz) s.heap H locs) (hl : lv_has ls 7 [(4, .int i), (3, .ref q25), (2, .ref q12), (1, .ref q1), (0, .ref b)]) (hiL : i.toInt + 6 ≤ (L : Int)) : W p l e room_1 s m #[Value.ref b] below meth c H locs kc ks (lw_Z below #[Value.ref b] s) (F0 m 152 ls []) := by
  refine lv_aload_n hx hb dL_law_152 rfl (lv_at hl 3 rfl) ?_
  refine lv_aload_n hx hb dL_law_153 rfl (lv_at hl 4 rfl) ?_
  refine lv_iload hx hb dL_law_154 (lv_at hl 0 rfl) ?_
  refine ty_iconst hx hb (1) dL_law_156 (by decide) (fun x96 h97 => ?_)
  refine ty_iadd hx hb dL_law_157 (fun x98 h99 => ?_)
  have h100 := lw_ix (k := 1) h97 h99 hi0 hiL hLN (by decide)
  refine va_sld hx hb hXs hbl hbA hS (i := x98) (ty_ix h100.2) dL_law_158 ?_
  refine W.eq (g2 := F0 m 159 ls [.int (xs (i.toInt.toNat + 1)), .ref q1]) (by rw [lw_xs (xs := xs) h100.1 hi0.1]) ?_
  clear h100 h99 h97
  refine lv_topi (fun x101 s102 => ?_)
  refine lv_aload_n hx hb dL_law_159 rfl (lv_at hl 4 rfl) ?_
  refine lv_iload hx hb dL_law_160 (lv_at hl 0 rfl) ?_
  refine ty_iconst hx hb (2) dL_law_162 (by decide) (fun x103 h104 => ?_)
  refine ty_iadd hx hb dL_law_163 (fun x105 h106 => ?_)
  have h107 := lw_ix (k := 2) h104 h106 hi0 hiL hLN (by decide)
  refine va_sld hx hb hXs hbl hbA hS (i := x105) (ty_ix h107.2) dL_law_164 ?_
  refine W.eq (g2 := F0 m 165 ls [.int (xs (i.toInt.toNat + 2)), .int x101, .ref q1]) (by rw [lw_xs (xs := xs) h107.1 hi0.1]) ?_
  clear h107 h106 h104
  refine lv_topi (fun x108 s109 => ?_)
  refine cIB (va_runV (C := RX8) (As := [.int x101, .int x108]) (rest := []) ⟨hx, hb, hml, hown, hA⟩ (k_X8_flat l dC dI dA sz X Γ hU g q1 t_q1 x101 x108   (by first | with_reducible assumption | omega)) ⟨callB_of 2 hA (al_A wd_1_200) rfl rfl rfl (hA _ wd_1_1) (hA _ wd_1_197) (by decide +kernel) ⟨Nat.le_of_ble_eq_true rfl, Nat.le_of_ble_eq_true rfl⟩, hA _ wd_1_198, hA _ wd_1_199⟩ ⟨bl, recv_X8 hE hG t_q1, fun U hU9 hW9 => ⟨rfl, by rw [hU9]; exact hG, hE.go hS hU9 hW9⟩⟩ rfl rfl hl.1 rfl (lv_room (Nat.le_of_ble_eq_true rfl)) dL_law_165 ⟨(Nat.le_trans (show kc + 4 ≤ 300000 by omega) (Nat.le_of_ble_eq_true rfl)), (Nat.le_trans (show ks + 165 ≤ 300000 by omega) (Nat.le_of_ble_eq_true rfl))⟩) hS (fun x112 u110 H locs w111 hG hS => ?_)
  obtain ⟨Γ113, g114⟩ := u110
  dsimp only at w111 hG
  obtain ⟨hx115, hU, hf116, w117⟩ := w111
  have hj119 : IJ g114 := IJ_cg (hf116 126 0 (by decide) (by decide)) (fun j => hf116 132 j (by decide) (by decide)) (fun j => hf116 134 j (by decide) (by decide)) (by (repeat (first | with_reducible assumption | (refine IJ_c (by decide) (by decide) (by decide) ?_) | (refine IJ_take (by omega) (by omega) ?_) | (refine IJ_how (by omega) ?_) | (refine IJ_by (by omega) ?_))))
  have hX120 : ext Γ Γ113 := ext.trans ext.rf hx115
  replace t_q25 : ty Γ113 q25 25 := hx115.one t_q25 (by decide)
  replace t_q12 : ty Γ113 q12 30 := hx115.one t_q12 (by decide)
  replace t_q1 : ty Γ113 q1 1 := hx115.one t_q1 (by decide)
  replace w117 := or2 w117.1 w117.2 (by exact Classical.em _)
  rcases w117 with w117 | w117
  · skip
    refine lv_pop hx hb dL_law_168 rfl ?_
    refine lv_aload_n hx hb dL_law_169 rfl (lv_at hl 2 rfl) ?_
    refine lv_aload_n hx hb dL_law_170 rfl (lv_at hl 4 rfl) ?_
    refine lv_iload hx hb dL_law_171 (lv_at hl 0 rfl) ?_
    refine ty_iconst hx hb (1) dL_law_173 (by decide) (fun x121 h122 => ?_)
    refine ty_iadd hx hb dL_law_174 (fun x123 h124 => ?_)
    have h125 := lw_ix (k := 1) h122 h124 hi0 hiL hLN (by decide)
    refine va_sld hx hb hXs hbl hbA hS (i := x123) (ty_ix h125.2) dL_law_175 ?_
    refine W.eq (g2 := F0 m 176 ls [.int (xs (i.toInt.toNat + 1)), .ref q12]) (by rw [lw_xs (xs := xs) h125.1 hi0.1]) ?_
    clear h125 h124 h122
    refine W.eq (g2 := F0 m 176 ls [.int x101, .ref q12]) (by rw [s102]) ?_
    refine lv_aload_n hx hb dL_law_176 rfl (lv_at hl 4 rfl) ?_
    refine lv_iload hx hb dL_law_177 (lv_at hl 0 rfl) ?_
    refine ty_iconst hx hb (2) dL_law_179 (by decide) (fun x126 h127 => ?_)
    refine ty_iadd hx hb dL_law_180 (fun x128 h129 => ?_)
    have h130 := lw_ix (k := 2) h127 h129 hi0 hiL hLN (by decide)
    refine va_sld hx hb hXs hbl hbA hS (i := x128) (ty_ix h130.2) dL_law_181 ?_
    refine W.eq (g2 := F0 m 182 ls [.int (xs (i.toInt.toNat + 2)), .int x101, .ref q12]) (by rw [lw_xs (xs := xs) h130.1 hi0.1]) ?_
    clear h130 h129 h127
    refine W.eq (g2 := F0 m 182 ls [.int x108, .int x101, .ref q12]) (by rw [s109]) ?_
    have hk131 : g114 101 0 = g 101 0 := hf116 101 0 (by decide) (by decide)
    refine cI (va_runV (C := RX9) (As := [.int x101, .int x108]) (rest := []) ⟨hx, hb, hml, hown, hA⟩ (k_X9_flat l dC dI dA sz X Γ113 hU g114 q12 t_q12 x101 x108   (by first | with_reducible assumption | omega)) ⟨callB_of 2 hA (al_A wd_5_35) rfl rfl rfl (hA _ wd_1_7) (hA _ wd_5_32) (by decide +kernel) ⟨Nat.le_of_ble_eq_true rfl, Nat.le_of_ble_eq_true rfl⟩, hA _ wd_5_33, hA _ wd_5_34⟩ ⟨bl, recv_X9 hE hG t_q12, fun U hU9 hW9 => ⟨rfl, by rw [hU9]; exact hG, hE.go hS hU9 hW9⟩⟩ rfl rfl hl.1 rfl (lv_room (Nat.le_of_ble_eq_true rfl)) dL_law_182 ⟨(Nat.le_trans (show (kc + 4) + 0 ≤ 300000 by omega) (Nat.le_of_ble_eq_true rfl)), (Nat.le_trans (show (ks + 165) + 0 ≤ 300000 by omega) (Nat.le_of_ble_eq_true rfl))⟩) hS (fun x134 u132 H locs w133 hG hS => ?_)
    obtain ⟨hf135, w133⟩ := w133
    have hj136 : IJ u132 := IJ_cg (hf135 126 0 (by decide) (by decide) (by decide) (by decide)) (fun j => hf135 132 j (by decide) (by decide) (by decide) (by decide)) (fun j => hf135 134 j (by decide) (by decide) (by decide) (by decide)) (by (repeat (first | with_reducible assumption | (refine IJ_c (by decide) (by decide) (by decide) ?_) | (refine IJ_take (by omega) (by omega) ?_) | (refine IJ_how (by omega) ?_) | (refine IJ_by (by omega) ?_))))
    replace w133 := or2 w133.1 w133.2 (by exact Classical.em _)
    rcases w133 with w133 | w133
    · skip
      refine lv_pop hx hb dL_law_185 rfl ?_
      refine lv_goto (tgt := 1047) hx hb dL_law_186 (by decide) ?_
      obtain ⟨x137, h138⟩ : ∃ y : Int32, y = i + Int32.ofInt (6) := ⟨_, rfl⟩
      try have h139 : x137.toInt = i.toInt + (6) := ty_inc h138 (by decide) (by omega) (by omega)
      refine lv_iinc (v := x137) (lv' := [(4, .int x137), (3, .ref q25), (2, .ref q12), (1, .ref q1), (0, .ref b)]) hx hb dL_law_1047 hl (k := 0) rfl h138.symm (by decide) rfl (fun ls hl => ?_)
      refine lv_goto (tgt := 23) hx hb dL_law_1050 (by decide) ?_
      have hk140 : u132 1 0 = g114 1 0 := hf135 1 0 (by decide) (by decide) (by decide) (by decide)
      have hk141 : u132 4 0 = g114 4 0 := hf135 4 0 (by decide) (by decide) (by decide) (by decide)
      have hk142 : g114 4 0 = g 4 0 := hf116 4 0 (by decide) (by decide)
      have hk143 : u132 33 0 = g114 33 0 := hf135 33 0 (by decide) (by decide) (by decide) (by decide)
      exact ih x137 Γ113 u132 ((kc + 4)) ((ks + 165)) _ _ ls (by omega) (by omega) (by omega) (by rw [hf135 2 0 (by decide) (by decide) (by decide) (by decide), hf116 2 0 (by decide) (by decide), hf135 34 0 (by decide) (by decide) (by decide) (by decide), hf116 34 0 (by decide) (by decide)]; exact hi2) (by rw [hf135 3 0 (by decide) (by decide) (by decide) (by decide), hf116 3 0 (by decide) (by decide), hf135 35 0 (by decide) (by decide) (by decide) (by decide), hf116 35 0 (by decide) (by decide)]; exact hi3) (by rw [hf135 5 0 (by decide) (by decide) (by decide) (by decide), hf116 5 0 (by decide) (by decide)]; exact hi4) (by omega) (by rw [hf135 6 0 (by decide) (by decide) (by decide) (by decide), hf116 6 0 (by decide) (by decide)]; exact hi6) (by rw [hf135 7 0 (by decide) (by decide) (by decide) (by decide), hf116 7 0 (by decide) (by decide), hf135 36 0 (by decide) (by decide) (by decide) (by decide), hf116 36 0 (by decide) (by decide)]; exact hi7) (by omega) (by rw [hf135 104 0 (by decide) (by decide) (by decide) (by decide), hf116 104 0 (by decide) (by decide), hf135 2 0 (by decide) (by decide) (by decide) (by decide), hf116 2 0 (by decide) (by decide)]; exact hi9) (by rw [hf135 112 0 (by decide) (by decide) (by decide) (by decide), hf116 112 0 (by decide) (by decide), hf135 5 0 (by decide) (by decide) (by decide) (by decide), hf116 5 0 (by decide) (by decide)]; exact hi10) (by rw [hf135 111 0 (by decide) (by decide) (by decide) (by decide), hf116 111 0 (by decide) (by decide), hf135 4 0 (by decide) (by decide) (by decide) (by decide), hf116 4 0 (by decide) (by decide)]; exact hi11) (by rw [hf135 114 0 (by decide) (by decide) (by decide) (by decide), hf116 114 0 (by decide) (by decide), hf135 6 0 (by decide) (by decide) (by decide) (by decide), hf116 6 0 (by decide) (by decide)]; exact hi12) (by rw [hf135 126 0 (by decide) (by decide) (by decide) (by decide), hf116 126 0 (by decide) (by decide)]; exact hi13) (by rw [hf135 122 0 (by decide) (by decide) (by decide) (by decide), hf116 122 0 (by decide) (by decide)]; exact hi14) (by (repeat (first | with_reducible assumption | (refine IJ_c (by decide) (by decide) (by decide) ?_) | (refine IJ_take (by omega) (by omega) ?_) | (refine IJ_how (by omega) ?_) | (refine IJ_by (by omega) ?_)))) hU t_q1 t_q12 t_q25 (by omega) (by omega) hG hS (lv_sub hl [0, 1, 2, 3, 4] rfl)
    · exfalso; omega
  · skip
    refine lv_pop hx hb dL_law_168 rfl ?_
    refine lv_aload_n hx hb dL_law_169 rfl (lv_at hl 2 rfl) ?_
    refine lv_aload_n hx hb dL_law_170 rfl (lv_at hl 4 rfl) ?_
    refine lv_iload hx hb dL_law_171 (lv_at hl 0 rfl) ?_
    refine ty_iconst hx hb (1) dL_law_173 (by decide) (fun x144 h145 => ?_)
    refine ty_iadd hx hb dL_law_174 (fun x146 h147 => ?_)
    have h148 := lw_ix (k := 1) h145 h147 hi0 hiL hLN (by decide)
    refine va_sld hx hb hXs hbl hbA hS (i := x146) (ty_ix h148.2) dL_law_175 ?_
    refine W.eq (g2 := F0 m 176 ls [.int (xs (i.toInt.toNat + 1)), .ref q12]) (by rw [lw_xs (xs := xs) h148.1 hi0.1]) ?_
    clear h148 h147 h145
    refine W.eq (g2 := F0 m 176 ls [.int x101, .ref q12]) (by rw [s102]) ?_
    refine lv_aload_n hx hb dL_law_176 rfl (lv_at hl 4 rfl) ?_
    refine lv_iload hx hb dL_law_177 (lv_at hl 0 rfl) ?_
    refine ty_iconst hx hb (2) dL_law_179 (by decide) (fun x149 h150 => ?_)
    refine ty_iadd hx hb dL_law_180 (fun x151 h152 => ?_)
    have h153 := lw_ix (k := 2) h150 h152 hi0 hiL hLN (by decide)
    refine va_sld hx hb hXs hbl hbA hS (i := x151) (ty_ix h153.2) dL_law_181 ?_
    refine W.eq (g2 := F0 m 182 ls [.int (xs (i.toInt.toNat + 2)), .int x101, .ref q12]) (by rw [lw_xs (xs := xs) h153.1 hi0.1]) ?_
    clear h153 h152 h150
    refine W.eq (g2 := F0 m 182 ls [.int x108, .int x101, .ref q12]) (by rw [s109]) ?_
    have hk154 : g114 101 0 = g 101 0 := hf116 101 0 (by decide) (by decide)
    refine cI (va_runV (C := RX9) (As := [.int x101, .int x108]) (rest := []) ⟨hx, hb, hml, hown, hA⟩ (k_X9_flat l dC dI dA sz X Γ113 hU g114 q12 t_q12 x101 x108   (by first | with_reducible assumption | omega)) ⟨callB_of 2 hA (al_A wd_5_35) rfl rfl rfl (hA _ wd_1_7) (hA _ wd_5_32) (by decide +kernel) ⟨Nat.le_of_ble_eq_true rfl, Nat.le_of_ble_eq_true rfl⟩, hA _ wd_5_33, hA _ wd_5_34⟩ ⟨bl, recv_X9 hE hG t_q12, fun U hU9 hW9 => ⟨rfl, by rw [hU9]; exact hG, hE.go hS hU9 hW9⟩⟩ rfl rfl hl.1 rfl (lv_room (Nat.le_of_ble_eq_true rfl)) dL_law_182 ⟨(Nat.le_trans (show (kc + 4) + 0 ≤ 300000 by omega) (Nat.le_of_ble_eq_true rfl)), (Nat.le_trans (show (ks + 165) + 0 ≤ 300000 by omega) (Nat.le_of_ble_eq_true rfl))⟩) hS (fun x157 u155 H locs w156 hG hS => ?_)
    obtain ⟨hf158, w156⟩ := w156
    have hj159 : IJ u155 := IJ_cg (hf158 126 0 (by decide) (by decide) (by decide) (by decide)) (fun j => hf158 132 j (by decide) (by decide) (by decide) (by decide)) (fun j => hf158 134 j (by decide) (by decide) (by decide) (by decide)) (by (repeat (first | with_reducible assumption | (refine IJ_c (by decide) (by decide) (by decide) ?_) | (refine IJ_take (by omega) (by omega) ?_) | (refine IJ_how (by omega) ?_) | (refine IJ_by (by omega) ?_))))
    replace w156 := or2 w156.1 w156.2 (by exact Classical.em _)
    rcases w156 with w156 | w156
    · exfalso; omega
    · skip
      refine lv_pop hx hb dL_law_185 rfl ?_
      refine lv_goto (tgt := 1047) hx hb dL_law_186 (by decide) ?_
      obtain ⟨x160, h161⟩ : ∃ y : Int32, y = i + Int32.ofInt (6) := ⟨_, rfl⟩
      try have h162 : x160.toInt = i.toInt + (6) := ty_inc h161 (by decide) (by omega) (by omega)
      refine lv_iinc (v := x160) (lv' := [(4, .int x160), (3, .ref q25), (2, .ref q12), (1, .ref q1), (0, .ref b)]) hx hb dL_law_1047 hl (k := 0) rfl h161.symm (by decide) rfl (fun ls hl => ?_)
      refine lv_goto (tgt := 23) hx hb dL_law_1050 (by decide) ?_
      have hk163 : u155 1 0 = g114 1 0 := hf158 1 0 (by decide) (by decide) (by decide) (by decide)
      have hk164 : u155 4 0 = g114 4 0 := hf158 4 0 (by decide) (by decide) (by decide) (by decide)
      have hk165 : g114 4 0 = g 4 0 := hf116 4 0 (by decide) (by decide)
      have hk166 : u155 33 0 = g114 33 0 := hf158 33 0 (by decide) (by decide) (by decide) (by decide)
      exact ih x160 Γ113 u155 ((kc + 4)) ((ks + 165)) _ _ ls (by omega) (by omega) (by omega) (by rw [hf158 2 0 (by decide) (by decide) (by decide) (by decide), hf116 2 0 (by decide) (by decide), hf158 34 0 (by decide) (by decide) (by decide) (by decide), hf116 34 0 (by decide) (by decide)]; exact hi2) (by rw [hf158 3 0 (by decide) (by decide) (by decide) (by decide), hf116 3 0 (by decide) (by decide), hf158 35 0 (by decide) (by decide) (by decide) (by decide), hf116 35 0 (by decide) (by decide)]; exact hi3) (by rw [hf158 5 0 (by decide) (by decide) (by decide) (by decide), hf116 5 0 (by decide) (by decide)]; exact hi4) (by omega) (by rw [hf158 6 0 (by decide) (by decide) (by decide) (by decide), hf116 6 0 (by decide) (by decide)]; exact hi6) (by rw [hf158 7 0 (by decide) (by decide) (by decide) (by decide), hf116 7 0 (by decide) (by decide), hf158 36 0 (by decide) (by decide) (by decide) (by decide), hf116 36 0 (by decide) (by decide)]; exact hi7) (by omega) (by rw [hf158 104 0 (by decide) (by decide) (by decide) (by decide), hf116 104 0 (by decide) (by decide), hf158 2 0 (by decide) (by decide) (by decide) (by decide), hf116 2 0 (by decide) (by decide)]; exact hi9) (by rw [hf158 112 0 (by decide) (by decide) (by decide) (by decide), hf116 112 0 (by decide) (by decide), hf158 5 0 (by decide) (by decide) (by decide) (by decide), hf116 5 0 (by decide) (by decide)]; exact hi10) (by rw [hf158 111 0 (by decide) (by decide) (by decide) (by decide), hf116 111 0 (by decide) (by decide), hf158 4 0 (by decide) (by decide) (by decide) (by decide), hf116 4 0 (by decide) (by decide)]; exact hi11) (by rw [hf158 114 0 (by decide) (by decide) (by decide) (by decide), hf116 114 0 (by decide) (by decide), hf158 6 0 (by decide) (by decide) (by decide) (by decide), hf116 6 0 (by decide) (by decide)]; exact hi12) (by rw [hf158 126 0 (by decide) (by decide) (by decide) (by decide), hf116 126 0 (by decide) (by decide)]; exact hi13) (by rw [hf158 122 0 (by decide) (by decide) (by decide) (by decide), hf116 122 0 (by decide) (by decide)]; exact hi14) (by (repeat (first | with_reducible assumption | (refine IJ_c (by decide) (by decide) (by decide) ?_) | (refine IJ_take (by omega) (by omega) ?_) | (refine IJ_how (by omega) ?_) | (refine IJ_by (by omega) ?_)))) hU t_q1 t_q12 t_q25 (by omega) (by omega) hG hS (lv_sub hl [0, 1, 2, 3, 4] rfl)
set_option maxHeartbeats 40000000 in
set_option maxRecDepth 100000 in
/-- the law's case 1 -/
theorem law_c1 {p : Program} {e : Env} {s : State} {m : MethodId} {below : List Frame} {meth : Method} {c : Code} (l : Launch) (hl9 : l.stackTraces = false) {b L : Nat} {xs : Nat → Int32} (hLN : L ≤ 3072) (hx : p.tables.exec = Jvm.exec) (hb : c.code = code) (hr : meth.sig.returnType = ret) (hml : c.maxLocals = 7) (hown : s.vm.findClass R_law = some m.cls) (hA : ∀ w ∈ AL, w.before #[Value.ref b] s = true) (hXs : va_X b L xs s s.heap) (hbl : b < s.heap.size) (hlocks : meth.locks = false) {dC : Nat → ClassId} {dI : Nat → Nat → Nat} {dA : Nat → ClassId} {sz : Nat} (hE : en dC dI dA sz s) (hsz : sz = s.heap.size) (hbA : ¬ ty_A sz b) (X : va_W) (q1 q12 q25 : Nat) (n : Nat) (ih : LJ p l e s m below meth c b dC dI dA sz X q1 q12 q25 n) (i : Int32) (Γ : ty_G) (g : gh) (kc ks : Nat) (H : Heap) (locs : List Loc) (ls : Array Slot) (hm : (3073 - i.toInt : Int) < (n + 1 : Nat)) (hi0 : 0 ≤ i.toInt ∧ i.toInt ≤ 3072) (hi1 : g 1 0 = g 33 0 ∧ 0 ≤ g 1 0 ∧ g 1 0 ≤ 6) (hi2 : g 2 0 = g 34 0 ∧ 0 ≤ g 2 0 ∧ g 2 0 ≤ 10) (hi3 : g 3 0 = g 35 0 ∧ 0 ≤ g 3 0 ∧ g 3 0 ≤ 200) (hi4 : 0 ≤ g 5 0 ∧ g 5 0 ≤ 52) (hi5 : 0 ≤ g 4 0 ∧ g 4 0 ≤ i.toInt) (hi6 : 0 ≤ g 6 0 ∧ g 6 0 ≤ 300) (hi7 : 0 ≤ g 7 0 ∧ g 7 0 ≤ g 36 0 ∧ g 36 0 ≤ 9) (hi8 : g 101 0 = g 1 0) (hi9 : g 104 0 = g 2 0) (hi10 : g 112 0 = g 5 0) (hi11 : g 111 0 = g 4 0) (hi12 : g 114 0 = g 6 0) (hi13 : 0 ≤ g 126 0 ∧ g 126 0 ≤ 200) (hi14 : 0 ≤ g 122 0 ∧ g 122 0 ≤ 30) (hIJ : IJ g) (hU : Un Γ) (t_q1 : ty Γ q1 1) (t_q12 : ty Γ q12 30) (t_q25 : ty Γ q25 25) (hkc : kc ≤ 300 + i.toInt.toNat) (hks : ks ≤ 30000 + 28 * i.toInt.toNat) (hG : ty_ok (dC, dI) vwCl Γ (TP dA Γ g) sz X H) (hS : va_S (ty_A sz) s.heap H locs) (hl : lv_has ls 7 [(4, .int i), (3, .ref q25), (2, .ref q12), (1, .ref q1), (0, .ref b)]) (hiL : i.toInt + 6 ≤ (L : Int)) : W p l e room_1 s m #[Value.ref b] below meth c H locs kc ks (lw_Z below #[Value.ref b] s) (F0 m 189 ls []) := by
  refine lv_aload_n hx hb dL_law_189 rfl (lv_at hl 3 rfl) ?_
  refine lv_aload_n hx hb dL_law_190 rfl (lv_at hl 4 rfl) ?_
  refine lv_iload hx hb dL_law_191 (lv_at hl 0 rfl) ?_
  refine ty_iconst hx hb (1) dL_law_193 (by decide) (fun x167 h168 => ?_)
  refine ty_iadd hx hb dL_law_194 (fun x169 h170 => ?_)
  have h171 := lw_ix (k := 1) h168 h170 hi0 hiL hLN (by decide)
  refine va_sld hx hb hXs hbl hbA hS (i := x169) (ty_ix h171.2) dL_law_195 ?_
  refine W.eq (g2 := F0 m 196 ls [.int (xs (i.toInt.toNat + 1)), .ref q1]) (by rw [lw_xs (xs := xs) h171.1 hi0.1]) ?_
  clear h171 h170 h168
  refine lv_topi (fun x172 s173 => ?_)
  refine cIB (va_runV (C := RX8) (As := [.int x172]) (rest := []) ⟨hx, hb, hml, hown, hA⟩ (k_X8_owner l dC dI dA sz X Γ hU g q1 t_q1 x172   (by first | with_reducible assumption | omega)) ⟨callB_of 1 hA (al_A wd_2_0) rfl rfl rfl (hA _ wd_1_1) (hA _ wd_1_237) (by decide +kernel) ⟨Nat.le_of_ble_eq_true rfl, Nat.le_of_ble_eq_true rfl⟩, hA _ wd_1_238, hA _ wd_1_239⟩ ⟨bl, recv_X8 hE hG t_q1, fun U hU9 hW9 => ⟨rfl, by rw [hU9]; exact hG, hE.go hS hU9 hW9⟩⟩ rfl rfl hl.1 rfl (lv_room (Nat.le_of_ble_eq_true rfl)) dL_law_196 ⟨(Nat.le_trans (show kc + 1 ≤ 300000 by omega) (Nat.le_of_ble_eq_true rfl)), (Nat.le_trans (show ks + 8 ≤ 300000 by omega) (Nat.le_of_ble_eq_true rfl))⟩) hS (fun x176 u174 H locs w175 hG hS => ?_)
  obtain ⟨Γ177, g178⟩ := u174
  dsimp only at w175 hG
  obtain ⟨hx179, hU, hf180, w181⟩ := w175
  have hj183 : IJ g178 := IJ_cg (hf180 126 0 (by decide) (by decide)) (fun j => hf180 132 j (by decide) (by decide)) (fun j => hf180 134 j (by decide) (by decide)) (by (repeat (first | with_reducible assumption | (refine IJ_c (by decide) (by decide) (by decide) ?_) | (refine IJ_take (by omega) (by omega) ?_) | (refine IJ_how (by omega) ?_) | (refine IJ_by (by omega) ?_))))
  have hX184 : ext Γ Γ177 := ext.trans ext.rf hx179
  replace t_q25 : ty Γ177 q25 25 := hx179.one t_q25 (by decide)
  replace t_q12 : ty Γ177 q12 30 := hx179.one t_q12 (by decide)
  replace t_q1 : ty Γ177 q1 1 := hx179.one t_q1 (by decide)
  replace w181 := or2 w181.1 w181.2 (by exact Classical.em _)
  rcases w181 with w181 | w181
  · skip
    refine lv_pop hx hb dL_law_199 rfl ?_
    refine lv_aload_n hx hb dL_law_200 rfl (lv_at hl 2 rfl) ?_
    refine lv_aload_n hx hb dL_law_201 rfl (lv_at hl 4 rfl) ?_
    refine lv_iload hx hb dL_law_202 (lv_at hl 0 rfl) ?_
    refine ty_iconst hx hb (1) dL_law_204 (by decide) (fun x185 h186 => ?_)
    refine ty_iadd hx hb dL_law_205 (fun x187 h188 => ?_)
    have h189 := lw_ix (k := 1) h186 h188 hi0 hiL hLN (by decide)
    refine va_sld hx hb hXs hbl hbA hS (i := x187) (ty_ix h189.2) dL_law_206 ?_
    refine W.eq (g2 := F0 m 207 ls [.int (xs (i.toInt.toNat + 1)), .ref q12]) (by rw [lw_xs (xs := xs) h189.1 hi0.1]) ?_
    clear h189 h188 h186
    refine W.eq (g2 := F0 m 207 ls [.int x172, .ref q12]) (by rw [s173]) ?_
    have hk190 : g178 104 0 = g 104 0 := hf180 104 0 (by decide) (by decide)
    refine cI (va_runV (C := RX9) (As := [.int x172]) (rest := []) ⟨hx, hb, hml, hown, hA⟩ (k_X9_owner l dC dI dA sz X Γ177 hU g178 q12 t_q12 x172   (by first | with_reducible assumption | omega)) ⟨callB_of 1 hA (al_A wd_5_42) rfl rfl rfl (hA _ wd_1_7) (hA _ wd_5_39) (by decide +kernel) ⟨Nat.le_of_ble_eq_true rfl, Nat.le_of_ble_eq_true rfl⟩, hA _ wd_5_40, hA _ wd_5_41⟩ ⟨bl, recv_X9 hE hG t_q12, fun U hU9 hW9 => ⟨rfl, by rw [hU9]; exact hG, hE.go hS hU9 hW9⟩⟩ rfl rfl hl.1 rfl (lv_room (Nat.le_of_ble_eq_true rfl)) dL_law_207 ⟨(Nat.le_trans (show (kc + 1) + 0 ≤ 300000 by omega) (Nat.le_of_ble_eq_true rfl)), (Nat.le_trans (show (ks + 8) + 0 ≤ 300000 by omega) (Nat.le_of_ble_eq_true rfl))⟩) hS (fun x193 u191 H locs w192 hG hS => ?_)
    obtain ⟨hf194, w192⟩ := w192
    have hj195 : IJ u191 := IJ_cg (hf194 126 0 (by decide) (by decide) (by decide)) (fun j => hf194 132 j (by decide) (by decide) (by decide)) (fun j => hf194 134 j (by decide) (by decide) (by decide)) (by (repeat (first | with_reducible assumption | (refine IJ_c (by decide) (by decide) (by decide) ?_) | (refine IJ_take (by omega) (by omega) ?_) | (refine IJ_how (by omega) ?_) | (refine IJ_by (by omega) ?_))))
    replace w192 := or2 w192.1 w192.2 (by exact Classical.em _)
    rcases w192 with w192 | w192
    · skip
      refine lv_pop hx hb dL_law_210 rfl ?_
      refine lv_goto (tgt := 1047) hx hb dL_law_211 (by decide) ?_
      obtain ⟨x196, h197⟩ : ∃ y : Int32, y = i + Int32.ofInt (6) := ⟨_, rfl⟩
      try have h198 : x196.toInt = i.toInt + (6) := ty_inc h197 (by decide) (by omega) (by omega)
      refine lv_iinc (v := x196) (lv' := [(4, .int x196), (3, .ref q25), (2, .ref q12), (1, .ref q1), (0, .ref b)]) hx hb dL_law_1047 hl (k := 0) rfl h197.symm (by decide) rfl (fun ls hl => ?_)
      refine lv_goto (tgt := 23) hx hb dL_law_1050 (by decide) ?_
      have hk199 : u191 2 0 = g178 2 0 := hf194 2 0 (by decide) (by decide) (by decide)
      have hk200 : u191 4 0 = g178 4 0 := hf194 4 0 (by decide) (by decide) (by decide)
      have hk201 : g178 4 0 = g 4 0 := hf180 4 0 (by decide) (by decide)
      have hk202 : u191 34 0 = g178 34 0 := hf194 34 0 (by decide) (by decide) (by decide)
      exact ih x196 Γ177 u191 ((kc + 1)) ((ks + 8)) _ _ ls (by omega) (by omega) (by rw [hf194 1 0 (by decide) (by decide) (by decide), hf180 1 0 (by decide) (by decide), hf194 33 0 (by decide) (by decide) (by decide), hf180 33 0 (by decide) (by decide)]; exact hi1) (by omega) (by rw [hf194 3 0 (by decide) (by decide) (by decide), hf180 3 0 (by decide) (by decide), hf194 35 0 (by decide) (by decide) (by decide), hf180 35 0 (by decide) (by decide)]; exact hi3) (by rw [hf194 5 0 (by decide) (by decide) (by decide), hf180 5 0 (by decide) (by decide)]; exact hi4) (by omega) (by rw [hf194 6 0 (by decide) (by decide) (by decide), hf180 6 0 (by decide) (by decide)]; exact hi6) (by rw [hf194 7 0 (by decide) (by decide) (by decide), hf180 7 0 (by decide) (by decide), hf194 36 0 (by decide) (by decide) (by decide), hf180 36 0 (by decide) (by decide)]; exact hi7) (by rw [hf194 101 0 (by decide) (by decide) (by decide), hf180 101 0 (by decide) (by decide), hf194 1 0 (by decide) (by decide) (by decide), hf180 1 0 (by decide) (by decide)]; exact hi8) (by omega) (by rw [hf194 112 0 (by decide) (by decide) (by decide), hf180 112 0 (by decide) (by decide), hf194 5 0 (by decide) (by decide) (by decide), hf180 5 0 (by decide) (by decide)]; exact hi10) (by rw [hf194 111 0 (by decide) (by decide) (by decide), hf180 111 0 (by decide) (by decide), hf194 4 0 (by decide) (by decide) (by decide), hf180 4 0 (by decide) (by decide)]; exact hi11) (by rw [hf194 114 0 (by decide) (by decide) (by decide), hf180 114 0 (by decide) (by decide), hf194 6 0 (by decide) (by decide) (by decide), hf180 6 0 (by decide) (by decide)]; exact hi12) (by rw [hf194 126 0 (by decide) (by decide) (by decide), hf180 126 0 (by decide) (by decide)]; exact hi13) (by rw [hf194 122 0 (by decide) (by decide) (by decide), hf180 122 0 (by decide) (by decide)]; exact hi14) (by (repeat (first | with_reducible assumption | (refine IJ_c (by decide) (by decide) (by decide) ?_) | (refine IJ_take (by omega) (by omega) ?_) | (refine IJ_how (by omega) ?_) | (refine IJ_by (by omega) ?_)))) hU t_q1 t_q12 t_q25 (by omega) (by omega) hG hS (lv_sub hl [0, 1, 2, 3, 4] rfl)
    · exfalso; omega
  · skip
    refine lv_pop hx hb dL_law_199 rfl ?_
    refine lv_aload_n hx hb dL_law_200 rfl (lv_at hl 2 rfl) ?_
    refine lv_aload_n hx hb dL_law_201 rfl (lv_at hl 4 rfl) ?_
    refine lv_iload hx hb dL_law_202 (lv_at hl 0 rfl) ?_
    refine ty_iconst hx hb (1) dL_law_204 (by decide) (fun x203 h204 => ?_)
    refine ty_iadd hx hb dL_law_205 (fun x205 h206 => ?_)
    have h207 := lw_ix (k := 1) h204 h206 hi0 hiL hLN (by decide)
    refine va_sld hx hb hXs hbl hbA hS (i := x205) (ty_ix h207.2) dL_law_206 ?_
    refine W.eq (g2 := F0 m 207 ls [.int (xs (i.toInt.toNat + 1)), .ref q12]) (by rw [lw_xs (xs := xs) h207.1 hi0.1]) ?_
    clear h207 h206 h204
    refine W.eq (g2 := F0 m 207 ls [.int x172, .ref q12]) (by rw [s173]) ?_
    have hk208 : g178 104 0 = g 104 0 := hf180 104 0 (by decide) (by decide)
    refine cI (va_runV (C := RX9) (As := [.int x172]) (rest := []) ⟨hx, hb, hml, hown, hA⟩ (k_X9_owner l dC dI dA sz X Γ177 hU g178 q12 t_q12 x172   (by first | with_reducible assumption | omega)) ⟨callB_of 1 hA (al_A wd_5_42) rfl rfl rfl (hA _ wd_1_7) (hA _ wd_5_39) (by decide +kernel) ⟨Nat.le_of_ble_eq_true rfl, Nat.le_of_ble_eq_true rfl⟩, hA _ wd_5_40, hA _ wd_5_41⟩ ⟨bl, recv_X9 hE hG t_q12, fun U hU9 hW9 => ⟨rfl, by rw [hU9]; exact hG, hE.go hS hU9 hW9⟩⟩ rfl rfl hl.1 rfl (lv_room (Nat.le_of_ble_eq_true rfl)) dL_law_207 ⟨(Nat.le_trans (show (kc + 1) + 0 ≤ 300000 by omega) (Nat.le_of_ble_eq_true rfl)), (Nat.le_trans (show (ks + 8) + 0 ≤ 300000 by omega) (Nat.le_of_ble_eq_true rfl))⟩) hS (fun x211 u209 H locs w210 hG hS => ?_)
    obtain ⟨hf212, w210⟩ := w210
    have hj213 : IJ u209 := IJ_cg (hf212 126 0 (by decide) (by decide) (by decide)) (fun j => hf212 132 j (by decide) (by decide) (by decide)) (fun j => hf212 134 j (by decide) (by decide) (by decide)) (by (repeat (first | with_reducible assumption | (refine IJ_c (by decide) (by decide) (by decide) ?_) | (refine IJ_take (by omega) (by omega) ?_) | (refine IJ_how (by omega) ?_) | (refine IJ_by (by omega) ?_))))
    replace w210 := or2 w210.1 w210.2 (by exact Classical.em _)
    rcases w210 with w210 | w210
    · exfalso; omega
    · skip
      refine lv_pop hx hb dL_law_210 rfl ?_
      refine lv_goto (tgt := 1047) hx hb dL_law_211 (by decide) ?_
      obtain ⟨x214, h215⟩ : ∃ y : Int32, y = i + Int32.ofInt (6) := ⟨_, rfl⟩
      try have h216 : x214.toInt = i.toInt + (6) := ty_inc h215 (by decide) (by omega) (by omega)
      refine lv_iinc (v := x214) (lv' := [(4, .int x214), (3, .ref q25), (2, .ref q12), (1, .ref q1), (0, .ref b)]) hx hb dL_law_1047 hl (k := 0) rfl h215.symm (by decide) rfl (fun ls hl => ?_)
      refine lv_goto (tgt := 23) hx hb dL_law_1050 (by decide) ?_
      have hk217 : u209 2 0 = g178 2 0 := hf212 2 0 (by decide) (by decide) (by decide)
      have hk218 : u209 4 0 = g178 4 0 := hf212 4 0 (by decide) (by decide) (by decide)
      have hk219 : g178 4 0 = g 4 0 := hf180 4 0 (by decide) (by decide)
      have hk220 : u209 34 0 = g178 34 0 := hf212 34 0 (by decide) (by decide) (by decide)
      exact ih x214 Γ177 u209 ((kc + 1)) ((ks + 8)) _ _ ls (by omega) (by omega) (by rw [hf212 1 0 (by decide) (by decide) (by decide), hf180 1 0 (by decide) (by decide), hf212 33 0 (by decide) (by decide) (by decide), hf180 33 0 (by decide) (by decide)]; exact hi1) (by omega) (by rw [hf212 3 0 (by decide) (by decide) (by decide), hf180 3 0 (by decide) (by decide), hf212 35 0 (by decide) (by decide) (by decide), hf180 35 0 (by decide) (by decide)]; exact hi3) (by rw [hf212 5 0 (by decide) (by decide) (by decide), hf180 5 0 (by decide) (by decide)]; exact hi4) (by omega) (by rw [hf212 6 0 (by decide) (by decide) (by decide), hf180 6 0 (by decide) (by decide)]; exact hi6) (by rw [hf212 7 0 (by decide) (by decide) (by decide), hf180 7 0 (by decide) (by decide), hf212 36 0 (by decide) (by decide) (by decide), hf180 36 0 (by decide) (by decide)]; exact hi7) (by rw [hf212 101 0 (by decide) (by decide) (by decide), hf180 101 0 (by decide) (by decide), hf212 1 0 (by decide) (by decide) (by decide), hf180 1 0 (by decide) (by decide)]; exact hi8) (by omega) (by rw [hf212 112 0 (by decide) (by decide) (by decide), hf180 112 0 (by decide) (by decide), hf212 5 0 (by decide) (by decide) (by decide), hf180 5 0 (by decide) (by decide)]; exact hi10) (by rw [hf212 111 0 (by decide) (by decide) (by decide), hf180 111 0 (by decide) (by decide), hf212 4 0 (by decide) (by decide) (by decide), hf180 4 0 (by decide) (by decide)]; exact hi11) (by rw [hf212 114 0 (by decide) (by decide) (by decide), hf180 114 0 (by decide) (by decide), hf212 6 0 (by decide) (by decide) (by decide), hf180 6 0 (by decide) (by decide)]; exact hi12) (by rw [hf212 126 0 (by decide) (by decide) (by decide), hf180 126 0 (by decide) (by decide)]; exact hi13) (by rw [hf212 122 0 (by decide) (by decide) (by decide), hf180 122 0 (by decide) (by decide)]; exact hi14) (by (repeat (first | with_reducible assumption | (refine IJ_c (by decide) (by decide) (by decide) ?_) | (refine IJ_take (by omega) (by omega) ?_) | (refine IJ_how (by omega) ?_) | (refine IJ_by (by omega) ?_)))) hU t_q1 t_q12 t_q25 (by omega) (by omega) hG hS (lv_sub hl [0, 1, 2, 3, 4] rfl)
set_option maxHeartbeats 40000000 in
set_option maxRecDepth 100000 in
/-- the law's case 2 -/
theorem law_c2 {p : Program} {e : Env} {s : State} {m : MethodId} {below : List Frame} {meth : Method} {c : Code} (l : Launch) (hl9 : l.stackTraces = false) {b L : Nat} {xs : Nat → Int32} (hLN : L ≤ 3072) (hx : p.tables.exec = Jvm.exec) (hb : c.code = code) (hr : meth.sig.returnType = ret) (hml : c.maxLocals = 7) (hown : s.vm.findClass R_law = some m.cls) (hA : ∀ w ∈ AL, w.before #[Value.ref b] s = true) (hXs : va_X b L xs s s.heap) (hbl : b < s.heap.size) (hlocks : meth.locks = false) {dC : Nat → ClassId} {dI : Nat → Nat → Nat} {dA : Nat → ClassId} {sz : Nat} (hE : en dC dI dA sz s) (hsz : sz = s.heap.size) (hbA : ¬ ty_A sz b) (X : va_W) (q1 q12 q25 : Nat) (n : Nat) (ih : LJ p l e s m below meth c b dC dI dA sz X q1 q12 q25 n) (i : Int32) (Γ : ty_G) (g : gh) (kc ks : Nat) (H : Heap) (locs : List Loc) (ls : Array Slot) (hm : (3073 - i.toInt : Int) < (n + 1 : Nat)) (hi0 : 0 ≤ i.toInt ∧ i.toInt ≤ 3072) (hi1 : g 1 0 = g 33 0 ∧ 0 ≤ g 1 0 ∧ g 1 0 ≤ 6) (hi2 : g 2 0 = g 34 0 ∧ 0 ≤ g 2 0 ∧ g 2 0 ≤ 10) (hi3 : g 3 0 = g 35 0 ∧ 0 ≤ g 3 0 ∧ g 3 0 ≤ 200) (hi4 : 0 ≤ g 5 0 ∧ g 5 0 ≤ 52) (hi5 : 0 ≤ g 4 0 ∧ g 4 0 ≤ i.toInt) (hi6 : 0 ≤ g 6 0 ∧ g 6 0 ≤ 300) (hi7 : 0 ≤ g 7 0 ∧ g 7 0 ≤ g 36 0 ∧ g 36 0 ≤ 9) (hi8 : g 101 0 = g 1 0) (hi9 : g 104 0 = g 2 0) (hi10 : g 112 0 = g 5 0) (hi11 : g 111 0 = g 4 0) (hi12 : g 114 0 = g 6 0) (hi13 : 0 ≤ g 126 0 ∧ g 126 0 ≤ 200) (hi14 : 0 ≤ g 122 0 ∧ g 122 0 ≤ 30) (hIJ : IJ g) (hU : Un Γ) (t_q1 : ty Γ q1 1) (t_q12 : ty Γ q12 30) (t_q25 : ty Γ q25 25) (hkc : kc ≤ 300 + i.toInt.toNat) (hks : ks ≤ 30000 + 28 * i.toInt.toNat) (hG : ty_ok (dC, dI) vwCl Γ (TP dA Γ g) sz X H) (hS : va_S (ty_A sz) s.heap H locs) (hl : lv_has ls 7 [(4, .int i), (3, .ref q25), (2, .ref q12), (1, .ref q1), (0, .ref b)]) (hiL : i.toInt + 6 ≤ (L : Int)) : W p l e room_1 s m #[Value.ref b] below meth c H locs kc ks (lw_Z below #[Value.ref b] s) (F0 m 214 ls []) := by
  refine lv_aload_n hx hb dL_law_214 rfl (lv_at hl 3 rfl) ?_
  refine lv_aload_n hx hb dL_law_215 rfl (lv_at hl 4 rfl) ?_
  refine lv_iload hx hb dL_law_216 (lv_at hl 0 rfl) ?_
  refine ty_iconst hx hb (1) dL_law_218 (by decide) (fun x221 h222 => ?_)
  refine ty_iadd hx hb dL_law_219 (fun x223 h224 => ?_)
  have h225 := lw_ix (k := 1) h222 h224 hi0 hiL hLN (by decide)
  refine va_sld hx hb hXs hbl hbA hS (i := x223) (ty_ix h225.2) dL_law_220 ?_
  refine W.eq (g2 := F0 m 221 ls [.int (xs (i.toInt.toNat + 1)), .ref q1]) (by rw [lw_xs (xs := xs) h225.1 hi0.1]) ?_
  clear h225 h224 h222
  refine lv_topi (fun x226 s227 => ?_)
  refine lv_aload_n hx hb dL_law_221 rfl (lv_at hl 4 rfl) ?_
  refine lv_iload hx hb dL_law_222 (lv_at hl 0 rfl) ?_
  refine ty_iconst hx hb (2) dL_law_224 (by decide) (fun x228 h229 => ?_)
  refine ty_iadd hx hb dL_law_225 (fun x230 h231 => ?_)
  have h232 := lw_ix (k := 2) h229 h231 hi0 hiL hLN (by decide)
  refine va_sld hx hb hXs hbl hbA hS (i := x230) (ty_ix h232.2) dL_law_226 ?_
  refine W.eq (g2 := F0 m 227 ls [.int (xs (i.toInt.toNat + 2)), .int x226, .ref q1]) (by rw [lw_xs (xs := xs) h232.1 hi0.1]) ?_
  clear h232 h231 h229
  refine lv_topi (fun x233 s234 => ?_)
  refine lv_aload_n hx hb dL_law_227 rfl (lv_at hl 4 rfl) ?_
  refine lv_iload hx hb dL_law_228 (lv_at hl 0 rfl) ?_
  refine ty_iconst hx hb (3) dL_law_230 (by decide) (fun x235 h236 => ?_)
  refine ty_iadd hx hb dL_law_231 (fun x237 h238 => ?_)
  have h239 := lw_ix (k := 3) h236 h238 hi0 hiL hLN (by decide)
  refine va_sld hx hb hXs hbl hbA hS (i := x237) (ty_ix h239.2) dL_law_232 ?_
  refine W.eq (g2 := F0 m 233 ls [.int (xs (i.toInt.toNat + 3)), .int x233, .int x226, .ref q1]) (by rw [lw_xs (xs := xs) h239.1 hi0.1]) ?_
  clear h239 h238 h236
  refine lv_topi (fun x240 s241 => ?_)
  refine cI (va_runV (C := RX8) (As := [.int x226, .int x233, .int x240]) (rest := []) ⟨hx, hb, hml, hown, hA⟩ (k_X8_own l dC dI dA sz X Γ hU g q1 t_q1 x226 x233 x240   (by first | with_reducible assumption | omega) (by first | with_reducible assumption | omega)) ⟨callB_of 3 hA (al_A wd_2_44) rfl rfl rfl (hA _ wd_1_1) (hA _ wd_2_41) (by decide +kernel) ⟨Nat.le_of_ble_eq_true rfl, Nat.le_of_ble_eq_true rfl⟩, hA _ wd_2_42, hA _ wd_2_43⟩ ⟨bl, recv_X8 hE hG t_q1, fun U hU9 hW9 => ⟨rfl, by rw [hU9]; exact hG, hE.go hS hU9 hW9⟩⟩ rfl rfl hl.1 rfl (lv_room (Nat.le_of_ble_eq_true rfl)) dL_law_233 ⟨(Nat.le_trans (show kc + 0 ≤ 300000 by omega) (Nat.le_of_ble_eq_true rfl)), (Nat.le_trans (show ks + 0 ≤ 300000 by omega) (Nat.le_of_ble_eq_true rfl))⟩) hS (fun x244 u242 H locs w243 hG hS => ?_)
  have eu245 := w243
  rw [eu245] at hG
  refine lv_pop hx hb dL_law_236 rfl ?_
  refine lv_aload_n hx hb dL_law_237 rfl (lv_at hl 2 rfl) ?_
  refine lv_aload_n hx hb dL_law_238 rfl (lv_at hl 4 rfl) ?_
  refine lv_iload hx hb dL_law_239 (lv_at hl 0 rfl) ?_
  refine ty_iconst hx hb (1) dL_law_241 (by decide) (fun x246 h247 => ?_)
  refine ty_iadd hx hb dL_law_242 (fun x248 h249 => ?_)
  have h250 := lw_ix (k := 1) h247 h249 hi0 hiL hLN (by decide)
  refine va_sld hx hb hXs hbl hbA hS (i := x248) (ty_ix h250.2) dL_law_243 ?_
  refine W.eq (g2 := F0 m 244 ls [.int (xs (i.toInt.toNat + 1)), .ref q12]) (by rw [lw_xs (xs := xs) h250.1 hi0.1]) ?_
  clear h250 h249 h247
  refine W.eq (g2 := F0 m 244 ls [.int x226, .ref q12]) (by rw [s227]) ?_
  refine lv_aload_n hx hb dL_law_244 rfl (lv_at hl 4 rfl) ?_
  refine lv_iload hx hb dL_law_245 (lv_at hl 0 rfl) ?_
  refine ty_iconst hx hb (2) dL_law_247 (by decide) (fun x251 h252 => ?_)
  refine ty_iadd hx hb dL_law_248 (fun x253 h254 => ?_)
  have h255 := lw_ix (k := 2) h252 h254 hi0 hiL hLN (by decide)
  refine va_sld hx hb hXs hbl hbA hS (i := x253) (ty_ix h255.2) dL_law_249 ?_
  refine W.eq (g2 := F0 m 250 ls [.int (xs (i.toInt.toNat + 2)), .int x226, .ref q12]) (by rw [lw_xs (xs := xs) h255.1 hi0.1]) ?_
  clear h255 h254 h252
  refine W.eq (g2 := F0 m 250 ls [.int x233, .int x226, .ref q12]) (by rw [s234]) ?_
  refine lv_aload_n hx hb dL_law_250 rfl (lv_at hl 4 rfl) ?_
  refine lv_iload hx hb dL_law_251 (lv_at hl 0 rfl) ?_
  refine ty_iconst hx hb (3) dL_law_253 (by decide) (fun x256 h257 => ?_)
  refine ty_iadd hx hb dL_law_254 (fun x258 h259 => ?_)
  have h260 := lw_ix (k := 3) h257 h259 hi0 hiL hLN (by decide)
  refine va_sld hx hb hXs hbl hbA hS (i := x258) (ty_ix h260.2) dL_law_255 ?_
  refine W.eq (g2 := F0 m 256 ls [.int (xs (i.toInt.toNat + 3)), .int x233, .int x226, .ref q12]) (by rw [lw_xs (xs := xs) h260.1 hi0.1]) ?_
  clear h260 h259 h257
  refine W.eq (g2 := F0 m 256 ls [.int x240, .int x233, .int x226, .ref q12]) (by rw [s241]) ?_
  refine cI (va_runV (C := RX9) (As := [.int x226, .int x233, .int x240]) (rest := []) ⟨hx, hb, hml, hown, hA⟩ (k_X9_own l dC dI dA sz X Γ hU g q12 t_q12 x226 x233 x240   (by first | with_reducible assumption | omega) (by first | with_reducible assumption | omega) (by first | with_reducible assumption | omega)) ⟨callB_of 3 hA (al_A wd_5_46) rfl rfl rfl (hA _ wd_1_7) (hA _ wd_5_43) (by decide +kernel) ⟨Nat.le_of_ble_eq_true rfl, Nat.le_of_ble_eq_true rfl⟩, hA _ wd_5_44, hA _ wd_5_45⟩ ⟨bl, recv_X9 hE hG t_q12, fun U hU9 hW9 => ⟨rfl, by rw [hU9]; exact hG, hE.go hS hU9 hW9⟩⟩ rfl rfl hl.1 rfl (lv_room (Nat.le_of_ble_eq_true rfl)) dL_law_256 ⟨(Nat.le_trans (show kc + 0 ≤ 300000 by omega) (Nat.le_of_ble_eq_true rfl)), (Nat.le_trans (show ks + 0 ≤ 300000 by omega) (Nat.le_of_ble_eq_true rfl))⟩) hS (fun x263 u261 H locs w262 hG hS => ?_)
  obtain ⟨hf264, w262⟩ := w262
  have hj265 : IJ u261 := IJ_cg (hf264 126 0 (by decide) (by decide)) (fun j => hf264 132 j (by decide) (by decide)) (fun j => hf264 134 j (by decide) (by decide)) (by (repeat (first | with_reducible assumption | (refine IJ_c (by decide) (by decide) (by decide) ?_) | (refine IJ_take (by omega) (by omega) ?_) | (refine IJ_how (by omega) ?_) | (refine IJ_by (by omega) ?_))))
  refine lv_pop hx hb dL_law_259 rfl ?_
  refine lv_goto (tgt := 1047) hx hb dL_law_260 (by decide) ?_
  obtain ⟨x266, h267⟩ : ∃ y : Int32, y = i + Int32.ofInt (6) := ⟨_, rfl⟩
  try have h268 : x266.toInt = i.toInt + (6) := ty_inc h267 (by decide) (by omega) (by omega)
  refine lv_iinc (v := x266) (lv' := [(4, .int x266), (3, .ref q25), (2, .ref q12), (1, .ref q1), (0, .ref b)]) hx hb dL_law_1047 hl (k := 0) rfl h267.symm (by decide) rfl (fun ls hl => ?_)
  refine lv_goto (tgt := 23) hx hb dL_law_1050 (by decide) ?_
  have hk269 : u261 4 0 = g 4 0 := hf264 4 0 (by decide) (by decide)
  exact ih x266 Γ u261 (kc) (ks) _ _ ls (by omega) (by omega) (by rw [hf264 1 0 (by decide) (by decide), hf264 33 0 (by decide) (by decide)]; exact hi1) (by rw [hf264 2 0 (by decide) (by decide), hf264 34 0 (by decide) (by decide)]; exact hi2) (by rw [hf264 3 0 (by decide) (by decide), hf264 35 0 (by decide) (by decide)]; exact hi3) (by rw [hf264 5 0 (by decide) (by decide)]; exact hi4) (by omega) (by rw [hf264 6 0 (by decide) (by decide)]; exact hi6) (by rw [hf264 7 0 (by decide) (by decide), hf264 36 0 (by decide) (by decide)]; exact hi7) (by rw [hf264 101 0 (by decide) (by decide), hf264 1 0 (by decide) (by decide)]; exact hi8) (by rw [hf264 104 0 (by decide) (by decide), hf264 2 0 (by decide) (by decide)]; exact hi9) (by rw [hf264 112 0 (by decide) (by decide), hf264 5 0 (by decide) (by decide)]; exact hi10) (by rw [hf264 111 0 (by decide) (by decide), hf264 4 0 (by decide) (by decide)]; exact hi11) (by rw [hf264 114 0 (by decide) (by decide), hf264 6 0 (by decide) (by decide)]; exact hi12) (by rw [hf264 126 0 (by decide) (by decide)]; exact hi13) (by rw [hf264 122 0 (by decide) (by decide)]; exact hi14) (by (repeat (first | with_reducible assumption | (refine IJ_c (by decide) (by decide) (by decide) ?_) | (refine IJ_take (by omega) (by omega) ?_) | (refine IJ_how (by omega) ?_) | (refine IJ_by (by omega) ?_)))) hU t_q1 t_q12 t_q25 (by omega) (by omega) hG hS (lv_sub hl [0, 1, 2, 3, 4] rfl)
set_option maxHeartbeats 40000000 in
set_option maxRecDepth 100000 in
/-- the law's case 3 -/
theorem law_c3 {p : Program} {e : Env} {s : State} {m : MethodId} {below : List Frame} {meth : Method} {c : Code} (l : Launch) (hl9 : l.stackTraces = false) {b L : Nat} {xs : Nat → Int32} (hLN : L ≤ 3072) (hx : p.tables.exec = Jvm.exec) (hb : c.code = code) (hr : meth.sig.returnType = ret) (hml : c.maxLocals = 7) (hown : s.vm.findClass R_law = some m.cls) (hA : ∀ w ∈ AL, w.before #[Value.ref b] s = true) (hXs : va_X b L xs s s.heap) (hbl : b < s.heap.size) (hlocks : meth.locks = false) {dC : Nat → ClassId} {dI : Nat → Nat → Nat} {dA : Nat → ClassId} {sz : Nat} (hE : en dC dI dA sz s) (hsz : sz = s.heap.size) (hbA : ¬ ty_A sz b) (X : va_W) (q1 q12 q25 : Nat) (n : Nat) (ih : LJ p l e s m below meth c b dC dI dA sz X q1 q12 q25 n) (i : Int32) (Γ : ty_G) (g : gh) (kc ks : Nat) (H : Heap) (locs : List Loc) (ls : Array Slot) (hm : (3073 - i.toInt : Int) < (n + 1 : Nat)) (hi0 : 0 ≤ i.toInt ∧ i.toInt ≤ 3072) (hi1 : g 1 0 = g 33 0 ∧ 0 ≤ g 1 0 ∧ g 1 0 ≤ 6) (hi2 : g 2 0 = g 34 0 ∧ 0 ≤ g 2 0 ∧ g 2 0 ≤ 10) (hi3 : g 3 0 = g 35 0 ∧ 0 ≤ g 3 0 ∧ g 3 0 ≤ 200) (hi4 : 0 ≤ g 5 0 ∧ g 5 0 ≤ 52) (hi5 : 0 ≤ g 4 0 ∧ g 4 0 ≤ i.toInt) (hi6 : 0 ≤ g 6 0 ∧ g 6 0 ≤ 300) (hi7 : 0 ≤ g 7 0 ∧ g 7 0 ≤ g 36 0 ∧ g 36 0 ≤ 9) (hi8 : g 101 0 = g 1 0) (hi9 : g 104 0 = g 2 0) (hi10 : g 112 0 = g 5 0) (hi11 : g 111 0 = g 4 0) (hi12 : g 114 0 = g 6 0) (hi13 : 0 ≤ g 126 0 ∧ g 126 0 ≤ 200) (hi14 : 0 ≤ g 122 0 ∧ g 122 0 ≤ 30) (hIJ : IJ g) (hU : Un Γ) (t_q1 : ty Γ q1 1) (t_q12 : ty Γ q12 30) (t_q25 : ty Γ q25 25) (hkc : kc ≤ 300 + i.toInt.toNat) (hks : ks ≤ 30000 + 28 * i.toInt.toNat) (hG : ty_ok (dC, dI) vwCl Γ (TP dA Γ g) sz X H) (hS : va_S (ty_A sz) s.heap H locs) (hl : lv_has ls 7 [(4, .int i), (3, .ref q25), (2, .ref q12), (1, .ref q1), (0, .ref b)]) (hiL : i.toInt + 6 ≤ (L : Int)) : W p l e room_1 s m #[Value.ref b] below meth c H locs kc ks (lw_Z below #[Value.ref b] s) (F0 m 263 ls []) := by
  refine lv_aload_n hx hb dL_law_263 rfl (lv_at hl 3 rfl) ?_
  refine lv_aload_n hx hb dL_law_264 rfl (lv_at hl 4 rfl) ?_
  refine lv_iload hx hb dL_law_265 (lv_at hl 0 rfl) ?_
  refine ty_iconst hx hb (1) dL_law_267 (by decide) (fun x270 h271 => ?_)
  refine ty_iadd hx hb dL_law_268 (fun x272 h273 => ?_)
  have h274 := lw_ix (k := 1) h271 h273 hi0 hiL hLN (by decide)
  refine va_sld hx hb hXs hbl hbA hS (i := x272) (ty_ix h274.2) dL_law_269 ?_
  refine W.eq (g2 := F0 m 270 ls [.int (xs (i.toInt.toNat + 1)), .ref q1]) (by rw [lw_xs (xs := xs) h274.1 hi0.1]) ?_
  clear h274 h273 h271
  refine lv_topi (fun x275 s276 => ?_)
  refine lv_aload_n hx hb dL_law_270 rfl (lv_at hl 4 rfl) ?_
  refine lv_iload hx hb dL_law_271 (lv_at hl 0 rfl) ?_
  refine ty_iconst hx hb (2) dL_law_273 (by decide) (fun x277 h278 => ?_)
  refine ty_iadd hx hb dL_law_274 (fun x279 h280 => ?_)
  have h281 := lw_ix (k := 2) h278 h280 hi0 hiL hLN (by decide)
  refine va_sld hx hb hXs hbl hbA hS (i := x279) (ty_ix h281.2) dL_law_275 ?_
  refine W.eq (g2 := F0 m 276 ls [.int (xs (i.toInt.toNat + 2)), .int x275, .ref q1]) (by rw [lw_xs (xs := xs) h281.1 hi0.1]) ?_
  clear h281 h280 h278
  refine lv_topi (fun x282 s283 => ?_)
  refine lv_aload_n hx hb dL_law_276 rfl (lv_at hl 4 rfl) ?_
  refine lv_iload hx hb dL_law_277 (lv_at hl 0 rfl) ?_
  refine ty_iconst hx hb (3) dL_law_279 (by decide) (fun x284 h285 => ?_)
  refine ty_iadd hx hb dL_law_280 (fun x286 h287 => ?_)
  have h288 := lw_ix (k := 3) h285 h287 hi0 hiL hLN (by decide)
  refine va_sld hx hb hXs hbl hbA hS (i := x286) (ty_ix h288.2) dL_law_281 ?_
  refine W.eq (g2 := F0 m 282 ls [.int (xs (i.toInt.toNat + 3)), .int x282, .int x275, .ref q1]) (by rw [lw_xs (xs := xs) h288.1 hi0.1]) ?_
  clear h288 h287 h285
  refine lv_topi (fun x289 s290 => ?_)
  refine lv_aload_n hx hb dL_law_282 rfl (lv_at hl 4 rfl) ?_
  refine lv_iload hx hb dL_law_283 (lv_at hl 0 rfl) ?_
  refine ty_iconst hx hb (4) dL_law_285 (by decide) (fun x291 h292 => ?_)
  refine ty_iadd hx hb dL_law_286 (fun x293 h294 => ?_)
  have h295 := lw_ix (k := 4) h292 h294 hi0 hiL hLN (by decide)
  refine va_sld hx hb hXs hbl hbA hS (i := x293) (ty_ix h295.2) dL_law_287 ?_
  refine W.eq (g2 := F0 m 288 ls [.int (xs (i.toInt.toNat + 4)), .int x289, .int x282, .int x275, .ref q1]) (by rw [lw_xs (xs := xs) h295.1 hi0.1]) ?_
  clear h295 h294 h292
  refine lv_topi (fun x296 s297 => ?_)
  refine lv_aload_n hx hb dL_law_288 rfl (lv_at hl 4 rfl) ?_
  refine lv_iload hx hb dL_law_289 (lv_at hl 0 rfl) ?_
  refine ty_iconst hx hb (5) dL_law_291 (by decide) (fun x298 h299 => ?_)
  refine ty_iadd hx hb dL_law_292 (fun x300 h301 => ?_)
  have h302 := lw_ix (k := 5) h299 h301 hi0 hiL hLN (by decide)
  refine va_sld hx hb hXs hbl hbA hS (i := x300) (ty_ix h302.2) dL_law_293 ?_
  refine W.eq (g2 := F0 m 294 ls [.int (xs (i.toInt.toNat + 5)), .int x296, .int x289, .int x282, .int x275, .ref q1]) (by rw [lw_xs (xs := xs) h302.1 hi0.1]) ?_
  clear h302 h301 h299
  refine lv_topi (fun x303 s304 => ?_)
  refine cI (va_runV (C := RX8) (As := [.int x275, .int x282, .int x289, .int x296, .int x303]) (rest := []) ⟨hx, hb, hml, hown, hA⟩ (k_X8_feed l dC dI dA sz X Γ hU g q1 t_q1 x275 x282 x289 x296 x303   (by first | with_reducible assumption | omega)) ⟨callB_of 5 hA (al_A wd_2_76) rfl rfl rfl (hA _ wd_1_1) (hA _ wd_2_73) (by decide +kernel) ⟨Nat.le_of_ble_eq_true rfl, Nat.le_of_ble_eq_true rfl⟩, hA _ wd_2_74, hA _ wd_2_75⟩ ⟨bl, recv_X8 hE hG t_q1, fun U hU9 hW9 => ⟨rfl, by rw [hU9]; exact hG, hE.go hS hU9 hW9⟩⟩ rfl rfl hl.1 rfl (lv_room (Nat.le_of_ble_eq_true rfl)) dL_law_294 ⟨(Nat.le_trans (show kc + 0 ≤ 300000 by omega) (Nat.le_of_ble_eq_true rfl)), (Nat.le_trans (show ks + 0 ≤ 300000 by omega) (Nat.le_of_ble_eq_true rfl))⟩) hS (fun x307 u305 H locs w306 hG hS => ?_)
  obtain ⟨hf308, w306⟩ := w306
  have hj309 : IJ u305 := IJ_cg (hf308 126 0 (by decide) (by decide)) (fun j => hf308 132 j (by decide) (by decide)) (fun j => hf308 134 j (by decide) (by decide)) (by (repeat (first | with_reducible assumption | (refine IJ_c (by decide) (by decide) (by decide) ?_) | (refine IJ_take (by omega) (by omega) ?_) | (refine IJ_how (by omega) ?_) | (refine IJ_by (by omega) ?_))))
  replace w306 := or2 w306.1 w306.2 (by omega)
  rcases w306 with w306 | w306
  · skip
    refine lv_pop hx hb dL_law_297 rfl ?_
    refine lv_aload_n hx hb dL_law_298 rfl (lv_at hl 2 rfl) ?_
    refine lv_aload_n hx hb dL_law_299 rfl (lv_at hl 4 rfl) ?_
    refine lv_iload hx hb dL_law_300 (lv_at hl 0 rfl) ?_
    refine ty_iconst hx hb (1) dL_law_302 (by decide) (fun x310 h311 => ?_)
    refine ty_iadd hx hb dL_law_303 (fun x312 h313 => ?_)
    have h314 := lw_ix (k := 1) h311 h313 hi0 hiL hLN (by decide)
    refine va_sld hx hb hXs hbl hbA hS (i := x312) (ty_ix h314.2) dL_law_304 ?_
    refine W.eq (g2 := F0 m 305 ls [.int (xs (i.toInt.toNat + 1)), .ref q12]) (by rw [lw_xs (xs := xs) h314.1 hi0.1]) ?_
    clear h314 h313 h311
    refine W.eq (g2 := F0 m 305 ls [.int x275, .ref q12]) (by rw [s276]) ?_
    refine lv_aload_n hx hb dL_law_305 rfl (lv_at hl 4 rfl) ?_
    refine lv_iload hx hb dL_law_306 (lv_at hl 0 rfl) ?_
    refine ty_iconst hx hb (2) dL_law_308 (by decide) (fun x315 h316 => ?_)
    refine ty_iadd hx hb dL_law_309 (fun x317 h318 => ?_)
    have h319 := lw_ix (k := 2) h316 h318 hi0 hiL hLN (by decide)
    refine va_sld hx hb hXs hbl hbA hS (i := x317) (ty_ix h319.2) dL_law_310 ?_
    refine W.eq (g2 := F0 m 311 ls [.int (xs (i.toInt.toNat + 2)), .int x275, .ref q12]) (by rw [lw_xs (xs := xs) h319.1 hi0.1]) ?_
    clear h319 h318 h316
    refine W.eq (g2 := F0 m 311 ls [.int x282, .int x275, .ref q12]) (by rw [s283]) ?_
    refine lv_aload_n hx hb dL_law_311 rfl (lv_at hl 4 rfl) ?_
    refine lv_iload hx hb dL_law_312 (lv_at hl 0 rfl) ?_
    refine ty_iconst hx hb (3) dL_law_314 (by decide) (fun x320 h321 => ?_)
    refine ty_iadd hx hb dL_law_315 (fun x322 h323 => ?_)
    have h324 := lw_ix (k := 3) h321 h323 hi0 hiL hLN (by decide)
    refine va_sld hx hb hXs hbl hbA hS (i := x322) (ty_ix h324.2) dL_law_316 ?_
    refine W.eq (g2 := F0 m 317 ls [.int (xs (i.toInt.toNat + 3)), .int x282, .int x275, .ref q12]) (by rw [lw_xs (xs := xs) h324.1 hi0.1]) ?_
    clear h324 h323 h321
    refine W.eq (g2 := F0 m 317 ls [.int x289, .int x282, .int x275, .ref q12]) (by rw [s290]) ?_
    refine lv_aload_n hx hb dL_law_317 rfl (lv_at hl 4 rfl) ?_
    refine lv_iload hx hb dL_law_318 (lv_at hl 0 rfl) ?_
    refine ty_iconst hx hb (4) dL_law_320 (by decide) (fun x325 h326 => ?_)
    refine ty_iadd hx hb dL_law_321 (fun x327 h328 => ?_)
    have h329 := lw_ix (k := 4) h326 h328 hi0 hiL hLN (by decide)
    refine va_sld hx hb hXs hbl hbA hS (i := x327) (ty_ix h329.2) dL_law_322 ?_
    refine W.eq (g2 := F0 m 323 ls [.int (xs (i.toInt.toNat + 4)), .int x289, .int x282, .int x275, .ref q12]) (by rw [lw_xs (xs := xs) h329.1 hi0.1]) ?_
    clear h329 h328 h326
    refine W.eq (g2 := F0 m 323 ls [.int x296, .int x289, .int x282, .int x275, .ref q12]) (by rw [s297]) ?_
    refine lv_aload_n hx hb dL_law_323 rfl (lv_at hl 4 rfl) ?_
    refine lv_iload hx hb dL_law_324 (lv_at hl 0 rfl) ?_
    refine ty_iconst hx hb (5) dL_law_326 (by decide) (fun x330 h331 => ?_)
    refine ty_iadd hx hb dL_law_327 (fun x332 h333 => ?_)
    have h334 := lw_ix (k := 5) h331 h333 hi0 hiL hLN (by decide)
    refine va_sld hx hb hXs hbl hbA hS (i := x332) (ty_ix h334.2) dL_law_328 ?_
    refine W.eq (g2 := F0 m 329 ls [.int (xs (i.toInt.toNat + 5)), .int x296, .int x289, .int x282, .int x275, .ref q12]) (by rw [lw_xs (xs := xs) h334.1 hi0.1]) ?_
    clear h334 h333 h331
    refine W.eq (g2 := F0 m 329 ls [.int x303, .int x296, .int x289, .int x282, .int x275, .ref q12]) (by rw [s304]) ?_
    have hk335 : u305 114 0 = g 114 0 := hf308 114 0 (by decide) (by decide)
    refine cI (va_runV (C := RX9) (As := [.int x275, .int x282, .int x289, .int x296, .int x303]) (rest := []) ⟨hx, hb, hml, hown, hA⟩ (k_X9_feed l dC dI dA sz X Γ hU u305 q12 t_q12 x275 x282 x289 x296 x303   (by first | with_reducible assumption | omega)) ⟨callB_of 5 hA (al_A wd_5_62) rfl rfl rfl (hA _ wd_1_7) (hA _ wd_5_59) (by decide +kernel) ⟨Nat.le_of_ble_eq_true rfl, Nat.le_of_ble_eq_true rfl⟩, hA _ wd_5_60, hA _ wd_5_61⟩ ⟨bl, recv_X9 hE hG t_q12, fun U hU9 hW9 => ⟨rfl, by rw [hU9]; exact hG, hE.go hS hU9 hW9⟩⟩ rfl rfl hl.1 rfl (lv_room (Nat.le_of_ble_eq_true rfl)) dL_law_329 ⟨(Nat.le_trans (show kc + 0 ≤ 300000 by omega) (Nat.le_of_ble_eq_true rfl)), (Nat.le_trans (show ks + 0 ≤ 300000 by omega) (Nat.le_of_ble_eq_true rfl))⟩) hS (fun x338 u336 H locs w337 hG hS => ?_)
    obtain ⟨hf339, w337⟩ := w337
    have hj340 : IJ u336 := IJ_cg (hf339 126 0 (by decide) (by decide) (by decide)) (fun j => hf339 132 j (by decide) (by decide) (by decide)) (fun j => hf339 134 j (by decide) (by decide) (by decide)) (by (repeat (first | with_reducible assumption | (refine IJ_c (by decide) (by decide) (by decide) ?_) | (refine IJ_take (by omega) (by omega) ?_) | (refine IJ_how (by omega) ?_) | (refine IJ_by (by omega) ?_))))
    replace w337 := or2 w337.1 w337.2 (by omega)
    rcases w337 with w337 | w337
    · skip
      refine lv_pop hx hb dL_law_332 rfl ?_
      refine lv_goto (tgt := 1047) hx hb dL_law_333 (by decide) ?_
      obtain ⟨x341, h342⟩ : ∃ y : Int32, y = i + Int32.ofInt (6) := ⟨_, rfl⟩
      try have h343 : x341.toInt = i.toInt + (6) := ty_inc h342 (by decide) (by omega) (by omega)
      refine lv_iinc (v := x341) (lv' := [(4, .int x341), (3, .ref q25), (2, .ref q12), (1, .ref q1), (0, .ref b)]) hx hb dL_law_1047 hl (k := 0) rfl h342.symm (by decide) rfl (fun ls hl => ?_)
      refine lv_goto (tgt := 23) hx hb dL_law_1050 (by decide) ?_
      have hk344 : u336 4 0 = u305 4 0 := hf339 4 0 (by decide) (by decide) (by decide)
      have hk345 : u305 4 0 = g 4 0 := hf308 4 0 (by decide) (by decide)
      have hk346 : u336 6 0 = u305 6 0 := hf339 6 0 (by decide) (by decide) (by decide)
      exact ih x341 Γ u336 (kc) (ks) _ _ ls (by omega) (by omega) (by rw [hf339 1 0 (by decide) (by decide) (by decide), hf308 1 0 (by decide) (by decide), hf339 33 0 (by decide) (by decide) (by decide), hf308 33 0 (by decide) (by decide)]; exact hi1) (by rw [hf339 2 0 (by decide) (by decide) (by decide), hf308 2 0 (by decide) (by decide), hf339 34 0 (by decide) (by decide) (by decide), hf308 34 0 (by decide) (by decide)]; exact hi2) (by rw [hf339 3 0 (by decide) (by decide) (by decide), hf308 3 0 (by decide) (by decide), hf339 35 0 (by decide) (by decide) (by decide), hf308 35 0 (by decide) (by decide)]; exact hi3) (by rw [hf339 5 0 (by decide) (by decide) (by decide), hf308 5 0 (by decide) (by decide)]; exact hi4) (by omega) (by omega) (by rw [hf339 7 0 (by decide) (by decide) (by decide), hf308 7 0 (by decide) (by decide), hf339 36 0 (by decide) (by decide) (by decide), hf308 36 0 (by decide) (by decide)]; exact hi7) (by rw [hf339 101 0 (by decide) (by decide) (by decide), hf308 101 0 (by decide) (by decide), hf339 1 0 (by decide) (by decide) (by decide), hf308 1 0 (by decide) (by decide)]; exact hi8) (by rw [hf339 104 0 (by decide) (by decide) (by decide), hf308 104 0 (by decide) (by decide), hf339 2 0 (by decide) (by decide) (by decide), hf308 2 0 (by decide) (by decide)]; exact hi9) (by rw [hf339 112 0 (by decide) (by decide) (by decide), hf308 112 0 (by decide) (by decide), hf339 5 0 (by decide) (by decide) (by decide), hf308 5 0 (by decide) (by decide)]; exact hi10) (by rw [hf339 111 0 (by decide) (by decide) (by decide), hf308 111 0 (by decide) (by decide), hf339 4 0 (by decide) (by decide) (by decide), hf308 4 0 (by decide) (by decide)]; exact hi11) (by omega) (by rw [hf339 126 0 (by decide) (by decide) (by decide), hf308 126 0 (by decide) (by decide)]; exact hi13) (by rw [hf339 122 0 (by decide) (by decide) (by decide), hf308 122 0 (by decide) (by decide)]; exact hi14) (by (repeat (first | with_reducible assumption | (refine IJ_c (by decide) (by decide) (by decide) ?_) | (refine IJ_take (by omega) (by omega) ?_) | (refine IJ_how (by omega) ?_) | (refine IJ_by (by omega) ?_)))) hU t_q1 t_q12 t_q25 (by omega) (by omega) hG hS (lv_sub hl [0, 1, 2, 3, 4] rfl)
    · exfalso; omega
  · skip
    refine lv_pop hx hb dL_law_297 rfl ?_
    refine lv_aload_n hx hb dL_law_298 rfl (lv_at hl 2 rfl) ?_
    refine lv_aload_n hx hb dL_law_299 rfl (lv_at hl 4 rfl) ?_
    refine lv_iload hx hb dL_law_300 (lv_at hl 0 rfl) ?_
    refine ty_iconst hx hb (1) dL_law_302 (by decide) (fun x347 h348 => ?_)
    refine ty_iadd hx hb dL_law_303 (fun x349 h350 => ?_)
    have h351 := lw_ix (k := 1) h348 h350 hi0 hiL hLN (by decide)
    refine va_sld hx hb hXs hbl hbA hS (i := x349) (ty_ix h351.2) dL_law_304 ?_
    refine W.eq (g2 := F0 m 305 ls [.int (xs (i.toInt.toNat + 1)), .ref q12]) (by rw [lw_xs (xs := xs) h351.1 hi0.1]) ?_
    clear h351 h350 h348
    refine W.eq (g2 := F0 m 305 ls [.int x275, .ref q12]) (by rw [s276]) ?_
    refine lv_aload_n hx hb dL_law_305 rfl (lv_at hl 4 rfl) ?_
    refine lv_iload hx hb dL_law_306 (lv_at hl 0 rfl) ?_
    refine ty_iconst hx hb (2) dL_law_308 (by decide) (fun x352 h353 => ?_)
    refine ty_iadd hx hb dL_law_309 (fun x354 h355 => ?_)
    have h356 := lw_ix (k := 2) h353 h355 hi0 hiL hLN (by decide)
    refine va_sld hx hb hXs hbl hbA hS (i := x354) (ty_ix h356.2) dL_law_310 ?_
    refine W.eq (g2 := F0 m 311 ls [.int (xs (i.toInt.toNat + 2)), .int x275, .ref q12]) (by rw [lw_xs (xs := xs) h356.1 hi0.1]) ?_
    clear h356 h355 h353
    refine W.eq (g2 := F0 m 311 ls [.int x282, .int x275, .ref q12]) (by rw [s283]) ?_
    refine lv_aload_n hx hb dL_law_311 rfl (lv_at hl 4 rfl) ?_
    refine lv_iload hx hb dL_law_312 (lv_at hl 0 rfl) ?_
    refine ty_iconst hx hb (3) dL_law_314 (by decide) (fun x357 h358 => ?_)
    refine ty_iadd hx hb dL_law_315 (fun x359 h360 => ?_)
    have h361 := lw_ix (k := 3) h358 h360 hi0 hiL hLN (by decide)
    refine va_sld hx hb hXs hbl hbA hS (i := x359) (ty_ix h361.2) dL_law_316 ?_
    refine W.eq (g2 := F0 m 317 ls [.int (xs (i.toInt.toNat + 3)), .int x282, .int x275, .ref q12]) (by rw [lw_xs (xs := xs) h361.1 hi0.1]) ?_
    clear h361 h360 h358
    refine W.eq (g2 := F0 m 317 ls [.int x289, .int x282, .int x275, .ref q12]) (by rw [s290]) ?_
    refine lv_aload_n hx hb dL_law_317 rfl (lv_at hl 4 rfl) ?_
    refine lv_iload hx hb dL_law_318 (lv_at hl 0 rfl) ?_
    refine ty_iconst hx hb (4) dL_law_320 (by decide) (fun x362 h363 => ?_)
    refine ty_iadd hx hb dL_law_321 (fun x364 h365 => ?_)
    have h366 := lw_ix (k := 4) h363 h365 hi0 hiL hLN (by decide)
    refine va_sld hx hb hXs hbl hbA hS (i := x364) (ty_ix h366.2) dL_law_322 ?_
    refine W.eq (g2 := F0 m 323 ls [.int (xs (i.toInt.toNat + 4)), .int x289, .int x282, .int x275, .ref q12]) (by rw [lw_xs (xs := xs) h366.1 hi0.1]) ?_
    clear h366 h365 h363
    refine W.eq (g2 := F0 m 323 ls [.int x296, .int x289, .int x282, .int x275, .ref q12]) (by rw [s297]) ?_
    refine lv_aload_n hx hb dL_law_323 rfl (lv_at hl 4 rfl) ?_
    refine lv_iload hx hb dL_law_324 (lv_at hl 0 rfl) ?_
    refine ty_iconst hx hb (5) dL_law_326 (by decide) (fun x367 h368 => ?_)
    refine ty_iadd hx hb dL_law_327 (fun x369 h370 => ?_)
    have h371 := lw_ix (k := 5) h368 h370 hi0 hiL hLN (by decide)
    refine va_sld hx hb hXs hbl hbA hS (i := x369) (ty_ix h371.2) dL_law_328 ?_
    refine W.eq (g2 := F0 m 329 ls [.int (xs (i.toInt.toNat + 5)), .int x296, .int x289, .int x282, .int x275, .ref q12]) (by rw [lw_xs (xs := xs) h371.1 hi0.1]) ?_
    clear h371 h370 h368
    refine W.eq (g2 := F0 m 329 ls [.int x303, .int x296, .int x289, .int x282, .int x275, .ref q12]) (by rw [s304]) ?_
    have hk372 : u305 114 0 = g 114 0 := hf308 114 0 (by decide) (by decide)
    refine cI (va_runV (C := RX9) (As := [.int x275, .int x282, .int x289, .int x296, .int x303]) (rest := []) ⟨hx, hb, hml, hown, hA⟩ (k_X9_feed l dC dI dA sz X Γ hU u305 q12 t_q12 x275 x282 x289 x296 x303   (by first | with_reducible assumption | omega)) ⟨callB_of 5 hA (al_A wd_5_62) rfl rfl rfl (hA _ wd_1_7) (hA _ wd_5_59) (by decide +kernel) ⟨Nat.le_of_ble_eq_true rfl, Nat.le_of_ble_eq_true rfl⟩, hA _ wd_5_60, hA _ wd_5_61⟩ ⟨bl, recv_X9 hE hG t_q12, fun U hU9 hW9 => ⟨rfl, by rw [hU9]; exact hG, hE.go hS hU9 hW9⟩⟩ rfl rfl hl.1 rfl (lv_room (Nat.le_of_ble_eq_true rfl)) dL_law_329 ⟨(Nat.le_trans (show kc + 0 ≤ 300000 by omega) (Nat.le_of_ble_eq_true rfl)), (Nat.le_trans (show ks + 0 ≤ 300000 by omega) (Nat.le_of_ble_eq_true rfl))⟩) hS (fun x375 u373 H locs w374 hG hS => ?_)
    obtain ⟨hf376, w374⟩ := w374
    have hj377 : IJ u373 := IJ_cg (hf376 126 0 (by decide) (by decide) (by decide)) (fun j => hf376 132 j (by decide) (by decide) (by decide)) (fun j => hf376 134 j (by decide) (by decide) (by decide)) (by (repeat (first | with_reducible assumption | (refine IJ_c (by decide) (by decide) (by decide) ?_) | (refine IJ_take (by omega) (by omega) ?_) | (refine IJ_how (by omega) ?_) | (refine IJ_by (by omega) ?_))))
    replace w374 := or2 w374.1 w374.2 (by omega)
    rcases w374 with w374 | w374
    · exfalso; omega
    · skip
      refine lv_pop hx hb dL_law_332 rfl ?_
      refine lv_goto (tgt := 1047) hx hb dL_law_333 (by decide) ?_
      obtain ⟨x378, h379⟩ : ∃ y : Int32, y = i + Int32.ofInt (6) := ⟨_, rfl⟩
      try have h380 : x378.toInt = i.toInt + (6) := ty_inc h379 (by decide) (by omega) (by omega)
      refine lv_iinc (v := x378) (lv' := [(4, .int x378), (3, .ref q25), (2, .ref q12), (1, .ref q1), (0, .ref b)]) hx hb dL_law_1047 hl (k := 0) rfl h379.symm (by decide) rfl (fun ls hl => ?_)
      refine lv_goto (tgt := 23) hx hb dL_law_1050 (by decide) ?_
      have hk381 : u373 4 0 = u305 4 0 := hf376 4 0 (by decide) (by decide) (by decide)
      have hk382 : u305 4 0 = g 4 0 := hf308 4 0 (by decide) (by decide)
      have hk383 : u373 6 0 = u305 6 0 := hf376 6 0 (by decide) (by decide) (by decide)
      exact ih x378 Γ u373 (kc) (ks) _ _ ls (by omega) (by omega) (by rw [hf376 1 0 (by decide) (by decide) (by decide), hf308 1 0 (by decide) (by decide), hf376 33 0 (by decide) (by decide) (by decide), hf308 33 0 (by decide) (by decide)]; exact hi1) (by rw [hf376 2 0 (by decide) (by decide) (by decide), hf308 2 0 (by decide) (by decide), hf376 34 0 (by decide) (by decide) (by decide), hf308 34 0 (by decide) (by decide)]; exact hi2) (by rw [hf376 3 0 (by decide) (by decide) (by decide), hf308 3 0 (by decide) (by decide), hf376 35 0 (by decide) (by decide) (by decide), hf308 35 0 (by decide) (by decide)]; exact hi3) (by rw [hf376 5 0 (by decide) (by decide) (by decide), hf308 5 0 (by decide) (by decide)]; exact hi4) (by omega) (by omega) (by rw [hf376 7 0 (by decide) (by decide) (by decide), hf308 7 0 (by decide) (by decide), hf376 36 0 (by decide) (by decide) (by decide), hf308 36 0 (by decide) (by decide)]; exact hi7) (by rw [hf376 101 0 (by decide) (by decide) (by decide), hf308 101 0 (by decide) (by decide), hf376 1 0 (by decide) (by decide) (by decide), hf308 1 0 (by decide) (by decide)]; exact hi8) (by rw [hf376 104 0 (by decide) (by decide) (by decide), hf308 104 0 (by decide) (by decide), hf376 2 0 (by decide) (by decide) (by decide), hf308 2 0 (by decide) (by decide)]; exact hi9) (by rw [hf376 112 0 (by decide) (by decide) (by decide), hf308 112 0 (by decide) (by decide), hf376 5 0 (by decide) (by decide) (by decide), hf308 5 0 (by decide) (by decide)]; exact hi10) (by rw [hf376 111 0 (by decide) (by decide) (by decide), hf308 111 0 (by decide) (by decide), hf376 4 0 (by decide) (by decide) (by decide), hf308 4 0 (by decide) (by decide)]; exact hi11) (by omega) (by rw [hf376 126 0 (by decide) (by decide) (by decide), hf308 126 0 (by decide) (by decide)]; exact hi13) (by rw [hf376 122 0 (by decide) (by decide) (by decide), hf308 122 0 (by decide) (by decide)]; exact hi14) (by (repeat (first | with_reducible assumption | (refine IJ_c (by decide) (by decide) (by decide) ?_) | (refine IJ_take (by omega) (by omega) ?_) | (refine IJ_how (by omega) ?_) | (refine IJ_by (by omega) ?_)))) hU t_q1 t_q12 t_q25 (by omega) (by omega) hG hS (lv_sub hl [0, 1, 2, 3, 4] rfl)
set_option maxHeartbeats 40000000 in
set_option maxRecDepth 100000 in
/-- the law's case 4 -/
theorem law_c4 {p : Program} {e : Env} {s : State} {m : MethodId} {below : List Frame} {meth : Method} {c : Code} (l : Launch) (hl9 : l.stackTraces = false) {b L : Nat} {xs : Nat → Int32} (hLN : L ≤ 3072) (hx : p.tables.exec = Jvm.exec) (hb : c.code = code) (hr : meth.sig.returnType = ret) (hml : c.maxLocals = 7) (hown : s.vm.findClass R_law = some m.cls) (hA : ∀ w ∈ AL, w.before #[Value.ref b] s = true) (hXs : va_X b L xs s s.heap) (hbl : b < s.heap.size) (hlocks : meth.locks = false) {dC : Nat → ClassId} {dI : Nat → Nat → Nat} {dA : Nat → ClassId} {sz : Nat} (hE : en dC dI dA sz s) (hsz : sz = s.heap.size) (hbA : ¬ ty_A sz b) (X : va_W) (q1 q12 q25 : Nat) (n : Nat) (ih : LJ p l e s m below meth c b dC dI dA sz X q1 q12 q25 n) (i : Int32) (Γ : ty_G) (g : gh) (kc ks : Nat) (H : Heap) (locs : List Loc) (ls : Array Slot) (hm : (3073 - i.toInt : Int) < (n + 1 : Nat)) (hi0 : 0 ≤ i.toInt ∧ i.toInt ≤ 3072) (hi1 : g 1 0 = g 33 0 ∧ 0 ≤ g 1 0 ∧ g 1 0 ≤ 6) (hi2 : g 2 0 = g 34 0 ∧ 0 ≤ g 2 0 ∧ g 2 0 ≤ 10) (hi3 : g 3 0 = g 35 0 ∧ 0 ≤ g 3 0 ∧ g 3 0 ≤ 200) (hi4 : 0 ≤ g 5 0 ∧ g 5 0 ≤ 52) (hi5 : 0 ≤ g 4 0 ∧ g 4 0 ≤ i.toInt) (hi6 : 0 ≤ g 6 0 ∧ g 6 0 ≤ 300) (hi7 : 0 ≤ g 7 0 ∧ g 7 0 ≤ g 36 0 ∧ g 36 0 ≤ 9) (hi8 : g 101 0 = g 1 0) (hi9 : g 104 0 = g 2 0) (hi10 : g 112 0 = g 5 0) (hi11 : g 111 0 = g 4 0) (hi12 : g 114 0 = g 6 0) (hi13 : 0 ≤ g 126 0 ∧ g 126 0 ≤ 200) (hi14 : 0 ≤ g 122 0 ∧ g 122 0 ≤ 30) (hIJ : IJ g) (hU : Un Γ) (t_q1 : ty Γ q1 1) (t_q12 : ty Γ q12 30) (t_q25 : ty Γ q25 25) (hkc : kc ≤ 300 + i.toInt.toNat) (hks : ks ≤ 30000 + 28 * i.toInt.toNat) (hG : ty_ok (dC, dI) vwCl Γ (TP dA Γ g) sz X H) (hS : va_S (ty_A sz) s.heap H locs) (hl : lv_has ls 7 [(4, .int i), (3, .ref q25), (2, .ref q12), (1, .ref q1), (0, .ref b)]) (hiL : i.toInt + 6 ≤ (L : Int)) : W p l e room_1 s m #[Value.ref b] below meth c H locs kc ks (lw_Z below #[Value.ref b] s) (F0 m 336 ls []) := by
  refine lv_aload_n hx hb dL_law_336 rfl (lv_at hl 3 rfl) ?_
  refine lv_aload_n hx hb dL_law_337 rfl (lv_at hl 4 rfl) ?_
  refine lv_iload hx hb dL_law_338 (lv_at hl 0 rfl) ?_
  refine ty_iconst hx hb (1) dL_law_340 (by decide) (fun x384 h385 => ?_)
  refine ty_iadd hx hb dL_law_341 (fun x386 h387 => ?_)
  have h388 := lw_ix (k := 1) h385 h387 hi0 hiL hLN (by decide)
  refine va_sld hx hb hXs hbl hbA hS (i := x386) (ty_ix h388.2) dL_law_342 ?_
  refine W.eq (g2 := F0 m 343 ls [.int (xs (i.toInt.toNat + 1)), .ref q1]) (by rw [lw_xs (xs := xs) h388.1 hi0.1]) ?_
  clear h388 h387 h385
  refine lv_topi (fun x389 s390 => ?_)
  refine cI (va_runV (C := RX8) (As := [.int x389]) (rest := []) ⟨hx, hb, hml, hown, hA⟩ (k_X8_end l dC dI dA sz X Γ hU g q1 t_q1 x389   (by first | with_reducible assumption | omega)) ⟨callB_of 1 hA (al_A wd_2_84) rfl rfl rfl (hA _ wd_1_1) (hA _ wd_2_81) (by decide +kernel) ⟨Nat.le_of_ble_eq_true rfl, Nat.le_of_ble_eq_true rfl⟩, hA _ wd_2_82, hA _ wd_2_83⟩ ⟨bl, recv_X8 hE hG t_q1, fun U hU9 hW9 => ⟨rfl, by rw [hU9]; exact hG, hE.go hS hU9 hW9⟩⟩ rfl rfl hl.1 rfl (lv_room (Nat.le_of_ble_eq_true rfl)) dL_law_343 ⟨(Nat.le_trans (show kc + 0 ≤ 300000 by omega) (Nat.le_of_ble_eq_true rfl)), (Nat.le_trans (show ks + 0 ≤ 300000 by omega) (Nat.le_of_ble_eq_true rfl))⟩) hS (fun x393 u391 H locs w392 hG hS => ?_)
  obtain ⟨hf394, w392⟩ := w392
  have hj395 : IJ u391 := IJ_cg (hf394 126 0 (by decide)) (fun j => hf394 132 j (by decide)) (fun j => hf394 134 j (by decide)) (by (repeat (first | with_reducible assumption | (refine IJ_c (by decide) (by decide) (by decide) ?_) | (refine IJ_take (by omega) (by omega) ?_) | (refine IJ_how (by omega) ?_) | (refine IJ_by (by omega) ?_))))
  replace w392 := or2 w392.1 w392.2 (by exact Classical.em _)
  rcases w392 with w392 | w392
  · skip
    refine lv_pop hx hb dL_law_346 rfl ?_
    refine lv_aload_n hx hb dL_law_347 rfl (lv_at hl 2 rfl) ?_
    refine lv_aload_n hx hb dL_law_348 rfl (lv_at hl 4 rfl) ?_
    refine lv_iload hx hb dL_law_349 (lv_at hl 0 rfl) ?_
    refine ty_iconst hx hb (1) dL_law_351 (by decide) (fun x396 h397 => ?_)
    refine ty_iadd hx hb dL_law_352 (fun x398 h399 => ?_)
    have h400 := lw_ix (k := 1) h397 h399 hi0 hiL hLN (by decide)
    refine va_sld hx hb hXs hbl hbA hS (i := x398) (ty_ix h400.2) dL_law_353 ?_
    refine W.eq (g2 := F0 m 354 ls [.int (xs (i.toInt.toNat + 1)), .ref q12]) (by rw [lw_xs (xs := xs) h400.1 hi0.1]) ?_
    clear h400 h399 h397
    refine W.eq (g2 := F0 m 354 ls [.int x389, .ref q12]) (by rw [s390]) ?_
    have hk401 : u391 114 0 = g 114 0 := hf394 114 0 (by decide)
    refine cI (va_runV (C := RX9) (As := [.int x389]) (rest := []) ⟨hx, hb, hml, hown, hA⟩ (k_X9_end l dC dI dA sz X Γ hU u391 q12 t_q12 x389   (by first | with_reducible assumption | omega)) ⟨callB_of 1 hA (al_A wd_5_66) rfl rfl rfl (hA _ wd_1_7) (hA _ wd_5_63) (by decide +kernel) ⟨Nat.le_of_ble_eq_true rfl, Nat.le_of_ble_eq_true rfl⟩, hA _ wd_5_64, hA _ wd_5_65⟩ ⟨bl, recv_X9 hE hG t_q12, fun U hU9 hW9 => ⟨rfl, by rw [hU9]; exact hG, hE.go hS hU9 hW9⟩⟩ rfl rfl hl.1 rfl (lv_room (Nat.le_of_ble_eq_true rfl)) dL_law_354 ⟨(Nat.le_trans (show kc + 0 ≤ 300000 by omega) (Nat.le_of_ble_eq_true rfl)), (Nat.le_trans (show ks + 0 ≤ 300000 by omega) (Nat.le_of_ble_eq_true rfl))⟩) hS (fun x404 u402 H locs w403 hG hS => ?_)
    obtain ⟨hf405, w403⟩ := w403
    have hj406 : IJ u402 := IJ_cg (hf405 126 0 (by decide) (by decide)) (fun j => hf405 132 j (by decide) (by decide)) (fun j => hf405 134 j (by decide) (by decide)) (by (repeat (first | with_reducible assumption | (refine IJ_c (by decide) (by decide) (by decide) ?_) | (refine IJ_take (by omega) (by omega) ?_) | (refine IJ_how (by omega) ?_) | (refine IJ_by (by omega) ?_))))
    replace w403 := or2 w403.1 w403.2 (by exact Classical.em _)
    rcases w403 with w403 | w403
    · skip
      refine lv_pop hx hb dL_law_357 rfl ?_
      refine lv_goto (tgt := 1047) hx hb dL_law_358 (by decide) ?_
      obtain ⟨x407, h408⟩ : ∃ y : Int32, y = i + Int32.ofInt (6) := ⟨_, rfl⟩
      try have h409 : x407.toInt = i.toInt + (6) := ty_inc h408 (by decide) (by omega) (by omega)
      refine lv_iinc (v := x407) (lv' := [(4, .int x407), (3, .ref q25), (2, .ref q12), (1, .ref q1), (0, .ref b)]) hx hb dL_law_1047 hl (k := 0) rfl h408.symm (by decide) rfl (fun ls hl => ?_)
      refine lv_goto (tgt := 23) hx hb dL_law_1050 (by decide) ?_
      have hk410 : u402 4 0 = u391 4 0 := hf405 4 0 (by decide) (by decide)
      have hk411 : u391 4 0 = g 4 0 := hf394 4 0 (by decide)
      have hk412 : u402 6 0 = u391 6 0 := hf405 6 0 (by decide) (by decide)
      exact ih x407 Γ u402 (kc) (ks) _ _ ls (by omega) (by omega) (by rw [hf405 1 0 (by decide) (by decide), hf394 1 0 (by decide), hf405 33 0 (by decide) (by decide), hf394 33 0 (by decide)]; exact hi1) (by rw [hf405 2 0 (by decide) (by decide), hf394 2 0 (by decide), hf405 34 0 (by decide) (by decide), hf394 34 0 (by decide)]; exact hi2) (by rw [hf405 3 0 (by decide) (by decide), hf394 3 0 (by decide), hf405 35 0 (by decide) (by decide), hf394 35 0 (by decide)]; exact hi3) (by rw [hf405 5 0 (by decide) (by decide), hf394 5 0 (by decide)]; exact hi4) (by omega) (by omega) (by rw [hf405 7 0 (by decide) (by decide), hf394 7 0 (by decide), hf405 36 0 (by decide) (by decide), hf394 36 0 (by decide)]; exact hi7) (by rw [hf405 101 0 (by decide) (by decide), hf394 101 0 (by decide), hf405 1 0 (by decide) (by decide), hf394 1 0 (by decide)]; exact hi8) (by rw [hf405 104 0 (by decide) (by decide), hf394 104 0 (by decide), hf405 2 0 (by decide) (by decide), hf394 2 0 (by decide)]; exact hi9) (by rw [hf405 112 0 (by decide) (by decide), hf394 112 0 (by decide), hf405 5 0 (by decide) (by decide), hf394 5 0 (by decide)]; exact hi10) (by rw [hf405 111 0 (by decide) (by decide), hf394 111 0 (by decide), hf405 4 0 (by decide) (by decide), hf394 4 0 (by decide)]; exact hi11) (by omega) (by rw [hf405 126 0 (by decide) (by decide), hf394 126 0 (by decide)]; exact hi13) (by rw [hf405 122 0 (by decide) (by decide), hf394 122 0 (by decide)]; exact hi14) (by (repeat (first | with_reducible assumption | (refine IJ_c (by decide) (by decide) (by decide) ?_) | (refine IJ_take (by omega) (by omega) ?_) | (refine IJ_how (by omega) ?_) | (refine IJ_by (by omega) ?_)))) hU t_q1 t_q12 t_q25 (by omega) (by omega) hG hS (lv_sub hl [0, 1, 2, 3, 4] rfl)
    · exfalso; omega
  · skip
    refine lv_pop hx hb dL_law_346 rfl ?_
    refine lv_aload_n hx hb dL_law_347 rfl (lv_at hl 2 rfl) ?_
    refine lv_aload_n hx hb dL_law_348 rfl (lv_at hl 4 rfl) ?_
    refine lv_iload hx hb dL_law_349 (lv_at hl 0 rfl) ?_
    refine ty_iconst hx hb (1) dL_law_351 (by decide) (fun x413 h414 => ?_)
    refine ty_iadd hx hb dL_law_352 (fun x415 h416 => ?_)
    have h417 := lw_ix (k := 1) h414 h416 hi0 hiL hLN (by decide)
    refine va_sld hx hb hXs hbl hbA hS (i := x415) (ty_ix h417.2) dL_law_353 ?_
    refine W.eq (g2 := F0 m 354 ls [.int (xs (i.toInt.toNat + 1)), .ref q12]) (by rw [lw_xs (xs := xs) h417.1 hi0.1]) ?_
    clear h417 h416 h414
    refine W.eq (g2 := F0 m 354 ls [.int x389, .ref q12]) (by rw [s390]) ?_
    have hk418 : u391 114 0 = g 114 0 := hf394 114 0 (by decide)
    refine cI (va_runV (C := RX9) (As := [.int x389]) (rest := []) ⟨hx, hb, hml, hown, hA⟩ (k_X9_end l dC dI dA sz X Γ hU u391 q12 t_q12 x389   (by first | with_reducible assumption | omega)) ⟨callB_of 1 hA (al_A wd_5_66) rfl rfl rfl (hA _ wd_1_7) (hA _ wd_5_63) (by decide +kernel) ⟨Nat.le_of_ble_eq_true rfl, Nat.le_of_ble_eq_true rfl⟩, hA _ wd_5_64, hA _ wd_5_65⟩ ⟨bl, recv_X9 hE hG t_q12, fun U hU9 hW9 => ⟨rfl, by rw [hU9]; exact hG, hE.go hS hU9 hW9⟩⟩ rfl rfl hl.1 rfl (lv_room (Nat.le_of_ble_eq_true rfl)) dL_law_354 ⟨(Nat.le_trans (show kc + 0 ≤ 300000 by omega) (Nat.le_of_ble_eq_true rfl)), (Nat.le_trans (show ks + 0 ≤ 300000 by omega) (Nat.le_of_ble_eq_true rfl))⟩) hS (fun x421 u419 H locs w420 hG hS => ?_)
    obtain ⟨hf422, w420⟩ := w420
    have hj423 : IJ u419 := IJ_cg (hf422 126 0 (by decide) (by decide)) (fun j => hf422 132 j (by decide) (by decide)) (fun j => hf422 134 j (by decide) (by decide)) (by (repeat (first | with_reducible assumption | (refine IJ_c (by decide) (by decide) (by decide) ?_) | (refine IJ_take (by omega) (by omega) ?_) | (refine IJ_how (by omega) ?_) | (refine IJ_by (by omega) ?_))))
    replace w420 := or2 w420.1 w420.2 (by exact Classical.em _)
    rcases w420 with w420 | w420
    · exfalso; omega
    · skip
      refine lv_pop hx hb dL_law_357 rfl ?_
      refine lv_goto (tgt := 1047) hx hb dL_law_358 (by decide) ?_
      obtain ⟨x424, h425⟩ : ∃ y : Int32, y = i + Int32.ofInt (6) := ⟨_, rfl⟩
      try have h426 : x424.toInt = i.toInt + (6) := ty_inc h425 (by decide) (by omega) (by omega)
      refine lv_iinc (v := x424) (lv' := [(4, .int x424), (3, .ref q25), (2, .ref q12), (1, .ref q1), (0, .ref b)]) hx hb dL_law_1047 hl (k := 0) rfl h425.symm (by decide) rfl (fun ls hl => ?_)
      refine lv_goto (tgt := 23) hx hb dL_law_1050 (by decide) ?_
      have hk427 : u419 4 0 = u391 4 0 := hf422 4 0 (by decide) (by decide)
      have hk428 : u391 4 0 = g 4 0 := hf394 4 0 (by decide)
      have hk429 : u419 6 0 = u391 6 0 := hf422 6 0 (by decide) (by decide)
      exact ih x424 Γ u419 (kc) (ks) _ _ ls (by omega) (by omega) (by rw [hf422 1 0 (by decide) (by decide), hf394 1 0 (by decide), hf422 33 0 (by decide) (by decide), hf394 33 0 (by decide)]; exact hi1) (by rw [hf422 2 0 (by decide) (by decide), hf394 2 0 (by decide), hf422 34 0 (by decide) (by decide), hf394 34 0 (by decide)]; exact hi2) (by rw [hf422 3 0 (by decide) (by decide), hf394 3 0 (by decide), hf422 35 0 (by decide) (by decide), hf394 35 0 (by decide)]; exact hi3) (by rw [hf422 5 0 (by decide) (by decide), hf394 5 0 (by decide)]; exact hi4) (by omega) (by omega) (by rw [hf422 7 0 (by decide) (by decide), hf394 7 0 (by decide), hf422 36 0 (by decide) (by decide), hf394 36 0 (by decide)]; exact hi7) (by rw [hf422 101 0 (by decide) (by decide), hf394 101 0 (by decide), hf422 1 0 (by decide) (by decide), hf394 1 0 (by decide)]; exact hi8) (by rw [hf422 104 0 (by decide) (by decide), hf394 104 0 (by decide), hf422 2 0 (by decide) (by decide), hf394 2 0 (by decide)]; exact hi9) (by rw [hf422 112 0 (by decide) (by decide), hf394 112 0 (by decide), hf422 5 0 (by decide) (by decide), hf394 5 0 (by decide)]; exact hi10) (by rw [hf422 111 0 (by decide) (by decide), hf394 111 0 (by decide), hf422 4 0 (by decide) (by decide), hf394 4 0 (by decide)]; exact hi11) (by omega) (by rw [hf422 126 0 (by decide) (by decide), hf394 126 0 (by decide)]; exact hi13) (by rw [hf422 122 0 (by decide) (by decide), hf394 122 0 (by decide)]; exact hi14) (by (repeat (first | with_reducible assumption | (refine IJ_c (by decide) (by decide) (by decide) ?_) | (refine IJ_take (by omega) (by omega) ?_) | (refine IJ_how (by omega) ?_) | (refine IJ_by (by omega) ?_)))) hU t_q1 t_q12 t_q25 (by omega) (by omega) hG hS (lv_sub hl [0, 1, 2, 3, 4] rfl)
set_option maxHeartbeats 40000000 in
set_option maxRecDepth 100000 in
/-- the law's case 5 -/
theorem law_c5 {p : Program} {e : Env} {s : State} {m : MethodId} {below : List Frame} {meth : Method} {c : Code} (l : Launch) (hl9 : l.stackTraces = false) {b L : Nat} {xs : Nat → Int32} (hLN : L ≤ 3072) (hx : p.tables.exec = Jvm.exec) (hb : c.code = code) (hr : meth.sig.returnType = ret) (hml : c.maxLocals = 7) (hown : s.vm.findClass R_law = some m.cls) (hA : ∀ w ∈ AL, w.before #[Value.ref b] s = true) (hXs : va_X b L xs s s.heap) (hbl : b < s.heap.size) (hlocks : meth.locks = false) {dC : Nat → ClassId} {dI : Nat → Nat → Nat} {dA : Nat → ClassId} {sz : Nat} (hE : en dC dI dA sz s) (hsz : sz = s.heap.size) (hbA : ¬ ty_A sz b) (X : va_W) (q1 q12 q25 : Nat) (n : Nat) (ih : LJ p l e s m below meth c b dC dI dA sz X q1 q12 q25 n) (i : Int32) (Γ : ty_G) (g : gh) (kc ks : Nat) (H : Heap) (locs : List Loc) (ls : Array Slot) (hm : (3073 - i.toInt : Int) < (n + 1 : Nat)) (hi0 : 0 ≤ i.toInt ∧ i.toInt ≤ 3072) (hi1 : g 1 0 = g 33 0 ∧ 0 ≤ g 1 0 ∧ g 1 0 ≤ 6) (hi2 : g 2 0 = g 34 0 ∧ 0 ≤ g 2 0 ∧ g 2 0 ≤ 10) (hi3 : g 3 0 = g 35 0 ∧ 0 ≤ g 3 0 ∧ g 3 0 ≤ 200) (hi4 : 0 ≤ g 5 0 ∧ g 5 0 ≤ 52) (hi5 : 0 ≤ g 4 0 ∧ g 4 0 ≤ i.toInt) (hi6 : 0 ≤ g 6 0 ∧ g 6 0 ≤ 300) (hi7 : 0 ≤ g 7 0 ∧ g 7 0 ≤ g 36 0 ∧ g 36 0 ≤ 9) (hi8 : g 101 0 = g 1 0) (hi9 : g 104 0 = g 2 0) (hi10 : g 112 0 = g 5 0) (hi11 : g 111 0 = g 4 0) (hi12 : g 114 0 = g 6 0) (hi13 : 0 ≤ g 126 0 ∧ g 126 0 ≤ 200) (hi14 : 0 ≤ g 122 0 ∧ g 122 0 ≤ 30) (hIJ : IJ g) (hU : Un Γ) (t_q1 : ty Γ q1 1) (t_q12 : ty Γ q12 30) (t_q25 : ty Γ q25 25) (hkc : kc ≤ 300 + i.toInt.toNat) (hks : ks ≤ 30000 + 28 * i.toInt.toNat) (hG : ty_ok (dC, dI) vwCl Γ (TP dA Γ g) sz X H) (hS : va_S (ty_A sz) s.heap H locs) (hl : lv_has ls 7 [(4, .int i), (3, .ref q25), (2, .ref q12), (1, .ref q1), (0, .ref b)]) (hiL : i.toInt + 6 ≤ (L : Int)) : W p l e room_1 s m #[Value.ref b] below meth c H locs kc ks (lw_Z below #[Value.ref b] s) (F0 m 361 ls []) := by
  refine lv_aload_n hx hb dL_law_361 rfl (lv_at hl 3 rfl) ?_
  refine cI (va_runV (C := RX8) (As := []) (rest := []) ⟨hx, hb, hml, hown, hA⟩ (k_X8_rules l dC dI dA sz X Γ hU g q1 t_q1   (by first | with_reducible assumption | omega)) ⟨callB_of 0 hA (al_A wd_2_88) rfl rfl rfl (hA _ wd_1_1) (hA _ wd_2_85) (by decide +kernel) ⟨Nat.le_of_ble_eq_true rfl, Nat.le_of_ble_eq_true rfl⟩, hA _ wd_2_86, hA _ wd_2_87⟩ ⟨bl, recv_X8 hE hG t_q1, fun U hU9 hW9 => ⟨rfl, by rw [hU9]; exact hG, hE.go hS hU9 hW9⟩⟩ rfl rfl hl.1 rfl (lv_room (Nat.le_of_ble_eq_true rfl)) dL_law_362 ⟨(Nat.le_trans (show kc + 0 ≤ 300000 by omega) (Nat.le_of_ble_eq_true rfl)), (Nat.le_trans (show ks + 0 ≤ 300000 by omega) (Nat.le_of_ble_eq_true rfl))⟩) hS (fun x432 u430 H locs w431 hG hS => ?_)
  obtain ⟨hf433, w431⟩ := w431
  have hj434 : IJ u430 := IJ_cg (hf433 126 0 (by decide) (by decide) (by decide) (by decide) (by decide) (by decide) (by decide) (by decide) (by decide) (by decide) (by decide)) (fun j => hf433 132 j (by decide) (by decide) (by decide) (by decide) (by decide) (by decide) (by decide) (by decide) (by decide) (by decide) (by decide)) (fun j => hf433 134 j (by decide) (by decide) (by decide) (by decide) (by decide) (by decide) (by decide) (by decide) (by decide) (by decide) (by decide)) (by (repeat (first | with_reducible assumption | (refine IJ_c (by decide) (by decide) (by decide) ?_) | (refine IJ_take (by omega) (by omega) ?_) | (refine IJ_how (by omega) ?_) | (refine IJ_by (by omega) ?_))))
  refine lv_pop hx hb dL_law_365 rfl ?_
  refine lv_aload_n hx hb dL_law_366 rfl (lv_at hl 2 rfl) ?_
  have hk435 : u430 114 0 = g 114 0 := hf433 114 0 (by decide) (by decide) (by decide) (by decide) (by decide) (by decide) (by decide) (by decide) (by decide) (by decide) (by decide)
  have hk436 : u430 122 0 = g 122 0 := hf433 122 0 (by decide) (by decide) (by decide) (by decide) (by decide) (by decide) (by decide) (by decide) (by decide) (by decide) (by decide)
  refine cI (va_runV (C := RX9) (As := []) (rest := []) ⟨hx, hb, hml, hown, hA⟩ (k_X9_rules l dC dI dA sz X Γ hU u430 q12 t_q12   (by first | with_reducible assumption | omega)) ⟨callB_of 0 hA (al_A wd_5_70) rfl rfl rfl (hA _ wd_1_7) (hA _ wd_5_67) (by decide +kernel) ⟨Nat.le_of_ble_eq_true rfl, Nat.le_of_ble_eq_true rfl⟩, hA _ wd_5_68, hA _ wd_5_69⟩ ⟨bl, recv_X9 hE hG t_q12, fun U hU9 hW9 => ⟨rfl, by rw [hU9]; exact hG, hE.go hS hU9 hW9⟩⟩ rfl rfl hl.1 rfl (lv_room (Nat.le_of_ble_eq_true rfl)) dL_law_367 ⟨(Nat.le_trans (show kc + 0 ≤ 300000 by omega) (Nat.le_of_ble_eq_true rfl)), (Nat.le_trans (show ks + 0 ≤ 300000 by omega) (Nat.le_of_ble_eq_true rfl))⟩) hS (fun x439 u437 H locs w438 hG hS => ?_)
  obtain ⟨hf440, w438⟩ := w438
  have hj441 : IJ u437 := IJ_cg (hf440 126 0 (by decide) (by decide) (by decide) (by decide) (by decide) (by decide) (by decide) (by decide) (by decide) (by decide) (by decide) (by decide) (by decide)) (fun j => hf440 132 j (by decide) (by decide) (by decide) (by decide) (by decide) (by decide) (by decide) (by decide) (by decide) (by decide) (by decide) (by decide) (by decide)) (fun j => hf440 134 j (by decide) (by decide) (by decide) (by decide) (by decide) (by decide) (by decide) (by decide) (by decide) (by decide) (by decide) (by decide) (by decide)) (by (repeat (first | with_reducible assumption | (refine IJ_c (by decide) (by decide) (by decide) ?_) | (refine IJ_take (by omega) (by omega) ?_) | (refine IJ_how (by omega) ?_) | (refine IJ_by (by omega) ?_))))
  refine lv_pop hx hb dL_law_370 rfl ?_
  refine lv_goto (tgt := 1047) hx hb dL_law_371 (by decide) ?_
  obtain ⟨x442, h443⟩ : ∃ y : Int32, y = i + Int32.ofInt (6) := ⟨_, rfl⟩
  try have h444 : x442.toInt = i.toInt + (6) := ty_inc h443 (by decide) (by omega) (by omega)
  refine lv_iinc (v := x442) (lv' := [(4, .int x442), (3, .ref q25), (2, .ref q12), (1, .ref q1), (0, .ref b)]) hx hb dL_law_1047 hl (k := 0) rfl h443.symm (by decide) rfl (fun ls hl => ?_)
  refine lv_goto (tgt := 23) hx hb dL_law_1050 (by decide) ?_
  have hk445 : u437 4 0 = u430 4 0 := hf440 4 0 (by decide) (by decide) (by decide) (by decide) (by decide) (by decide) (by decide) (by decide) (by decide) (by decide) (by decide) (by decide) (by decide)
  have hk446 : u430 4 0 = g 4 0 := hf433 4 0 (by decide) (by decide) (by decide) (by decide) (by decide) (by decide) (by decide) (by decide) (by decide) (by decide) (by decide)
  have hk447 : u437 6 0 = u430 6 0 := hf440 6 0 (by decide) (by decide) (by decide) (by decide) (by decide) (by decide) (by decide) (by decide) (by decide) (by decide) (by decide) (by decide) (by decide)
  exact ih x442 Γ u437 (kc) (ks) _ _ ls (by omega) (by omega) (by rw [hf440 1 0 (by decide) (by decide) (by decide) (by decide) (by decide) (by decide) (by decide) (by decide) (by decide) (by decide) (by decide) (by decide) (by decide), hf433 1 0 (by decide) (by decide) (by decide) (by decide) (by decide) (by decide) (by decide) (by decide) (by decide) (by decide) (by decide), hf440 33 0 (by decide) (by decide) (by decide) (by decide) (by decide) (by decide) (by decide) (by decide) (by decide) (by decide) (by decide) (by decide) (by decide), hf433 33 0 (by decide) (by decide) (by decide) (by decide) (by decide) (by decide) (by decide) (by decide) (by decide) (by decide) (by decide)]; exact hi1) (by rw [hf440 2 0 (by decide) (by decide) (by decide) (by decide) (by decide) (by decide) (by decide) (by decide) (by decide) (by decide) (by decide) (by decide) (by decide), hf433 2 0 (by decide) (by decide) (by decide) (by decide) (by decide) (by decide) (by decide) (by decide) (by decide) (by decide) (by decide), hf440 34 0 (by decide) (by decide) (by decide) (by decide) (by decide) (by decide) (by decide) (by decide) (by decide) (by decide) (by decide) (by decide) (by decide), hf433 34 0 (by decide) (by decide) (by decide) (by decide) (by decide) (by decide) (by decide) (by decide) (by decide) (by decide) (by decide)]; exact hi2) (by rw [hf440 3 0 (by decide) (by decide) (by decide) (by decide) (by decide) (by decide) (by decide) (by decide) (by decide) (by decide) (by decide) (by decide) (by decide), hf433 3 0 (by decide) (by decide) (by decide) (by decide) (by decide) (by decide) (by decide) (by decide) (by decide) (by decide) (by decide), hf440 35 0 (by decide) (by decide) (by decide) (by decide) (by decide) (by decide) (by decide) (by decide) (by decide) (by decide) (by decide) (by decide) (by decide), hf433 35 0 (by decide) (by decide) (by decide) (by decide) (by decide) (by decide) (by decide) (by decide) (by decide) (by decide) (by decide)]; exact hi3) (by rw [hf440 5 0 (by decide) (by decide) (by decide) (by decide) (by decide) (by decide) (by decide) (by decide) (by decide) (by decide) (by decide) (by decide) (by decide), hf433 5 0 (by decide) (by decide) (by decide) (by decide) (by decide) (by decide) (by decide) (by decide) (by decide) (by decide) (by decide)]; exact hi4) (by omega) (by omega) (by rw [hf440 7 0 (by decide) (by decide) (by decide) (by decide) (by decide) (by decide) (by decide) (by decide) (by decide) (by decide) (by decide) (by decide) (by decide), hf433 7 0 (by decide) (by decide) (by decide) (by decide) (by decide) (by decide) (by decide) (by decide) (by decide) (by decide) (by decide), hf440 36 0 (by decide) (by decide) (by decide) (by decide) (by decide) (by decide) (by decide) (by decide) (by decide) (by decide) (by decide) (by decide) (by decide), hf433 36 0 (by decide) (by decide) (by decide) (by decide) (by decide) (by decide) (by decide) (by decide) (by decide) (by decide) (by decide)]; exact hi7) (by rw [hf440 101 0 (by decide) (by decide) (by decide) (by decide) (by decide) (by decide) (by decide) (by decide) (by decide) (by decide) (by decide) (by decide) (by decide), hf433 101 0 (by decide) (by decide) (by decide) (by decide) (by decide) (by decide) (by decide) (by decide) (by decide) (by decide) (by decide), hf440 1 0 (by decide) (by decide) (by decide) (by decide) (by decide) (by decide) (by decide) (by decide) (by decide) (by decide) (by decide) (by decide) (by decide), hf433 1 0 (by decide) (by decide) (by decide) (by decide) (by decide) (by decide) (by decide) (by decide) (by decide) (by decide) (by decide)]; exact hi8) (by rw [hf440 104 0 (by decide) (by decide) (by decide) (by decide) (by decide) (by decide) (by decide) (by decide) (by decide) (by decide) (by decide) (by decide) (by decide), hf433 104 0 (by decide) (by decide) (by decide) (by decide) (by decide) (by decide) (by decide) (by decide) (by decide) (by decide) (by decide), hf440 2 0 (by decide) (by decide) (by decide) (by decide) (by decide) (by decide) (by decide) (by decide) (by decide) (by decide) (by decide) (by decide) (by decide), hf433 2 0 (by decide) (by decide) (by decide) (by decide) (by decide) (by decide) (by decide) (by decide) (by decide) (by decide) (by decide)]; exact hi9) (by rw [hf440 112 0 (by decide) (by decide) (by decide) (by decide) (by decide) (by decide) (by decide) (by decide) (by decide) (by decide) (by decide) (by decide) (by decide), hf433 112 0 (by decide) (by decide) (by decide) (by decide) (by decide) (by decide) (by decide) (by decide) (by decide) (by decide) (by decide), hf440 5 0 (by decide) (by decide) (by decide) (by decide) (by decide) (by decide) (by decide) (by decide) (by decide) (by decide) (by decide) (by decide) (by decide), hf433 5 0 (by decide) (by decide) (by decide) (by decide) (by decide) (by decide) (by decide) (by decide) (by decide) (by decide) (by decide)]; exact hi10) (by rw [hf440 111 0 (by decide) (by decide) (by decide) (by decide) (by decide) (by decide) (by decide) (by decide) (by decide) (by decide) (by decide) (by decide) (by decide), hf433 111 0 (by decide) (by decide) (by decide) (by decide) (by decide) (by decide) (by decide) (by decide) (by decide) (by decide) (by decide), hf440 4 0 (by decide) (by decide) (by decide) (by decide) (by decide) (by decide) (by decide) (by decide) (by decide) (by decide) (by decide) (by decide) (by decide), hf433 4 0 (by decide) (by decide) (by decide) (by decide) (by decide) (by decide) (by decide) (by decide) (by decide) (by decide) (by decide)]; exact hi11) (by omega) (by rw [hf440 126 0 (by decide) (by decide) (by decide) (by decide) (by decide) (by decide) (by decide) (by decide) (by decide) (by decide) (by decide) (by decide) (by decide), hf433 126 0 (by decide) (by decide) (by decide) (by decide) (by decide) (by decide) (by decide) (by decide) (by decide) (by decide) (by decide)]; exact hi13) (by omega) (by (repeat (first | with_reducible assumption | (refine IJ_c (by decide) (by decide) (by decide) ?_) | (refine IJ_take (by omega) (by omega) ?_) | (refine IJ_how (by omega) ?_) | (refine IJ_by (by omega) ?_)))) hU t_q1 t_q12 t_q25 (by omega) (by omega) hG hS (lv_sub hl [0, 1, 2, 3, 4] rfl)
set_option maxHeartbeats 40000000 in
set_option maxRecDepth 100000 in
/-- the law's case 6 -/
theorem law_c6 {p : Program} {e : Env} {s : State} {m : MethodId} {below : List Frame} {meth : Method} {c : Code} (l : Launch) (hl9 : l.stackTraces = false) {b L : Nat} {xs : Nat → Int32} (hLN : L ≤ 3072) (hx : p.tables.exec = Jvm.exec) (hb : c.code = code) (hr : meth.sig.returnType = ret) (hml : c.maxLocals = 7) (hown : s.vm.findClass R_law = some m.cls) (hA : ∀ w ∈ AL, w.before #[Value.ref b] s = true) (hXs : va_X b L xs s s.heap) (hbl : b < s.heap.size) (hlocks : meth.locks = false) {dC : Nat → ClassId} {dI : Nat → Nat → Nat} {dA : Nat → ClassId} {sz : Nat} (hE : en dC dI dA sz s) (hsz : sz = s.heap.size) (hbA : ¬ ty_A sz b) (X : va_W) (q1 q12 q25 : Nat) (n : Nat) (ih : LJ p l e s m below meth c b dC dI dA sz X q1 q12 q25 n) (i : Int32) (Γ : ty_G) (g : gh) (kc ks : Nat) (H : Heap) (locs : List Loc) (ls : Array Slot) (hm : (3073 - i.toInt : Int) < (n + 1 : Nat)) (hi0 : 0 ≤ i.toInt ∧ i.toInt ≤ 3072) (hi1 : g 1 0 = g 33 0 ∧ 0 ≤ g 1 0 ∧ g 1 0 ≤ 6) (hi2 : g 2 0 = g 34 0 ∧ 0 ≤ g 2 0 ∧ g 2 0 ≤ 10) (hi3 : g 3 0 = g 35 0 ∧ 0 ≤ g 3 0 ∧ g 3 0 ≤ 200) (hi4 : 0 ≤ g 5 0 ∧ g 5 0 ≤ 52) (hi5 : 0 ≤ g 4 0 ∧ g 4 0 ≤ i.toInt) (hi6 : 0 ≤ g 6 0 ∧ g 6 0 ≤ 300) (hi7 : 0 ≤ g 7 0 ∧ g 7 0 ≤ g 36 0 ∧ g 36 0 ≤ 9) (hi8 : g 101 0 = g 1 0) (hi9 : g 104 0 = g 2 0) (hi10 : g 112 0 = g 5 0) (hi11 : g 111 0 = g 4 0) (hi12 : g 114 0 = g 6 0) (hi13 : 0 ≤ g 126 0 ∧ g 126 0 ≤ 200) (hi14 : 0 ≤ g 122 0 ∧ g 122 0 ≤ 30) (hIJ : IJ g) (hU : Un Γ) (t_q1 : ty Γ q1 1) (t_q12 : ty Γ q12 30) (t_q25 : ty Γ q25 25) (hkc : kc ≤ 300 + i.toInt.toNat) (hks : ks ≤ 30000 + 28 * i.toInt.toNat) (hG : ty_ok (dC, dI) vwCl Γ (TP dA Γ g) sz X H) (hS : va_S (ty_A sz) s.heap H locs) (hl : lv_has ls 7 [(4, .int i), (3, .ref q25), (2, .ref q12), (1, .ref q1), (0, .ref b)]) (hiL : i.toInt + 6 ≤ (L : Int)) : W p l e room_1 s m #[Value.ref b] below meth c H locs kc ks (lw_Z below #[Value.ref b] s) (F0 m 374 ls []) := by
  refine lv_aload_n hx hb dL_law_374 rfl (lv_at hl 3 rfl) ?_
  refine cI (va_runV (C := RX8) (As := []) (rest := []) ⟨hx, hb, hml, hown, hA⟩ (k_X8_place l dC dI dA sz X Γ hU g q1 t_q1   ) ⟨callB_of 0 hA (al_A wd_2_225) rfl rfl rfl (hA _ wd_1_1) (hA _ wd_2_222) (by decide +kernel) ⟨Nat.le_of_ble_eq_true rfl, Nat.le_of_ble_eq_true rfl⟩, hA _ wd_2_223, hA _ wd_2_224⟩ ⟨bl, recv_X8 hE hG t_q1, fun U hU9 hW9 => ⟨rfl, by rw [hU9]; exact hG, hE.go hS hU9 hW9⟩⟩ rfl rfl hl.1 rfl (lv_room (Nat.le_of_ble_eq_true rfl)) dL_law_375 ⟨(Nat.le_trans (show kc + 0 ≤ 300000 by omega) (Nat.le_of_ble_eq_true rfl)), (Nat.le_trans (show ks + 0 ≤ 300000 by omega) (Nat.le_of_ble_eq_true rfl))⟩) hS (fun x450 u448 H locs w449 hG hS => ?_)
  obtain ⟨eu451, w449⟩ := w449
  rw [eu451] at hG
  refine lv_pop hx hb dL_law_378 rfl ?_
  refine lv_aload_n hx hb dL_law_379 rfl (lv_at hl 2 rfl) ?_
  refine cI (va_runV (C := RX9) (As := []) (rest := []) ⟨hx, hb, hml, hown, hA⟩ (k_X9_place l dC dI dA sz X Γ hU g q12 t_q12   ) ⟨callB_of 0 hA (al_A wd_5_112) rfl rfl rfl (hA _ wd_1_7) (hA _ wd_5_109) (by decide +kernel) ⟨Nat.le_of_ble_eq_true rfl, Nat.le_of_ble_eq_true rfl⟩, hA _ wd_5_110, hA _ wd_5_111⟩ ⟨bl, recv_X9 hE hG t_q12, fun U hU9 hW9 => ⟨rfl, by rw [hU9]; exact hG, hE.go hS hU9 hW9⟩⟩ rfl rfl hl.1 rfl (lv_room (Nat.le_of_ble_eq_true rfl)) dL_law_380 ⟨(Nat.le_trans (show kc + 0 ≤ 300000 by omega) (Nat.le_of_ble_eq_true rfl)), (Nat.le_trans (show ks + 0 ≤ 300000 by omega) (Nat.le_of_ble_eq_true rfl))⟩) hS (fun x454 u452 H locs w453 hG hS => ?_)
  obtain ⟨hf455, w453⟩ := w453
  have hj456 : IJ u452 := IJ_cg (hf455 126 0 (by decide)) (fun j => hf455 132 j (by decide)) (fun j => hf455 134 j (by decide)) (by (repeat (first | with_reducible assumption | (refine IJ_c (by decide) (by decide) (by decide) ?_) | (refine IJ_take (by omega) (by omega) ?_) | (refine IJ_how (by omega) ?_) | (refine IJ_by (by omega) ?_))))
  refine lv_pop hx hb dL_law_383 rfl ?_
  refine lv_goto (tgt := 1047) hx hb dL_law_384 (by decide) ?_
  obtain ⟨x457, h458⟩ : ∃ y : Int32, y = i + Int32.ofInt (6) := ⟨_, rfl⟩
  try have h459 : x457.toInt = i.toInt + (6) := ty_inc h458 (by decide) (by omega) (by omega)
  refine lv_iinc (v := x457) (lv' := [(4, .int x457), (3, .ref q25), (2, .ref q12), (1, .ref q1), (0, .ref b)]) hx hb dL_law_1047 hl (k := 0) rfl h458.symm (by decide) rfl (fun ls hl => ?_)
  refine lv_goto (tgt := 23) hx hb dL_law_1050 (by decide) ?_
  have hk460 : u452 4 0 = g 4 0 := hf455 4 0 (by decide)
  exact ih x457 Γ u452 (kc) (ks) _ _ ls (by omega) (by omega) (by rw [hf455 1 0 (by decide), hf455 33 0 (by decide)]; exact hi1) (by rw [hf455 2 0 (by decide), hf455 34 0 (by decide)]; exact hi2) (by rw [hf455 3 0 (by decide), hf455 35 0 (by decide)]; exact hi3) (by rw [hf455 5 0 (by decide)]; exact hi4) (by omega) (by rw [hf455 6 0 (by decide)]; exact hi6) (by rw [hf455 7 0 (by decide), hf455 36 0 (by decide)]; exact hi7) (by rw [hf455 101 0 (by decide), hf455 1 0 (by decide)]; exact hi8) (by rw [hf455 104 0 (by decide), hf455 2 0 (by decide)]; exact hi9) (by rw [hf455 112 0 (by decide), hf455 5 0 (by decide)]; exact hi10) (by rw [hf455 111 0 (by decide), hf455 4 0 (by decide)]; exact hi11) (by rw [hf455 114 0 (by decide), hf455 6 0 (by decide)]; exact hi12) (by rw [hf455 126 0 (by decide)]; exact hi13) (by rw [hf455 122 0 (by decide)]; exact hi14) (by (repeat (first | with_reducible assumption | (refine IJ_c (by decide) (by decide) (by decide) ?_) | (refine IJ_take (by omega) (by omega) ?_) | (refine IJ_how (by omega) ?_) | (refine IJ_by (by omega) ?_)))) hU t_q1 t_q12 t_q25 (by omega) (by omega) hG hS (lv_sub hl [0, 1, 2, 3, 4] rfl)
set_option maxHeartbeats 40000000 in
set_option maxRecDepth 100000 in
/-- the law's case 7 -/
theorem law_c7 {p : Program} {e : Env} {s : State} {m : MethodId} {below : List Frame} {meth : Method} {c : Code} (l : Launch) (hl9 : l.stackTraces = false) {b L : Nat} {xs : Nat → Int32} (hLN : L ≤ 3072) (hx : p.tables.exec = Jvm.exec) (hb : c.code = code) (hr : meth.sig.returnType = ret) (hml : c.maxLocals = 7) (hown : s.vm.findClass R_law = some m.cls) (hA : ∀ w ∈ AL, w.before #[Value.ref b] s = true) (hXs : va_X b L xs s s.heap) (hbl : b < s.heap.size) (hlocks : meth.locks = false) {dC : Nat → ClassId} {dI : Nat → Nat → Nat} {dA : Nat → ClassId} {sz : Nat} (hE : en dC dI dA sz s) (hsz : sz = s.heap.size) (hbA : ¬ ty_A sz b) (X : va_W) (q1 q12 q25 : Nat) (n : Nat) (ih : LJ p l e s m below meth c b dC dI dA sz X q1 q12 q25 n) (i : Int32) (Γ : ty_G) (g : gh) (kc ks : Nat) (H : Heap) (locs : List Loc) (ls : Array Slot) (hm : (3073 - i.toInt : Int) < (n + 1 : Nat)) (hi0 : 0 ≤ i.toInt ∧ i.toInt ≤ 3072) (hi1 : g 1 0 = g 33 0 ∧ 0 ≤ g 1 0 ∧ g 1 0 ≤ 6) (hi2 : g 2 0 = g 34 0 ∧ 0 ≤ g 2 0 ∧ g 2 0 ≤ 10) (hi3 : g 3 0 = g 35 0 ∧ 0 ≤ g 3 0 ∧ g 3 0 ≤ 200) (hi4 : 0 ≤ g 5 0 ∧ g 5 0 ≤ 52) (hi5 : 0 ≤ g 4 0 ∧ g 4 0 ≤ i.toInt) (hi6 : 0 ≤ g 6 0 ∧ g 6 0 ≤ 300) (hi7 : 0 ≤ g 7 0 ∧ g 7 0 ≤ g 36 0 ∧ g 36 0 ≤ 9) (hi8 : g 101 0 = g 1 0) (hi9 : g 104 0 = g 2 0) (hi10 : g 112 0 = g 5 0) (hi11 : g 111 0 = g 4 0) (hi12 : g 114 0 = g 6 0) (hi13 : 0 ≤ g 126 0 ∧ g 126 0 ≤ 200) (hi14 : 0 ≤ g 122 0 ∧ g 122 0 ≤ 30) (hIJ : IJ g) (hU : Un Γ) (t_q1 : ty Γ q1 1) (t_q12 : ty Γ q12 30) (t_q25 : ty Γ q25 25) (hkc : kc ≤ 300 + i.toInt.toNat) (hks : ks ≤ 30000 + 28 * i.toInt.toNat) (hG : ty_ok (dC, dI) vwCl Γ (TP dA Γ g) sz X H) (hS : va_S (ty_A sz) s.heap H locs) (hl : lv_has ls 7 [(4, .int i), (3, .ref q25), (2, .ref q12), (1, .ref q1), (0, .ref b)]) (hiL : i.toInt + 6 ≤ (L : Int)) : W p l e room_1 s m #[Value.ref b] below meth c H locs kc ks (lw_Z below #[Value.ref b] s) (F0 m 387 ls []) := by
  refine lv_aload_n hx hb dL_law_387 rfl (lv_at hl 3 rfl) ?_
  refine lv_aload_n hx hb dL_law_388 rfl (lv_at hl 4 rfl) ?_
  refine lv_iload hx hb dL_law_389 (lv_at hl 0 rfl) ?_
  refine ty_iconst hx hb (1) dL_law_391 (by decide) (fun x461 h462 => ?_)
  refine ty_iadd hx hb dL_law_392 (fun x463 h464 => ?_)
  have h465 := lw_ix (k := 1) h462 h464 hi0 hiL hLN (by decide)
  refine va_sld hx hb hXs hbl hbA hS (i := x463) (ty_ix h465.2) dL_law_393 ?_
  refine W.eq (g2 := F0 m 394 ls [.int (xs (i.toInt.toNat + 1)), .ref q1]) (by rw [lw_xs (xs := xs) h465.1 hi0.1]) ?_
  clear h465 h464 h462
  refine lv_topi (fun x466 s467 => ?_)
  refine lv_aload_n hx hb dL_law_394 rfl (lv_at hl 4 rfl) ?_
  refine lv_iload hx hb dL_law_395 (lv_at hl 0 rfl) ?_
  refine ty_iconst hx hb (2) dL_law_397 (by decide) (fun x468 h469 => ?_)
  refine ty_iadd hx hb dL_law_398 (fun x470 h471 => ?_)
  have h472 := lw_ix (k := 2) h469 h471 hi0 hiL hLN (by decide)
  refine va_sld hx hb hXs hbl hbA hS (i := x470) (ty_ix h472.2) dL_law_399 ?_
  refine W.eq (g2 := F0 m 400 ls [.int (xs (i.toInt.toNat + 2)), .int x466, .ref q1]) (by rw [lw_xs (xs := xs) h472.1 hi0.1]) ?_
  clear h472 h471 h469
  refine lv_topi (fun x473 s474 => ?_)
  refine cI (va_runV (C := RX8) (As := [.int x466, .int x473]) (rest := []) ⟨hx, hb, hml, hown, hA⟩ (k_X8_worth l dC dI dA sz X Γ hU g q1 t_q1 x466 x473   (by first | with_reducible assumption | omega)) ⟨callB_of 2 hA (al_A wd_2_229) rfl rfl rfl (hA _ wd_1_1) (hA _ wd_2_226) (by decide +kernel) ⟨Nat.le_of_ble_eq_true rfl, Nat.le_of_ble_eq_true rfl⟩, hA _ wd_2_227, hA _ wd_2_228⟩ ⟨bl, recv_X8 hE hG t_q1, fun U hU9 hW9 => ⟨rfl, by rw [hU9]; exact hG, hE.go hS hU9 hW9⟩⟩ rfl rfl hl.1 rfl (lv_room (Nat.le_of_ble_eq_true rfl)) dL_law_400 ⟨(Nat.le_trans (show kc + 0 ≤ 300000 by omega) (Nat.le_of_ble_eq_true rfl)), (Nat.le_trans (show ks + 0 ≤ 300000 by omega) (Nat.le_of_ble_eq_true rfl))⟩) hS (fun x477 u475 H locs w476 hG hS => ?_)
  have eu478 := w476
  rw [eu478] at hG
  refine lv_pop hx hb dL_law_403 rfl ?_
  refine lv_aload_n hx hb dL_law_404 rfl (lv_at hl 2 rfl) ?_
  refine lv_aload_n hx hb dL_law_405 rfl (lv_at hl 4 rfl) ?_
  refine lv_iload hx hb dL_law_406 (lv_at hl 0 rfl) ?_
  refine ty_iconst hx hb (1) dL_law_408 (by decide) (fun x479 h480 => ?_)
  refine ty_iadd hx hb dL_law_409 (fun x481 h482 => ?_)
  have h483 := lw_ix (k := 1) h480 h482 hi0 hiL hLN (by decide)
  refine va_sld hx hb hXs hbl hbA hS (i := x481) (ty_ix h483.2) dL_law_410 ?_
  refine W.eq (g2 := F0 m 411 ls [.int (xs (i.toInt.toNat + 1)), .ref q12]) (by rw [lw_xs (xs := xs) h483.1 hi0.1]) ?_
  clear h483 h482 h480
  refine W.eq (g2 := F0 m 411 ls [.int x466, .ref q12]) (by rw [s467]) ?_
  refine lv_aload_n hx hb dL_law_411 rfl (lv_at hl 4 rfl) ?_
  refine lv_iload hx hb dL_law_412 (lv_at hl 0 rfl) ?_
  refine ty_iconst hx hb (2) dL_law_414 (by decide) (fun x484 h485 => ?_)
  refine ty_iadd hx hb dL_law_415 (fun x486 h487 => ?_)
  have h488 := lw_ix (k := 2) h485 h487 hi0 hiL hLN (by decide)
  refine va_sld hx hb hXs hbl hbA hS (i := x486) (ty_ix h488.2) dL_law_416 ?_
  refine W.eq (g2 := F0 m 417 ls [.int (xs (i.toInt.toNat + 2)), .int x466, .ref q12]) (by rw [lw_xs (xs := xs) h488.1 hi0.1]) ?_
  clear h488 h487 h485
  refine W.eq (g2 := F0 m 417 ls [.int x473, .int x466, .ref q12]) (by rw [s474]) ?_
  refine cI (va_runV (C := RX9) (As := [.int x466, .int x473]) (rest := []) ⟨hx, hb, hml, hown, hA⟩ (k_X9_worth l dC dI dA sz X Γ hU g q12 t_q12 x466 x473   (by first | with_reducible assumption | omega) (by first | with_reducible assumption | omega)) ⟨callB_of 2 hA (al_A wd_5_116) rfl rfl rfl (hA _ wd_1_7) (hA _ wd_5_113) (by decide +kernel) ⟨Nat.le_of_ble_eq_true rfl, Nat.le_of_ble_eq_true rfl⟩, hA _ wd_5_114, hA _ wd_5_115⟩ ⟨bl, recv_X9 hE hG t_q12, fun U hU9 hW9 => ⟨rfl, by rw [hU9]; exact hG, hE.go hS hU9 hW9⟩⟩ rfl rfl hl.1 rfl (lv_room (Nat.le_of_ble_eq_true rfl)) dL_law_417 ⟨(Nat.le_trans (show kc + 0 ≤ 300000 by omega) (Nat.le_of_ble_eq_true rfl)), (Nat.le_trans (show ks + 0 ≤ 300000 by omega) (Nat.le_of_ble_eq_true rfl))⟩) hS (fun x491 u489 H locs w490 hG hS => ?_)
  have hf492 := w490
  have hj493 : IJ u489 := IJ_cg (hf492 126 0 (by decide)) (fun j => hf492 132 j (by decide)) (fun j => hf492 134 j (by decide)) (by (repeat (first | with_reducible assumption | (refine IJ_c (by decide) (by decide) (by decide) ?_) | (refine IJ_take (by omega) (by omega) ?_) | (refine IJ_how (by omega) ?_) | (refine IJ_by (by omega) ?_))))
  refine lv_pop hx hb dL_law_420 rfl ?_
  refine lv_goto (tgt := 1047) hx hb dL_law_421 (by decide) ?_
  obtain ⟨x494, h495⟩ : ∃ y : Int32, y = i + Int32.ofInt (6) := ⟨_, rfl⟩
  try have h496 : x494.toInt = i.toInt + (6) := ty_inc h495 (by decide) (by omega) (by omega)
  refine lv_iinc (v := x494) (lv' := [(4, .int x494), (3, .ref q25), (2, .ref q12), (1, .ref q1), (0, .ref b)]) hx hb dL_law_1047 hl (k := 0) rfl h495.symm (by decide) rfl (fun ls hl => ?_)
  refine lv_goto (tgt := 23) hx hb dL_law_1050 (by decide) ?_
  have hk497 : u489 4 0 = g 4 0 := hf492 4 0 (by decide)
  exact ih x494 Γ u489 (kc) (ks) _ _ ls (by omega) (by omega) (by rw [hf492 1 0 (by decide), hf492 33 0 (by decide)]; exact hi1) (by rw [hf492 2 0 (by decide), hf492 34 0 (by decide)]; exact hi2) (by rw [hf492 3 0 (by decide), hf492 35 0 (by decide)]; exact hi3) (by rw [hf492 5 0 (by decide)]; exact hi4) (by omega) (by rw [hf492 6 0 (by decide)]; exact hi6) (by rw [hf492 7 0 (by decide), hf492 36 0 (by decide)]; exact hi7) (by rw [hf492 101 0 (by decide), hf492 1 0 (by decide)]; exact hi8) (by rw [hf492 104 0 (by decide), hf492 2 0 (by decide)]; exact hi9) (by rw [hf492 112 0 (by decide), hf492 5 0 (by decide)]; exact hi10) (by rw [hf492 111 0 (by decide), hf492 4 0 (by decide)]; exact hi11) (by rw [hf492 114 0 (by decide), hf492 6 0 (by decide)]; exact hi12) (by rw [hf492 126 0 (by decide)]; exact hi13) (by rw [hf492 122 0 (by decide)]; exact hi14) (by (repeat (first | with_reducible assumption | (refine IJ_c (by decide) (by decide) (by decide) ?_) | (refine IJ_take (by omega) (by omega) ?_) | (refine IJ_how (by omega) ?_) | (refine IJ_by (by omega) ?_)))) hU t_q1 t_q12 t_q25 (by omega) (by omega) hG hS (lv_sub hl [0, 1, 2, 3, 4] rfl)
