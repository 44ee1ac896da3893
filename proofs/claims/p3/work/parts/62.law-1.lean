set_option maxHeartbeats 40000000 in
set_option maxRecDepth 100000 in
/-- the law's case 0 -/
theorem law_c0 {p : Program} {e : Env} {s : State} {m : MethodId} {below : List Frame} {meth : Method} {c : Code} (l : Launch) (hl9 : l.stackTraces = false) {b L : Nat} {xs : Nat → Int32} (hLN : L ≤ 3072) (hx : p.tables.exec = Jvm.exec) (hb : c.code = code) (hr : meth.sig.returnType = ret) (hml : c.maxLocals = 7) (hown : s.vm.findClass R_law = some m.cls) (hA : ∀ w ∈ AL, w.before #[Value.ref b] s = true) (hXs : va_X b L xs s s.heap) (hbl : b < s.heap.size) (hlocks : meth.locks = false) {dC : Nat → ClassId} {dI : Nat → Nat → Nat} {dA : Nat → ClassId} {sz : Nat} (hE : en dC dI dA sz s) (hsz : sz = s.heap.size) (hbA : ¬ ty_A sz b) (X : va_W) (q1 q12 q25 : Nat) (n : Nat) (ih : LJ p l e s m below meth c b dC dI dA sz X q1 q12 q25 n) (i : Int32) (Γ : ty_G) (g : gh) (kc ks : Nat) (H : Heap) (locs : List Loc) (ls : Array Slot) (hm : (3073 - i.toInt : Int) < (n + 1 : Nat)) (hi0 : 0 ≤ i.toInt ∧ i.toInt ≤ 3072) (hi1 : g 1 0 = g 33 0 ∧ 0 ≤ g 1 0 ∧ g 1 0 ≤ 6) (hi2 : g 2 0 = g 34 0 ∧ 0 ≤ g 2 0 ∧ g 2 0 ≤ 10) (hi3 : g 3 0 = g 35 0 ∧ 0 ≤ g 3 0 ∧ g 3 0 ≤ 200) (hi4 : 0 ≤ g 5 0 ∧ g 5 0 ≤ 52) (hi5 : 0 ≤ g 4 0 ∧ g 4 0 ≤ i.toInt) (hi6 : 0 ≤ g 6 0 ∧ g 6 0 ≤ 300) (hi7 : 0 ≤ g 7 0 ∧ g 7 0 ≤ g 36 0 ∧ g 36 0 ≤ 9) (hi8 : g 101 0 = g 1 0) (hi9 : g 104 0 = g 2 0) (hi10 : g 112 0 = g 5 0) (hi11 : g 111 0 = g 4 0) (hi12 : g 114 0 = g 6 0) (hi13 : 0 ≤ g 126 0 ∧ g 126 0 ≤ 200) (hi14 : 0 ≤ g 122 0 ∧ g 122 0 ≤ 30) (hIJ : IJ g) (hU : Un Γ) (t_q1 : ty Γ q1 1) (t_q12 : ty Γ q12 30) (t_q25 : ty Γ q25 25) (hkc : kc ≤ 300 + i.toInt.toNat) (hks : ks ≤ 30000 + 28 * i.toInt.toNat) (hG : ty_ok (dC, dI) vwCl Γ (TP dA Γ g) sz X H) (hS : va_S (ty_A sz) s.heap H locs) (hl : lv_has ls 7 [(4, .int i), (3, .ref q25), (2, .ref q12), (1, .ref q1), (0, .ref b)]) (hiL : i.toInt + 6 ≤ (L : Int)) : W p l e room_1 s m #[Value.ref b] below meth c H locs kc ks (lw_Z below #[Value.ref b] s) (F0 m 152 ls []) := by
  refine lv_aload_n hx hb dL_law_152 rfl (lv_at hl 3 rfl) ?_
  refine lv_aload_n hx hb dL_law_153 rfl (lv_at hl 4 rfl) ?_
  refine lv_iload hx hb dL_law_154 (lv_at hl 0 rfl) ?_
  refine ty_iconst hx hb (1) dL_law_156 (by decide) (fun x96 h97 => ?_)
  refine ty_iadd hx hb dL_law_157 (fun x98 h99 => ?_)
  have h100 := lw_ix (k := 1) h97 h99 hi0 hiL hLN (by decide)
  refine va_sld hx hb hXs hbl hbA hS (i := x98) (ty_ix h100.2) dL_law_158 ?_
  refine W.eq (g2 := F0 m 159 ls [.int (xs (i.toInt.toNat + 1)), .ref q1]) (by rw [lw_xs (xs := xs) h100.1 hi0.1]) ?_
  clear h100 h99 h97
  refine lv_topi (fun x101 s102 => ?_)
  refine lv_aload_n hx hb dL_law_159 rfl (lv_at hl 4 rfl) ?_
  refine lv_iload hx hb dL_law_160 (lv_at hl 0 rfl) ?_
  refine ty_iconst hx hb (2) dL_law_162 (by decide) (fun x103 h104 => ?_)
  refine ty_iadd hx hb dL_law_163 (fun x105 h106 => ?_)
  have h107 := lw_ix (k := 2) h104 h106 hi0 hiL hLN (by decide)
  refine va_sld hx hb hXs hbl hbA hS (i := x105) (ty_ix h107.2) dL_law_164 ?_
  refine W.eq (g2 := F0 m 165 ls [.int (xs (i.toInt.toNat + 2)), .int x101, .ref q1]) (by rw [lw_xs (xs := xs) h107.1 hi0.1]) ?_
  clear h107 h106 h104
  refine lv_topi (fun x108 s109 => ?_)
  refine cIB (va_runV (C := RX8) (As := [.int x101, .int x108]) (rest := []) ⟨hx, hb, hml, hown, hA⟩ (k_X8_flat l dC dI dA sz X Γ hU g q1 t_q1 x101 x108   (by first | with_reducible assumption | omega)) ⟨callB_of 2 hA (al_A wd_1_200) rfl rfl rfl (hA _ wd_1_1) (hA _ wd_1_197) (by decide +kernel) ⟨Nat.le_of_ble_eq_true rfl, Nat.le_of_ble_eq_true rfl⟩, hA _ wd_1_198, hA _ wd_1_199⟩ ⟨bl, recv_X8 hE hG t_q1, fun U hU9 hW9 => ⟨rfl, by rw [hU9]; exact hG, hE.go hS hU9 hW9⟩⟩ rfl rfl hl.1 rfl (lv_room (Nat.le_of_ble_eq_true rfl)) dL_law_165 ⟨(Nat.le_trans (show kc + 4 ≤ 300000 by omega) (Nat.le_of_ble_eq_true rfl)), (Nat.le_trans (show ks + 165 ≤ 300000 by omega) (Nat.le_of_ble_eq_true rfl))⟩) hS (fun x112 u110 H locs w111 hG hS => ?_)
  obtain ⟨Γ113, g114⟩ := u110
  dsimp only at w111 hG
  obtain ⟨hx115, hU, hf116, w117⟩ := w111
  have hj119 : IJ g114 := IJ_cg (hf116 126 0 (by decide) (by decide)) (fun j => hf116 132 j (by decide) (by decide)) (fun j => hf116 134 j (by decide) (by decide)) (by (repeat (first | with_reducible assumption | (refine IJ_c (by decide) (by decide) (by decide) ?_) | (refine IJ_take (by omega) (by omega) ?_) | (refine IJ_how (by omega) ?_) | (refine IJ_by (by omega) ?_))))
  have hX120 : ext Γ Γ113 := ext.trans ext.rf hx115
  replace t_q25 : ty Γ113 q25 25 := hx115.one t_q25 (by decide)
  replace t_q12 : ty Γ113 q12 30 := hx115.one t_q12 (by decide)
  replace t_q1 : ty Γ113 q1 1 := hx115.one t_q1 (by decide)
  replace w117 := or2 w117.1 w117.2 (by exact Classical.em _)
  rcases w117 with w117 | w117
  · skip
    refine lv_pop hx hb dL_law_168 rfl ?_
    refine lv_aload_n hx hb dL_law_169 rfl (lv_at hl 2 rfl) ?_
    refine lv_aload_n hx hb dL_law_170 rfl (lv_at hl 4 rfl) ?_
    refine lv_iload hx hb dL_law_171 (lv_at hl 0 rfl) ?_
    refine ty_iconst hx hb (1) dL_law_173 (by decide) (fun x121 h122 => ?_)
    refine ty_iadd hx hb dL_law_174 (fun x123 h124 => ?_)
    have h125 := lw_ix (k := 1) h122 h124 hi0 hiL hLN (by decide)
    refine va_sld hx hb hXs hbl hbA hS (i := x123) (ty_ix h125.2) dL_law_175 ?_
    refine W.eq (g2 := F0 m 176 ls [.int (xs (i.toInt.toNat + 1)), .ref q12]) (by rw [lw_xs (xs := xs) h125.1 hi0.1]) ?_
    clear h125 h124 h122
    refine W.eq (g2 := F0 m 176 ls [.int x101, .ref q12]) (by rw [s102]) ?_
    refine lv_aload_n hx hb dL_law_176 rfl (lv_at hl 4 rfl) ?_
    refine lv_iload hx hb dL_law_177 (lv_at hl 0 rfl) ?_
    refine ty_iconst hx hb (2) dL_law_179 (by decide) (fun x126 h127 => ?_)
    refine ty_iadd hx hb dL_law_180 (fun x128 h129 => ?_)
    have h130 := lw_ix (k := 2) h127 h129 hi0 hiL hLN (by decide)
    refine va_sld hx hb hXs hbl hbA hS (i := x128) (ty_ix h130.2) dL_law_181 ?_
    refine W.eq (g2 := F0 m 182 ls [.int (xs (i.toInt.toNat + 2)), .int x101, .ref q12]) (by rw [lw_xs (xs := xs) h130.1 hi0.1]) ?_
    clear h130 h129 h127
    refine W.eq (g2 := F0 m 182 ls [.int x108, .int x101, .ref q12]) (by rw [s109]) ?_
    have hk131 : g114 101 0 = g 101 0 := hf116 101 0 (by decide) (by decide)
    refine cI (va_runV (C := RX9) (As := [.int x101, .int x108]) (rest := []) ⟨hx, hb, hml, hown, hA⟩ (k_X9_flat l dC dI dA sz X Γ113 hU g114 q12 t_q12 x101 x108   (by first | with_reducible assumption | omega)) ⟨callB_of 2 hA (al_A wd_5_35) rfl rfl rfl (hA _ wd_1_7) (hA _ wd_5_32) (by decide +kernel) ⟨Nat.le_of_ble_eq_true rfl, Nat.le_of_ble_eq_true rfl⟩, hA _ wd_5_33, hA _ wd_5_34⟩ ⟨bl, recv_X9 hE hG t_q12, fun U hU9 hW9 => ⟨rfl, by rw [hU9]; exact hG, hE.go hS hU9 hW9⟩⟩ rfl rfl hl.1 rfl (lv_room (Nat.le_of_ble_eq_true rfl)) dL_law_182 ⟨(Nat.le_trans (show (kc + 4) + 0 ≤ 300000 by omega) (Nat.le_of_ble_eq_true rfl)), (Nat.le_trans (show (ks + 165) + 0 ≤ 300000 by omega) (Nat.le_of_ble_eq_true rfl))⟩) hS (fun x134 u132 H locs w133 hG hS => ?_)
    obtain ⟨hf135, w133⟩ := w133
    have hj136 : IJ u132 := IJ_cg (hf135 126 0 (by decide) (by decide) (by decide) (by decide)) (fun j => hf135 132 j (by decide) (by decide) (by decide) (by decide)) (fun j => hf135 134 j (by decide) (by decide) (by decide) (by decide)) (by (repeat (first | with_reducible assumption | (refine IJ_c (by decide) (by decide) (by decide) ?_) | (refine IJ_take (by omega) (by omega) ?_) | (refine IJ_how (by omega) ?_) | (refine IJ_by (by omega) ?_))))
    replace w133 := or2 w133.1 w133.2 (by exact Classical.em _)
    rcases w133 with w133 | w133
    · skip
      refine lv_pop hx hb dL_law_185 rfl ?_
      refine lv_goto (tgt := 1047) hx hb dL_law_186 (by decide) ?_
      obtain ⟨x137, h138⟩ : ∃ y : Int32, y = i + Int32.ofInt (6) := ⟨_, rfl⟩
      try have h139 : x137.toInt = i.toInt + (6) := ty_inc h138 (by decide) (by omega) (by omega)
      refine lv_iinc (v := x137) (lv' := [(4, .int x137), (3, .ref q25), (2, .ref q12), (1, .ref q1), (0, .ref b)]) hx hb dL_law_1047 hl (k := 0) rfl h138.symm (by decide) rfl (fun ls hl => ?_)
      refine lv_goto (tgt := 23) hx hb dL_law_1050 (by decide) ?_
      have hk140 : u132 1 0 = g114 1 0 := hf135 1 0 (by decide) (by decide) (by decide) (by decide)
      have hk141 : u132 4 0 = g114 4 0 := hf135 4 0 (by decide) (by decide) (by decide) (by decide)
      have hk142 : g114 4 0 = g 4 0 := hf116 4 0 (by decide) (by decide)
      have hk143 : u132 33 0 = g114 33 0 := hf135 33 0 (by decide) (by decide) (by decide) (by decide)
      exact ih x137 Γ113 u132 ((kc + 4)) ((ks + 165)) _ _ ls (by omega) (by omega) (by omega) (by rw [hf135 2 0 (by decide) (by decide) (by decide) (by decide), hf116 2 0 (by decide) (by decide), hf135 34 0 (by decide) (by decide) (by decide) (by decide), hf116 34 0 (by decide) (by decide)]; exact hi2) (by rw [hf135 3 0 (by decide) (by decide) (by decide) (by decide), hf116 3 0 (by decide) (by decide), hf135 35 0 (by decide) (by decide) (by decide) (by decide), hf116 35 0 (by decide) (by decide)]; exact hi3) (by rw [hf135 5 0 (by decide) (by decide) (by decide) (by decide), hf116 5 0 (by decide) (by decide)]; exact hi4) (by omega) (by rw [hf135 6 0 (by decide) (by decide) (by decide) (by decide), hf116 6 0 (by decide) (by decide)]; exact hi6) (by rw [hf135 7 0 (by decide) (by decide) (by decide) (by decide), hf116 7 0 (by decide) (by decide), hf135 36 0 (by decide) (by decide) (by decide) (by decide), hf116 36 0 (by decide) (by decide)]; exact hi7) (by omega) (by rw [hf135 104 0 (by decide) (by decide) (by decide) (by decide), hf116 104 0 (by decide) (by decide), hf135 2 0 (by decide) (by decide) (by decide) (by decide), hf116 2 0 (by decide) (by decide)]; exact hi9) (by rw [hf135 112 0 (by decide) (by decide) (by decide) (by decide), hf116 112 0 (by decide) (by decide), hf135 5 0 (by decide) (by decide) (by decide) (by decide), hf116 5 0 (by decide) (by decide)]; exact hi10) (by rw [hf135 111 0 (by decide) (by decide) (by decide) (by decide), hf116 111 0 (by decide) (by decide), hf135 4 0 (by decide) (by decide) (by decide) (by decide), hf116 4 0 (by decide) (by decide)]; exact hi11) (by rw [hf135 114 0 (by decide) (by decide) (by decide) (by decide), hf116 114 0 (by decide) (by decide), hf135 6 0 (by decide) (by decide) (by decide) (by decide), hf116 6 0 (by decide) (by decide)]; exact hi12) (by rw [hf135 126 0 (by decide) (by decide) (by decide) (by decide), hf116 126 0 (by decide) (by decide)]; exact hi13) (by rw [hf135 122 0 (by decide) (by decide) (by decide) (by decide), hf116 122 0 (by decide) (by decide)]; exact hi14) (by (repeat (first | with_reducible assumption | (refine IJ_c (by decide) (by decide) (by decide) ?_) | (refine IJ_take (by omega) (by omega) ?_) | (refine IJ_how (by omega) ?_) | (refine IJ_by (by omega) ?_)))) hU t_q1 t_q12 t_q25 (by omega) (by omega) hG hS (lv_sub hl [0, 1, 2, 3, 4] rfl)
    · exfalso; omega
  · skip
    refine lv_pop hx hb dL_law_168 rfl ?_
    refine lv_aload_n hx hb dL_law_169 rfl (lv_at hl 2 rfl) ?_
    refine lv_aload_n hx hb dL_law_170 rfl (lv_at hl 4 rfl) ?_
    refine lv_iload hx hb dL_law_171 (lv_at hl 0 rfl) ?_
    refine ty_iconst hx hb (1) dL_law_173 (by decide) (fun x144 h145 => ?_)
    refine ty_iadd hx hb dL_law_174 (fun x146 h147 => ?_)
    have h148 := lw_ix (k := 1) h145 h147 hi0 hiL hLN (by decide)
    refine va_sld hx hb hXs hbl hbA hS (i := x146) (ty_ix h148.2) dL_law_175 ?_
    refine W.eq (g2 := F0 m 176 ls [.int (xs (i.toInt.toNat + 1)), .ref q12]) (by rw [lw_xs (xs := xs) h148.1 hi0.1]) ?_
    clear h148 h147 h145
    refine W.eq (g2 := F0 m 176 ls [.int x101, .ref q12]) (by rw [s102]) ?_
    refine lv_aload_n hx hb dL_law_176 rfl (lv_at hl 4 rfl) ?_
    refine lv_iload hx hb dL_law_177 (lv_at hl 0 rfl) ?_
    refine ty_iconst hx hb (2) dL_law_179 (by decide) (fun x149 h150 => ?_)
    refine ty_iadd hx hb dL_law_180 (fun x151 h152 => ?_)
    have h153 := lw_ix (k := 2) h150 h152 hi0 hiL hLN (by decide)
    refine va_sld hx hb hXs hbl hbA hS (i := x151) (ty_ix h153.2) dL_law_181 ?_
    refine W.eq (g2 := F0 m 182 ls [.int (xs (i.toInt.toNat + 2)), .int x101, .ref q12]) (by rw [lw_xs (xs := xs) h153.1 hi0.1]) ?_
    clear h153 h152 h150
    refine W.eq (g2 := F0 m 182 ls [.int x108, .int x101, .ref q12]) (by rw [s109]) ?_
    have hk154 : g114 101 0 = g 101 0 := hf116 101 0 (by decide) (by decide)
    refine cI (va_runV (C := RX9) (As := [.int x101, .int x108]) (rest := []) ⟨hx, hb, hml, hown, hA⟩ (k_X9_flat l dC dI dA sz X Γ113 hU g114 q12 t_q12 x101 x108   (by first | with_reducible assumption | omega)) ⟨callB_of 2 hA (al_A wd_5_35) rfl rfl rfl (hA _ wd_1_7) (hA _ wd_5_32) (by decide +kernel) ⟨Nat.le_of_ble_eq_true rfl, Nat.le_of_ble_eq_true rfl⟩, hA _ wd_5_33, hA _ wd_5_34⟩ ⟨bl, recv_X9 hE hG t_q12, fun U hU9 hW9 => ⟨rfl, by rw [hU9]; exact hG, hE.go hS hU9 hW9⟩⟩ rfl rfl hl.1 rfl (lv_room (Nat.le_of_ble_eq_true rfl)) dL_law_182 ⟨(Nat.le_trans (show (kc + 4) + 0 ≤ 300000 by omega) (Nat.le_of_ble_eq_true rfl)), (Nat.le_trans (show (ks + 165) + 0 ≤ 300000 by omega) (Nat.le_of_ble_eq_true rfl))⟩) hS (fun x157 u155 H locs w156 hG hS => ?_)
    obtain ⟨hf158, w156⟩ := w156
    have hj159 : IJ u155 := IJ_cg (hf158 126 0 (by decide) (by decide) (by decide) (by decide)) (fun j => hf158 132 j (by decide) (by decide) (by decide) (by decide)) (fun j => hf158 134 j (by decide) (by decide) (by decide) (by decide)) (by (repeat (first | with_reducible assumption | (refine IJ_c (by decide) (by decide) (by decide) ?_) | (refine IJ_take (by omega) (by omega) ?_) | (refine IJ_how (by omega) ?_) | (refine IJ_by (by omega) ?_))))
    replace w156 := or2 w156.1 w156.2 (by exact Classical.em _)
    rcases w156 with w156 | w156
    · exfalso; omega
    · skip
      refine lv_pop hx hb dL_law_185 rfl ?_
      refine lv_goto (tgt := 1047) hx hb dL_law_186 (by decide) ?_
      obtain ⟨x160, h161⟩ : ∃ y : Int32, y = i + Int32.ofInt (6) := ⟨_, rfl⟩
      try have h162 : x160.toInt = i.toInt + (6) := ty_inc h161 (by decide) (by omega) (by omega)
      refine lv_iinc (v := x160) (lv' := [(4, .int x160), (3, .ref q25), (2, .ref q12), (1, .ref q1), (0, .ref b)]) hx hb dL_law_1047 hl (k := 0) rfl h161.symm (by decide) rfl (fun ls hl => ?_)
      refine lv_goto (tgt := 23) hx hb dL_law_1050 (by decide) ?_
      have hk163 : u155 1 0 = g114 1 0 := hf158 1 0 (by decide) (by decide) (by decide) (by decide)
      have hk164 : u155 4 0 = g114 4 0 := hf158 4 0 (by decide) (by decide) (by decide) (by decide)
      have hk165 : g114 4 0 = g 4 0 := hf116 4 0 (by decide) (by decide)
      have hk166 : u155 33 0 = g114 33 0 := hf158 33 0 (by decide) (by decide) (by decide) (by decide)
      exact ih x160 Γ113 u155 ((kc + 4)) ((ks + 165)) _ _ ls (by omega) (by omega) (by omega) (by rw [hf158 2 0 (by decide) (by decide) (by decide) (by decide), hf116 2 0 (by decide) (by decide), hf158 34 0 (by decide) (by decide) (by decide) (by decide), hf116 34 0 (by decide) (by decide)]; exact hi2) (by rw [hf158 3 0 (by decide) (by decide) (by decide) (by decide), hf116 3 0 (by decide) (by decide), hf158 35 0 (by decide) (by decide) (by decide) (by decide), hf116 35 0 (by decide) (by decide)]; exact hi3) (by rw [hf158 5 0 (by decide) (by decide) (by decide) (by decide), hf116 5 0 (by decide) (by decide)]; exact hi4) (by omega) (by rw [hf158 6 0 (by decide) (by decide) (by decide) (by decide), hf116 6 0 (by decide) (by decide)]; exact hi6) (by rw [hf158 7 0 (by decide) (by decide) (by decide) (by decide), hf116 7 0 (by decide) (by decide), hf158 36 0 (by decide) (by decide) (by decide) (by decide), hf116 36 0 (by decide) (by decide)]; exact hi7) (by omega) (by rw [hf158 104 0 (by decide) (by decide) (by decide) (by decide), hf116 104 0 (by decide) (by decide), hf158 2 0 (by decide) (by decide) (by decide) (by decide), hf116 2 0 (by decide) (by decide)]; exact hi9) (by rw [hf158 112 0 (by decide) (by decide) (by decide) (by decide), hf116 112 0 (by decide) (by decide), hf158 5 0 (by decide) (by decide) (by decide) (by decide), hf116 5 0 (by decide) (by decide)]; exact hi10) (by rw [hf158 111 0 (by decide) (by decide) (by decide) (by decide), hf116 111 0 (by decide) (by decide), hf158 4 0 (by decide) (by decide) (by decide) (by decide), hf116 4 0 (by decide) (by decide)]; exact hi11) (by rw [hf158 114 0 (by decide) (by decide) (by decide) (by decide), hf116 114 0 (by decide) (by decide), hf158 6 0 (by decide) (by decide) (by decide) (by decide), hf116 6 0 (by decide) (by decide)]; exact hi12) (by rw [hf158 126 0 (by decide) (by decide) (by decide) (by decide), hf116 126 0 (by decide) (by decide)]; exact hi13) (by rw [hf158 122 0 (by decide) (by decide) (by decide) (by decide), hf116 122 0 (by decide) (by decide)]; exact hi14) (by (repeat (first | with_reducible assumption | (refine IJ_c (by decide) (by decide) (by decide) ?_) | (refine IJ_take (by omega) (by omega) ?_) | (refine IJ_how (by omega) ?_) | (refine IJ_by (by omega) ?_)))) hU t_q1 t_q12 t_q25 (by omega) (by omega) hG hS (lv_sub hl [0, 1, 2, 3, 4] rfl)
set_option maxHeartbeats 40000000 in
set_option maxRecDepth 100000 in
/-- the law's case 1 -/
theorem law_c1 {p : Program} {e : Env} {s : State} {m : MethodId} {below : List Frame} {meth : Method} {c : Code} (l : Launch) (hl9 : l.stackTraces = false) {b L : Nat} {xs : Nat → Int32} (hLN : L ≤ 3072) (hx : p.tables.exec = Jvm.exec) (hb : c.code = code) (hr : meth.sig.returnType = ret) (hml : c.maxLocals = 7) (hown : s.vm.findClass R_law = some m.cls) (hA : ∀ w ∈ AL, w.before #[Value.ref b] s = true) (hXs : va_X b L xs s s.heap) (hbl : b < s.heap.size) (hlocks : meth.locks = false) {dC : Nat → ClassId} {dI : Nat → Nat → Nat} {dA : Nat → ClassId} {sz : Nat} (hE : en dC dI dA sz s) (hsz : sz = s.heap.size) (hbA : ¬ ty_A sz b) (X : va_W) (q1 q12 q25 : Nat) (n : Nat) (ih : LJ p l e s m below meth c b dC dI dA sz X q1 q12 q25 n) (i : Int32) (Γ : ty_G) (g : gh) (kc ks : Nat) (H : Heap) (locs : List Loc) (ls : Array Slot) (hm : (3073 - i.toInt : Int) < (n + 1 : Nat)) (hi0 : 0 ≤ i.toInt ∧ i.toInt ≤ 3072) (hi1 : g 1 0 = g 33 0 ∧ 0 ≤ g 1 0 ∧ g 1 0 ≤ 6) (hi2 : g 2 0 = g 34 0 ∧ 0 ≤ g 2 0 ∧ g 2 0 ≤ 10) (hi3 : g 3 0 = g 35 0 ∧ 0 ≤ g 3 0 ∧ g 3 0 ≤ 200) (hi4 : 0 ≤ g 5 0 ∧ g 5 0 ≤ 52) (hi5 : 0 ≤ g 4 0 ∧ g 4 0 ≤ i.toInt) (hi6 : 0 ≤ g 6 0 ∧ g 6 0 ≤ 300) (hi7 : 0 ≤ g 7 0 ∧ g 7 0 ≤ g 36 0 ∧ g 36 0 ≤ 9) (hi8 : g 101 0 = g 1 0) (hi9 : g 104 0 = g 2 0) (hi10 : g 112 0 = g 5 0) (hi11 : g 111 0 = g 4 0) (hi12 : g 114 0 = g 6 0) (hi13 : 0 ≤ g 126 0 ∧ g 126 0 ≤ 200) (hi14 : 0 ≤ g 122 0 ∧ g 122 0 ≤ 30) (hIJ : IJ g) (hU : Un Γ) (t_q1 : ty Γ q1 1) (t_q12 : ty Γ q12 30) (t_q25 : ty Γ q25 25) (hkc : kc ≤ 300 + i.toInt.toNat) (hks : ks ≤ 30000 + 28 * i.toInt.toNat) (hG : ty_ok (dC, dI) vwCl Γ (TP dA Γ g) sz X H) (hS : va_S (ty_A sz) s.heap H locs) (hl : lv_has ls 7 [(4, .int i), (3, .ref q25), (2, .ref q12), (1, .ref q1), (0, .ref b)]) (hiL : i.toInt + 6 ≤ (L : Int)) : W p l e room_1 s m #[Value.ref b] below meth c H locs kc ks (lw_Z below #[Value.ref b] s) (F0 m 189 ls []) := by
  refine lv_aload_n hx hb dL_law_189 rfl (lv_at hl 3 rfl) ?_
  refine lv_aload_n hx hb dL_law_190 rfl (lv_at hl 4 rfl) ?_
  refine lv_iload hx hb dL_law_191 (lv_at hl 0 rfl) ?_
  refine ty_iconst hx hb (1) dL_law_193 (by decide) (fun x167 h168 => ?_)
  refine ty_iadd hx hb dL_law_194 (fun x169 h170 => ?_)
  have h171 := lw_ix (k := 1) h168 h170 hi0 hiL hLN (by decide)
  refine va_sld hx hb hXs hbl hbA hS (i := x169) (ty_ix h171.2) dL_law_195 ?_
  refine W.eq (g2 := F0 m 196 ls [.int (xs (i.toInt.toNat + 1)), .ref q1]) (by rw [lw_xs (xs := xs) h171.1 hi0.1]) ?_
  clear h171 h170 h168
  refine lv_topi (fun x172 s173 => ?_)
  refine cIB (va_runV (C := RX8) (As := [.int x172]) (rest := []) ⟨hx, hb, hml, hown, hA⟩ (k_X8_owner l dC dI dA sz X Γ hU g q1 t_q1 x172   (by first | with_reducible assumption | omega)) ⟨callB_of 1 hA (al_A wd_2_0) rfl rfl rfl (hA _ wd_1_1) (hA _ wd_1_237) (by decide +kernel) ⟨Nat.le_of_ble_eq_true rfl, Nat.le_of_ble_eq_true rfl⟩, hA _ wd_1_238, hA _ wd_1_239⟩ ⟨bl, recv_X8 hE hG t_q1, fun U hU9 hW9 => ⟨rfl, by rw [hU9]; exact hG, hE.go hS hU9 hW9⟩⟩ rfl rfl hl.1 rfl (lv_room (Nat.le_of_ble_eq_true rfl)) dL_law_196 ⟨(Nat.le_trans (show kc + 1 ≤ 300000 by omega) (Nat.le_of_ble_eq_true rfl)), (Nat.le_trans (show ks + 8 ≤ 300000 by omega) (Nat.le_of_ble_eq_true rfl))⟩) hS (fun x176 u174 H locs w175 hG hS => ?_)
  obtain ⟨Γ177, g178⟩ := u174
  dsimp only at w175 hG
  obtain ⟨hx179, hU, hf180, w181⟩ := w175
  have hj183 : IJ g178 := IJ_cg (hf180 126 0 (by decide) (by decide)) (fun j => hf180 132 j (by decide) (by decide)) (fun j => hf180 134 j (by decide) (by decide)) (by (repeat (first | with_reducible assumption | (refine IJ_c (by decide) (by decide) (by decide) ?_) | (refine IJ_take (by omega) (by omega) ?_) | (refine IJ_how (by omega) ?_) | (refine IJ_by (by omega) ?_))))
  have hX184 : ext Γ Γ177 := ext.trans ext.rf hx179
  replace t_q25 : ty Γ177 q25 25 := hx179.one t_q25 (by decide)
  replace t_q12 : ty Γ177 q12 30 := hx179.one t_q12 (by decide)
  replace t_q1 : ty Γ177 q1 1 := hx179.one t_q1 (by decide)
  replace w181 := or2 w181.1 w181.2 (by exact Classical.em _)
  rcases w181 with w181 | w181
  · skip
    refine lv_aload_n hx hb dL_law_199 rfl (lv_at hl 2 rfl) ?_
    refine lv_aload_n hx hb dL_law_200 rfl (lv_at hl 4 rfl) ?_
    refine lv_iload hx hb dL_law_201 (lv_at hl 0 rfl) ?_
    refine ty_iconst hx hb (1) dL_law_203 (by decide) (fun x185 h186 => ?_)
    refine ty_iadd hx hb dL_law_204 (fun x187 h188 => ?_)
    have h189 := lw_ix (k := 1) h186 h188 hi0 hiL hLN (by decide)
    refine va_sld hx hb hXs hbl hbA hS (i := x187) (ty_ix h189.2) dL_law_205 ?_
    refine W.eq (g2 := F0 m 206 ls [.int (xs (i.toInt.toNat + 1)), .ref q12, .int x176]) (by rw [lw_xs (xs := xs) h189.1 hi0.1]) ?_
    clear h189 h188 h186
    refine W.eq (g2 := F0 m 206 ls [.int x172, .ref q12, .int x176]) (by rw [s173]) ?_
    have hk190 : g178 104 0 = g 104 0 := hf180 104 0 (by decide) (by decide)
    refine cI (va_runV (C := RX9) (As := [.int x172]) (rest := [.int x176]) ⟨hx, hb, hml, hown, hA⟩ (k_X9_owner l dC dI dA sz X Γ177 hU g178 q12 t_q12 x172   (by first | with_reducible assumption | omega)) ⟨callB_of 1 hA (al_A wd_5_42) rfl rfl rfl (hA _ wd_1_7) (hA _ wd_5_39) (by decide +kernel) ⟨Nat.le_of_ble_eq_true rfl, Nat.le_of_ble_eq_true rfl⟩, hA _ wd_5_40, hA _ wd_5_41⟩ ⟨bl, recv_X9 hE hG t_q12, fun U hU9 hW9 => ⟨rfl, by rw [hU9]; exact hG, hE.go hS hU9 hW9⟩⟩ rfl rfl hl.1 rfl (lv_room (Nat.le_of_ble_eq_true rfl)) dL_law_206 ⟨(Nat.le_trans (show (kc + 1) + 0 ≤ 300000 by omega) (Nat.le_of_ble_eq_true rfl)), (Nat.le_trans (show (ks + 8) + 0 ≤ 300000 by omega) (Nat.le_of_ble_eq_true rfl))⟩) hS (fun x193 u191 H locs w192 hG hS => ?_)
    obtain ⟨hf194, w192⟩ := w192
    have hj195 : IJ u191 := IJ_cg (hf194 126 0 (by decide) (by decide) (by decide)) (fun j => hf194 132 j (by decide) (by decide) (by decide)) (fun j => hf194 134 j (by decide) (by decide) (by decide)) (by (repeat (first | with_reducible assumption | (refine IJ_c (by decide) (by decide) (by decide) ?_) | (refine IJ_take (by omega) (by omega) ?_) | (refine IJ_how (by omega) ?_) | (refine IJ_by (by omega) ?_))))
    replace w192 := or2 w192.1 w192.2 (by exact Classical.em _)
    rcases w192 with w192 | w192
    · skip
      refine ty_icmp_eq (tgt := 1047) hx hb dL_law_209 (by decide) (fun c196 => ?_) (fun c196 => ?_)
      · skip
        obtain ⟨x197, h198⟩ : ∃ y : Int32, y = i + Int32.ofInt (6) := ⟨_, rfl⟩
        try have h199 : x197.toInt = i.toInt + (6) := ty_inc h198 (by decide) (by omega) (by omega)
        refine lv_iinc (v := x197) (lv' := [(4, .int x197), (3, .ref q25), (2, .ref q12), (1, .ref q1), (0, .ref b)]) hx hb dL_law_1047 hl (k := 0) rfl h198.symm (by decide) rfl (fun ls hl => ?_)
        refine lv_goto (tgt := 23) hx hb dL_law_1050 (by decide) ?_
        have hk200 : u191 2 0 = g178 2 0 := hf194 2 0 (by decide) (by decide) (by decide)
        have hk201 : u191 4 0 = g178 4 0 := hf194 4 0 (by decide) (by decide) (by decide)
        have hk202 : g178 4 0 = g 4 0 := hf180 4 0 (by decide) (by decide)
        have hk203 : u191 34 0 = g178 34 0 := hf194 34 0 (by decide) (by decide) (by decide)
        exact ih x197 Γ177 u191 ((kc + 1)) ((ks + 8)) _ _ ls (by omega) (by omega) (by rw [hf194 1 0 (by decide) (by decide) (by decide), hf180 1 0 (by decide) (by decide), hf194 33 0 (by decide) (by decide) (by decide), hf180 33 0 (by decide) (by decide)]; exact hi1) (by omega) (by rw [hf194 3 0 (by decide) (by decide) (by decide), hf180 3 0 (by decide) (by decide), hf194 35 0 (by decide) (by decide) (by decide), hf180 35 0 (by decide) (by decide)]; exact hi3) (by rw [hf194 5 0 (by decide) (by decide) (by decide), hf180 5 0 (by decide) (by decide)]; exact hi4) (by omega) (by rw [hf194 6 0 (by decide) (by decide) (by decide), hf180 6 0 (by decide) (by decide)]; exact hi6) (by rw [hf194 7 0 (by decide) (by decide) (by decide), hf180 7 0 (by decide) (by decide), hf194 36 0 (by decide) (by decide) (by decide), hf180 36 0 (by decide) (by decide)]; exact hi7) (by rw [hf194 101 0 (by decide) (by decide) (by decide), hf180 101 0 (by decide) (by decide), hf194 1 0 (by decide) (by decide) (by decide), hf180 1 0 (by decide) (by decide)]; exact hi8) (by omega) (by rw [hf194 112 0 (by decide) (by decide) (by decide), hf180 112 0 (by decide) (by decide), hf194 5 0 (by decide) (by decide) (by decide), hf180 5 0 (by decide) (by decide)]; exact hi10) (by rw [hf194 111 0 (by decide) (by decide) (by decide), hf180 111 0 (by decide) (by decide), hf194 4 0 (by decide) (by decide) (by decide), hf180 4 0 (by decide) (by decide)]; exact hi11) (by rw [hf194 114 0 (by decide) (by decide) (by decide), hf180 114 0 (by decide) (by decide), hf194 6 0 (by decide) (by decide) (by decide), hf180 6 0 (by decide) (by decide)]; exact hi12) (by rw [hf194 126 0 (by decide) (by decide) (by decide), hf180 126 0 (by decide) (by decide)]; exact hi13) (by rw [hf194 122 0 (by decide) (by decide) (by decide), hf180 122 0 (by decide) (by decide)]; exact hi14) (by (repeat (first | with_reducible assumption | (refine IJ_c (by decide) (by decide) (by decide) ?_) | (refine IJ_take (by omega) (by omega) ?_) | (refine IJ_how (by omega) ?_) | (refine IJ_by (by omega) ?_)))) hU t_q1 t_q12 t_q25 (by omega) (by omega) hG hS (lv_sub hl [0, 1, 2, 3, 4] rfl)
      · exfalso; omega
    · exfalso; omega
  · skip
    refine lv_aload_n hx hb dL_law_199 rfl (lv_at hl 2 rfl) ?_
    refine lv_aload_n hx hb dL_law_200 rfl (lv_at hl 4 rfl) ?_
    refine lv_iload hx hb dL_law_201 (lv_at hl 0 rfl) ?_
    refine ty_iconst hx hb (1) dL_law_203 (by decide) (fun x204 h205 => ?_)
    refine ty_iadd hx hb dL_law_204 (fun x206 h207 => ?_)
    have h208 := lw_ix (k := 1) h205 h207 hi0 hiL hLN (by decide)
    refine va_sld hx hb hXs hbl hbA hS (i := x206) (ty_ix h208.2) dL_law_205 ?_
    refine W.eq (g2 := F0 m 206 ls [.int (xs (i.toInt.toNat + 1)), .ref q12, .int x176]) (by rw [lw_xs (xs := xs) h208.1 hi0.1]) ?_
    clear h208 h207 h205
    refine W.eq (g2 := F0 m 206 ls [.int x172, .ref q12, .int x176]) (by rw [s173]) ?_
    have hk209 : g178 104 0 = g 104 0 := hf180 104 0 (by decide) (by decide)
    refine cI (va_runV (C := RX9) (As := [.int x172]) (rest := [.int x176]) ⟨hx, hb, hml, hown, hA⟩ (k_X9_owner l dC dI dA sz X Γ177 hU g178 q12 t_q12 x172   (by first | with_reducible assumption | omega)) ⟨callB_of 1 hA (al_A wd_5_42) rfl rfl rfl (hA _ wd_1_7) (hA _ wd_5_39) (by decide +kernel) ⟨Nat.le_of_ble_eq_true rfl, Nat.le_of_ble_eq_true rfl⟩, hA _ wd_5_40, hA _ wd_5_41⟩ ⟨bl, recv_X9 hE hG t_q12, fun U hU9 hW9 => ⟨rfl, by rw [hU9]; exact hG, hE.go hS hU9 hW9⟩⟩ rfl rfl hl.1 rfl (lv_room (Nat.le_of_ble_eq_true rfl)) dL_law_206 ⟨(Nat.le_trans (show (kc + 1) + 0 ≤ 300000 by omega) (Nat.le_of_ble_eq_true rfl)), (Nat.le_trans (show (ks + 8) + 0 ≤ 300000 by omega) (Nat.le_of_ble_eq_true rfl))⟩) hS (fun x212 u210 H locs w211 hG hS => ?_)
    obtain ⟨hf213, w211⟩ := w211
    have hj214 : IJ u210 := IJ_cg (hf213 126 0 (by decide) (by decide) (by decide)) (fun j => hf213 132 j (by decide) (by decide) (by decide)) (fun j => hf213 134 j (by decide) (by decide) (by decide)) (by (repeat (first | with_reducible assumption | (refine IJ_c (by decide) (by decide) (by decide) ?_) | (refine IJ_take (by omega) (by omega) ?_) | (refine IJ_how (by omega) ?_) | (refine IJ_by (by omega) ?_))))
    replace w211 := or2 w211.1 w211.2 (by exact Classical.em _)
    rcases w211 with w211 | w211
    · exfalso; omega
    · skip
      refine ty_icmp_eq (tgt := 1047) hx hb dL_law_209 (by decide) (fun c215 => ?_) (fun c215 => ?_)
      · skip
        obtain ⟨x216, h217⟩ : ∃ y : Int32, y = i + Int32.ofInt (6) := ⟨_, rfl⟩
        try have h218 : x216.toInt = i.toInt + (6) := ty_inc h217 (by decide) (by omega) (by omega)
        refine lv_iinc (v := x216) (lv' := [(4, .int x216), (3, .ref q25), (2, .ref q12), (1, .ref q1), (0, .ref b)]) hx hb dL_law_1047 hl (k := 0) rfl h217.symm (by decide) rfl (fun ls hl => ?_)
        refine lv_goto (tgt := 23) hx hb dL_law_1050 (by decide) ?_
        have hk219 : u210 2 0 = g178 2 0 := hf213 2 0 (by decide) (by decide) (by decide)
        have hk220 : u210 4 0 = g178 4 0 := hf213 4 0 (by decide) (by decide) (by decide)
        have hk221 : g178 4 0 = g 4 0 := hf180 4 0 (by decide) (by decide)
        have hk222 : u210 34 0 = g178 34 0 := hf213 34 0 (by decide) (by decide) (by decide)
        exact ih x216 Γ177 u210 ((kc + 1)) ((ks + 8)) _ _ ls (by omega) (by omega) (by rw [hf213 1 0 (by decide) (by decide) (by decide), hf180 1 0 (by decide) (by decide), hf213 33 0 (by decide) (by decide) (by decide), hf180 33 0 (by decide) (by decide)]; exact hi1) (by omega) (by rw [hf213 3 0 (by decide) (by decide) (by decide), hf180 3 0 (by decide) (by decide), hf213 35 0 (by decide) (by decide) (by decide), hf180 35 0 (by decide) (by decide)]; exact hi3) (by rw [hf213 5 0 (by decide) (by decide) (by decide), hf180 5 0 (by decide) (by decide)]; exact hi4) (by omega) (by rw [hf213 6 0 (by decide) (by decide) (by decide), hf180 6 0 (by decide) (by decide)]; exact hi6) (by rw [hf213 7 0 (by decide) (by decide) (by decide), hf180 7 0 (by decide) (by decide), hf213 36 0 (by decide) (by decide) (by decide), hf180 36 0 (by decide) (by decide)]; exact hi7) (by rw [hf213 101 0 (by decide) (by decide) (by decide), hf180 101 0 (by decide) (by decide), hf213 1 0 (by decide) (by decide) (by decide), hf180 1 0 (by decide) (by decide)]; exact hi8) (by omega) (by rw [hf213 112 0 (by decide) (by decide) (by decide), hf180 112 0 (by decide) (by decide), hf213 5 0 (by decide) (by decide) (by decide), hf180 5 0 (by decide) (by decide)]; exact hi10) (by rw [hf213 111 0 (by decide) (by decide) (by decide), hf180 111 0 (by decide) (by decide), hf213 4 0 (by decide) (by decide) (by decide), hf180 4 0 (by decide) (by decide)]; exact hi11) (by rw [hf213 114 0 (by decide) (by decide) (by decide), hf180 114 0 (by decide) (by decide), hf213 6 0 (by decide) (by decide) (by decide), hf180 6 0 (by decide) (by decide)]; exact hi12) (by rw [hf213 126 0 (by decide) (by decide) (by decide), hf180 126 0 (by decide) (by decide)]; exact hi13) (by rw [hf213 122 0 (by decide) (by decide) (by decide), hf180 122 0 (by decide) (by decide)]; exact hi14) (by (repeat (first | with_reducible assumption | (refine IJ_c (by decide) (by decide) (by decide) ?_) | (refine IJ_take (by omega) (by omega) ?_) | (refine IJ_how (by omega) ?_) | (refine IJ_by (by omega) ?_)))) hU t_q1 t_q12 t_q25 (by omega) (by omega) hG hS (lv_sub hl [0, 1, 2, 3, 4] rfl)
      · exfalso; omega
set_option maxHeartbeats 40000000 in
set_option maxRecDepth 100000 in
/-- the law's case 2 -/
theorem law_c2 {p : Program} {e : Env} {s : State} {m : MethodId} {below : List Frame} {meth : Method} {c : Code} (l : Launch) (hl9 : l.stackTraces = false) {b L : Nat} {xs : Nat → Int32} (hLN : L ≤ 3072) (hx : p.tables.exec = Jvm.exec) (hb : c.code = code) (hr : meth.sig.returnType = ret) (hml : c.maxLocals = 7) (hown : s.vm.findClass R_law = some m.cls) (hA : ∀ w ∈ AL, w.before #[Value.ref b] s = true) (hXs : va_X b L xs s s.heap) (hbl : b < s.heap.size) (hlocks : meth.locks = false) {dC : Nat → ClassId} {dI : Nat → Nat → Nat} {dA : Nat → ClassId} {sz : Nat} (hE : en dC dI dA sz s) (hsz : sz = s.heap.size) (hbA : ¬ ty_A sz b) (X : va_W) (q1 q12 q25 : Nat) (n : Nat) (ih : LJ p l e s m below meth c b dC dI dA sz X q1 q12 q25 n) (i : Int32) (Γ : ty_G) (g : gh) (kc ks : Nat) (H : Heap) (locs : List Loc) (ls : Array Slot) (hm : (3073 - i.toInt : Int) < (n + 1 : Nat)) (hi0 : 0 ≤ i.toInt ∧ i.toInt ≤ 3072) (hi1 : g 1 0 = g 33 0 ∧ 0 ≤ g 1 0 ∧ g 1 0 ≤ 6) (hi2 : g 2 0 = g 34 0 ∧ 0 ≤ g 2 0 ∧ g 2 0 ≤ 10) (hi3 : g 3 0 = g 35 0 ∧ 0 ≤ g 3 0 ∧ g 3 0 ≤ 200) (hi4 : 0 ≤ g 5 0 ∧ g 5 0 ≤ 52) (hi5 : 0 ≤ g 4 0 ∧ g 4 0 ≤ i.toInt) (hi6 : 0 ≤ g 6 0 ∧ g 6 0 ≤ 300) (hi7 : 0 ≤ g 7 0 ∧ g 7 0 ≤ g 36 0 ∧ g 36 0 ≤ 9) (hi8 : g 101 0 = g 1 0) (hi9 : g 104 0 = g 2 0) (hi10 : g 112 0 = g 5 0) (hi11 : g 111 0 = g 4 0) (hi12 : g 114 0 = g 6 0) (hi13 : 0 ≤ g 126 0 ∧ g 126 0 ≤ 200) (hi14 : 0 ≤ g 122 0 ∧ g 122 0 ≤ 30) (hIJ : IJ g) (hU : Un Γ) (t_q1 : ty Γ q1 1) (t_q12 : ty Γ q12 30) (t_q25 : ty Γ q25 25) (hkc : kc ≤ 300 + i.toInt.toNat) (hks : ks ≤ 30000 + 28 * i.toInt.toNat) (hG : ty_ok (dC, dI) vwCl Γ (TP dA Γ g) sz X H) (hS : va_S (ty_A sz) s.heap H locs) (hl : lv_has ls 7 [(4, .int i), (3, .ref q25), (2, .ref q12), (1, .ref q1), (0, .ref b)]) (hiL : i.toInt + 6 ≤ (L : Int)) : W p l e room_1 s m #[Value.ref b] below meth c H locs kc ks (lw_Z below #[Value.ref b] s) (F0 m 214 ls []) := by
  refine lv_aload_n hx hb dL_law_214 rfl (lv_at hl 3 rfl) ?_
  refine lv_aload_n hx hb dL_law_215 rfl (lv_at hl 4 rfl) ?_
  refine lv_iload hx hb dL_law_216 (lv_at hl 0 rfl) ?_
  refine ty_iconst hx hb (1) dL_law_218 (by decide) (fun x223 h224 => ?_)
  refine ty_iadd hx hb dL_law_219 (fun x225 h226 => ?_)
  have h227 := lw_ix (k := 1) h224 h226 hi0 hiL hLN (by decide)
  refine va_sld hx hb hXs hbl hbA hS (i := x225) (ty_ix h227.2) dL_law_220 ?_
  refine W.eq (g2 := F0 m 221 ls [.int (xs (i.toInt.toNat + 1)), .ref q1]) (by rw [lw_xs (xs := xs) h227.1 hi0.1]) ?_
  clear h227 h226 h224
  refine lv_topi (fun x228 s229 => ?_)
  refine lv_aload_n hx hb dL_law_221 rfl (lv_at hl 4 rfl) ?_
  refine lv_iload hx hb dL_law_222 (lv_at hl 0 rfl) ?_
  refine ty_iconst hx hb (2) dL_law_224 (by decide) (fun x230 h231 => ?_)
  refine ty_iadd hx hb dL_law_225 (fun x232 h233 => ?_)
  have h234 := lw_ix (k := 2) h231 h233 hi0 hiL hLN (by decide)
  refine va_sld hx hb hXs hbl hbA hS (i := x232) (ty_ix h234.2) dL_law_226 ?_
  refine W.eq (g2 := F0 m 227 ls [.int (xs (i.toInt.toNat + 2)), .int x228, .ref q1]) (by rw [lw_xs (xs := xs) h234.1 hi0.1]) ?_
  clear h234 h233 h231
  refine lv_topi (fun x235 s236 => ?_)
  refine lv_aload_n hx hb dL_law_227 rfl (lv_at hl 4 rfl) ?_
  refine lv_iload hx hb dL_law_228 (lv_at hl 0 rfl) ?_
  refine ty_iconst hx hb (3) dL_law_230 (by decide) (fun x237 h238 => ?_)
  refine ty_iadd hx hb dL_law_231 (fun x239 h240 => ?_)
  have h241 := lw_ix (k := 3) h238 h240 hi0 hiL hLN (by decide)
  refine va_sld hx hb hXs hbl hbA hS (i := x239) (ty_ix h241.2) dL_law_232 ?_
  refine W.eq (g2 := F0 m 233 ls [.int (xs (i.toInt.toNat + 3)), .int x235, .int x228, .ref q1]) (by rw [lw_xs (xs := xs) h241.1 hi0.1]) ?_
  clear h241 h240 h238
  refine lv_topi (fun x242 s243 => ?_)
  refine cI (va_runV (C := RX8) (As := [.int x228, .int x235, .int x242]) (rest := []) ⟨hx, hb, hml, hown, hA⟩ (k_X8_own l dC dI dA sz X Γ hU g q1 t_q1 x228 x235 x242   (by first | with_reducible assumption | omega) (by first | with_reducible assumption | omega)) ⟨callB_of 3 hA (al_A wd_2_44) rfl rfl rfl (hA _ wd_1_1) (hA _ wd_2_41) (by decide +kernel) ⟨Nat.le_of_ble_eq_true rfl, Nat.le_of_ble_eq_true rfl⟩, hA _ wd_2_42, hA _ wd_2_43⟩ ⟨bl, recv_X8 hE hG t_q1, fun U hU9 hW9 => ⟨rfl, by rw [hU9]; exact hG, hE.go hS hU9 hW9⟩⟩ rfl rfl hl.1 rfl (lv_room (Nat.le_of_ble_eq_true rfl)) dL_law_233 ⟨(Nat.le_trans (show kc + 0 ≤ 300000 by omega) (Nat.le_of_ble_eq_true rfl)), (Nat.le_trans (show ks + 0 ≤ 300000 by omega) (Nat.le_of_ble_eq_true rfl))⟩) hS (fun x246 u244 H locs w245 hG hS => ?_)
  have eu247 := w245
  rw [eu247] at hG
  refine lv_pop hx hb dL_law_236 rfl ?_
  refine lv_aload_n hx hb dL_law_237 rfl (lv_at hl 2 rfl) ?_
  refine lv_aload_n hx hb dL_law_238 rfl (lv_at hl 4 rfl) ?_
  refine lv_iload hx hb dL_law_239 (lv_at hl 0 rfl) ?_
  refine ty_iconst hx hb (1) dL_law_241 (by decide) (fun x248 h249 => ?_)
  refine ty_iadd hx hb dL_law_242 (fun x250 h251 => ?_)
  have h252 := lw_ix (k := 1) h249 h251 hi0 hiL hLN (by decide)
  refine va_sld hx hb hXs hbl hbA hS (i := x250) (ty_ix h252.2) dL_law_243 ?_
  refine W.eq (g2 := F0 m 244 ls [.int (xs (i.toInt.toNat + 1)), .ref q12]) (by rw [lw_xs (xs := xs) h252.1 hi0.1]) ?_
  clear h252 h251 h249
  refine W.eq (g2 := F0 m 244 ls [.int x228, .ref q12]) (by rw [s229]) ?_
  refine lv_aload_n hx hb dL_law_244 rfl (lv_at hl 4 rfl) ?_
  refine lv_iload hx hb dL_law_245 (lv_at hl 0 rfl) ?_
  refine ty_iconst hx hb (2) dL_law_247 (by decide) (fun x253 h254 => ?_)
  refine ty_iadd hx hb dL_law_248 (fun x255 h256 => ?_)
  have h257 := lw_ix (k := 2) h254 h256 hi0 hiL hLN (by decide)
  refine va_sld hx hb hXs hbl hbA hS (i := x255) (ty_ix h257.2) dL_law_249 ?_
  refine W.eq (g2 := F0 m 250 ls [.int (xs (i.toInt.toNat + 2)), .int x228, .ref q12]) (by rw [lw_xs (xs := xs) h257.1 hi0.1]) ?_
  clear h257 h256 h254
  refine W.eq (g2 := F0 m 250 ls [.int x235, .int x228, .ref q12]) (by rw [s236]) ?_
  refine lv_aload_n hx hb dL_law_250 rfl (lv_at hl 4 rfl) ?_
  refine lv_iload hx hb dL_law_251 (lv_at hl 0 rfl) ?_
  refine ty_iconst hx hb (3) dL_law_253 (by decide) (fun x258 h259 => ?_)
  refine ty_iadd hx hb dL_law_254 (fun x260 h261 => ?_)
  have h262 := lw_ix (k := 3) h259 h261 hi0 hiL hLN (by decide)
  refine va_sld hx hb hXs hbl hbA hS (i := x260) (ty_ix h262.2) dL_law_255 ?_
  refine W.eq (g2 := F0 m 256 ls [.int (xs (i.toInt.toNat + 3)), .int x235, .int x228, .ref q12]) (by rw [lw_xs (xs := xs) h262.1 hi0.1]) ?_
  clear h262 h261 h259
  refine W.eq (g2 := F0 m 256 ls [.int x242, .int x235, .int x228, .ref q12]) (by rw [s243]) ?_
  refine cI (va_runV (C := RX9) (As := [.int x228, .int x235, .int x242]) (rest := []) ⟨hx, hb, hml, hown, hA⟩ (k_X9_own l dC dI dA sz X Γ hU g q12 t_q12 x228 x235 x242   (by first | with_reducible assumption | omega) (by first | with_reducible assumption | omega) (by first | with_reducible assumption | omega)) ⟨callB_of 3 hA (al_A wd_5_46) rfl rfl rfl (hA _ wd_1_7) (hA _ wd_5_43) (by decide +kernel) ⟨Nat.le_of_ble_eq_true rfl, Nat.le_of_ble_eq_true rfl⟩, hA _ wd_5_44, hA _ wd_5_45⟩ ⟨bl, recv_X9 hE hG t_q12, fun U hU9 hW9 => ⟨rfl, by rw [hU9]; exact hG, hE.go hS hU9 hW9⟩⟩ rfl rfl hl.1 rfl (lv_room (Nat.le_of_ble_eq_true rfl)) dL_law_256 ⟨(Nat.le_trans (show kc + 0 ≤ 300000 by omega) (Nat.le_of_ble_eq_true rfl)), (Nat.le_trans (show ks + 0 ≤ 300000 by omega) (Nat.le_of_ble_eq_true rfl))⟩) hS (fun x265 u263 H locs w264 hG hS => ?_)
  obtain ⟨hf266, w264⟩ := w264
  have hj267 : IJ u263 := IJ_cg (hf266 126 0 (by decide) (by decide)) (fun j => hf266 132 j (by decide) (by decide)) (fun j => hf266 134 j (by decide) (by decide)) (by (repeat (first | with_reducible assumption | (refine IJ_c (by decide) (by decide) (by decide) ?_) | (refine IJ_take (by omega) (by omega) ?_) | (refine IJ_how (by omega) ?_) | (refine IJ_by (by omega) ?_))))
  refine lv_pop hx hb dL_law_259 rfl ?_
  refine lv_goto (tgt := 1047) hx hb dL_law_260 (by decide) ?_
  obtain ⟨x268, h269⟩ : ∃ y : Int32, y = i + Int32.ofInt (6) := ⟨_, rfl⟩
  try have h270 : x268.toInt = i.toInt + (6) := ty_inc h269 (by decide) (by omega) (by omega)
  refine lv_iinc (v := x268) (lv' := [(4, .int x268), (3, .ref q25), (2, .ref q12), (1, .ref q1), (0, .ref b)]) hx hb dL_law_1047 hl (k := 0) rfl h269.symm (by decide) rfl (fun ls hl => ?_)
  refine lv_goto (tgt := 23) hx hb dL_law_1050 (by decide) ?_
  have hk271 : u263 4 0 = g 4 0 := hf266 4 0 (by decide) (by decide)
  exact ih x268 Γ u263 (kc) (ks) _ _ ls (by omega) (by omega) (by rw [hf266 1 0 (by decide) (by decide), hf266 33 0 (by decide) (by decide)]; exact hi1) (by rw [hf266 2 0 (by decide) (by decide), hf266 34 0 (by decide) (by decide)]; exact hi2) (by rw [hf266 3 0 (by decide) (by decide), hf266 35 0 (by decide) (by decide)]; exact hi3) (by rw [hf266 5 0 (by decide) (by decide)]; exact hi4) (by omega) (by rw [hf266 6 0 (by decide) (by decide)]; exact hi6) (by rw [hf266 7 0 (by decide) (by decide), hf266 36 0 (by decide) (by decide)]; exact hi7) (by rw [hf266 101 0 (by decide) (by decide), hf266 1 0 (by decide) (by decide)]; exact hi8) (by rw [hf266 104 0 (by decide) (by decide), hf266 2 0 (by decide) (by decide)]; exact hi9) (by rw [hf266 112 0 (by decide) (by decide), hf266 5 0 (by decide) (by decide)]; exact hi10) (by rw [hf266 111 0 (by decide) (by decide), hf266 4 0 (by decide) (by decide)]; exact hi11) (by rw [hf266 114 0 (by decide) (by decide), hf266 6 0 (by decide) (by decide)]; exact hi12) (by rw [hf266 126 0 (by decide) (by decide)]; exact hi13) (by rw [hf266 122 0 (by decide) (by decide)]; exact hi14) (by (repeat (first | with_reducible assumption | (refine IJ_c (by decide) (by decide) (by decide) ?_) | (refine IJ_take (by omega) (by omega) ?_) | (refine IJ_how (by omega) ?_) | (refine IJ_by (by omega) ?_)))) hU t_q1 t_q12 t_q25 (by omega) (by omega) hG hS (lv_sub hl [0, 1, 2, 3, 4] rfl)
set_option maxHeartbeats 40000000 in
set_option maxRecDepth 100000 in
/-- the law's case 3 -/
theorem law_c3 {p : Program} {e : Env} {s : State} {m : MethodId} {below : List Frame} {meth : Method} {c : Code} (l : Launch) (hl9 : l.stackTraces = false) {b L : Nat} {xs : Nat → Int32} (hLN : L ≤ 3072) (hx : p.tables.exec = Jvm.exec) (hb : c.code = code) (hr : meth.sig.returnType = ret) (hml : c.maxLocals = 7) (hown : s.vm.findClass R_law = some m.cls) (hA : ∀ w ∈ AL, w.before #[Value.ref b] s = true) (hXs : va_X b L xs s s.heap) (hbl : b < s.heap.size) (hlocks : meth.locks = false) {dC : Nat → ClassId} {dI : Nat → Nat → Nat} {dA : Nat → ClassId} {sz : Nat} (hE : en dC dI dA sz s) (hsz : sz = s.heap.size) (hbA : ¬ ty_A sz b) (X : va_W) (q1 q12 q25 : Nat) (n : Nat) (ih : LJ p l e s m below meth c b dC dI dA sz X q1 q12 q25 n) (i : Int32) (Γ : ty_G) (g : gh) (kc ks : Nat) (H : Heap) (locs : List Loc) (ls : Array Slot) (hm : (3073 - i.toInt : Int) < (n + 1 : Nat)) (hi0 : 0 ≤ i.toInt ∧ i.toInt ≤ 3072) (hi1 : g 1 0 = g 33 0 ∧ 0 ≤ g 1 0 ∧ g 1 0 ≤ 6) (hi2 : g 2 0 = g 34 0 ∧ 0 ≤ g 2 0 ∧ g 2 0 ≤ 10) (hi3 : g 3 0 = g 35 0 ∧ 0 ≤ g 3 0 ∧ g 3 0 ≤ 200) (hi4 : 0 ≤ g 5 0 ∧ g 5 0 ≤ 52) (hi5 : 0 ≤ g 4 0 ∧ g 4 0 ≤ i.toInt) (hi6 : 0 ≤ g 6 0 ∧ g 6 0 ≤ 300) (hi7 : 0 ≤ g 7 0 ∧ g 7 0 ≤ g 36 0 ∧ g 36 0 ≤ 9) (hi8 : g 101 0 = g 1 0) (hi9 : g 104 0 = g 2 0) (hi10 : g 112 0 = g 5 0) (hi11 : g 111 0 = g 4 0) (hi12 : g 114 0 = g 6 0) (hi13 : 0 ≤ g 126 0 ∧ g 126 0 ≤ 200) (hi14 : 0 ≤ g 122 0 ∧ g 122 0 ≤ 30) (hIJ : IJ g) (hU : Un Γ) (t_q1 : ty Γ q1 1) (t_q12 : ty Γ q12 30) (t_q25 : ty Γ q25 25) (hkc : kc ≤ 300 + i.toInt.toNat) (hks : ks ≤ 30000 + 28 * i.toInt.toNat) (hG : ty_ok (dC, dI) vwCl Γ (TP dA Γ g) sz X H) (hS : va_S (ty_A sz) s.heap H locs) (hl : lv_has ls 7 [(4, .int i), (3, .ref q25), (2, .ref q12), (1, .ref q1), (0, .ref b)]) (hiL : i.toInt + 6 ≤ (L : Int)) : W p l e room_1 s m #[Value.ref b] below meth c H locs kc ks (lw_Z below #[Value.ref b] s) (F0 m 263 ls []) := by
  refine lv_aload_n hx hb dL_law_263 rfl (lv_at hl 3 rfl) ?_
  refine lv_aload_n hx hb dL_law_264 rfl (lv_at hl 4 rfl) ?_
  refine lv_iload hx hb dL_law_265 (lv_at hl 0 rfl) ?_
  refine ty_iconst hx hb (1) dL_law_267 (by decide) (fun x272 h273 => ?_)
  refine ty_iadd hx hb dL_law_268 (fun x274 h275 => ?_)
  have h276 := lw_ix (k := 1) h273 h275 hi0 hiL hLN (by decide)
  refine va_sld hx hb hXs hbl hbA hS (i := x274) (ty_ix h276.2) dL_law_269 ?_
  refine W.eq (g2 := F0 m 270 ls [.int (xs (i.toInt.toNat + 1)), .ref q1]) (by rw [lw_xs (xs := xs) h276.1 hi0.1]) ?_
  clear h276 h275 h273
  refine lv_topi (fun x277 s278 => ?_)
  refine lv_aload_n hx hb dL_law_270 rfl (lv_at hl 4 rfl) ?_
  refine lv_iload hx hb dL_law_271 (lv_at hl 0 rfl) ?_
  refine ty_iconst hx hb (2) dL_law_273 (by decide) (fun x279 h280 => ?_)
  refine ty_iadd hx hb dL_law_274 (fun x281 h282 => ?_)
  have h283 := lw_ix (k := 2) h280 h282 hi0 hiL hLN (by decide)
  refine va_sld hx hb hXs hbl hbA hS (i := x281) (ty_ix h283.2) dL_law_275 ?_
  refine W.eq (g2 := F0 m 276 ls [.int (xs (i.toInt.toNat + 2)), .int x277, .ref q1]) (by rw [lw_xs (xs := xs) h283.1 hi0.1]) ?_
  clear h283 h282 h280
  refine lv_topi (fun x284 s285 => ?_)
  refine lv_aload_n hx hb dL_law_276 rfl (lv_at hl 4 rfl) ?_
  refine lv_iload hx hb dL_law_277 (lv_at hl 0 rfl) ?_
  refine ty_iconst hx hb (3) dL_law_279 (by decide) (fun x286 h287 => ?_)
  refine ty_iadd hx hb dL_law_280 (fun x288 h289 => ?_)
  have h290 := lw_ix (k := 3) h287 h289 hi0 hiL hLN (by decide)
  refine va_sld hx hb hXs hbl hbA hS (i := x288) (ty_ix h290.2) dL_law_281 ?_
  refine W.eq (g2 := F0 m 282 ls [.int (xs (i.toInt.toNat + 3)), .int x284, .int x277, .ref q1]) (by rw [lw_xs (xs := xs) h290.1 hi0.1]) ?_
  clear h290 h289 h287
  refine lv_topi (fun x291 s292 => ?_)
  refine lv_aload_n hx hb dL_law_282 rfl (lv_at hl 4 rfl) ?_
  refine lv_iload hx hb dL_law_283 (lv_at hl 0 rfl) ?_
  refine ty_iconst hx hb (4) dL_law_285 (by decide) (fun x293 h294 => ?_)
  refine ty_iadd hx hb dL_law_286 (fun x295 h296 => ?_)
  have h297 := lw_ix (k := 4) h294 h296 hi0 hiL hLN (by decide)
  refine va_sld hx hb hXs hbl hbA hS (i := x295) (ty_ix h297.2) dL_law_287 ?_
  refine W.eq (g2 := F0 m 288 ls [.int (xs (i.toInt.toNat + 4)), .int x291, .int x284, .int x277, .ref q1]) (by rw [lw_xs (xs := xs) h297.1 hi0.1]) ?_
  clear h297 h296 h294
  refine lv_topi (fun x298 s299 => ?_)
  refine lv_aload_n hx hb dL_law_288 rfl (lv_at hl 4 rfl) ?_
  refine lv_iload hx hb dL_law_289 (lv_at hl 0 rfl) ?_
  refine ty_iconst hx hb (5) dL_law_291 (by decide) (fun x300 h301 => ?_)
  refine ty_iadd hx hb dL_law_292 (fun x302 h303 => ?_)
  have h304 := lw_ix (k := 5) h301 h303 hi0 hiL hLN (by decide)
  refine va_sld hx hb hXs hbl hbA hS (i := x302) (ty_ix h304.2) dL_law_293 ?_
  refine W.eq (g2 := F0 m 294 ls [.int (xs (i.toInt.toNat + 5)), .int x298, .int x291, .int x284, .int x277, .ref q1]) (by rw [lw_xs (xs := xs) h304.1 hi0.1]) ?_
  clear h304 h303 h301
  refine lv_topi (fun x305 s306 => ?_)
  refine cI (va_runV (C := RX8) (As := [.int x277, .int x284, .int x291, .int x298, .int x305]) (rest := []) ⟨hx, hb, hml, hown, hA⟩ (k_X8_feed l dC dI dA sz X Γ hU g q1 t_q1 x277 x284 x291 x298 x305   (by first | with_reducible assumption | omega)) ⟨callB_of 5 hA (al_A wd_2_76) rfl rfl rfl (hA _ wd_1_1) (hA _ wd_2_73) (by decide +kernel) ⟨Nat.le_of_ble_eq_true rfl, Nat.le_of_ble_eq_true rfl⟩, hA _ wd_2_74, hA _ wd_2_75⟩ ⟨bl, recv_X8 hE hG t_q1, fun U hU9 hW9 => ⟨rfl, by rw [hU9]; exact hG, hE.go hS hU9 hW9⟩⟩ rfl rfl hl.1 rfl (lv_room (Nat.le_of_ble_eq_true rfl)) dL_law_294 ⟨(Nat.le_trans (show kc + 0 ≤ 300000 by omega) (Nat.le_of_ble_eq_true rfl)), (Nat.le_trans (show ks + 0 ≤ 300000 by omega) (Nat.le_of_ble_eq_true rfl))⟩) hS (fun x309 u307 H locs w308 hG hS => ?_)
  obtain ⟨hf310, w308⟩ := w308
  have hj311 : IJ u307 := IJ_cg (hf310 126 0 (by decide) (by decide)) (fun j => hf310 132 j (by decide) (by decide)) (fun j => hf310 134 j (by decide) (by decide)) (by (repeat (first | with_reducible assumption | (refine IJ_c (by decide) (by decide) (by decide) ?_) | (refine IJ_take (by omega) (by omega) ?_) | (refine IJ_how (by omega) ?_) | (refine IJ_by (by omega) ?_))))
  replace w308 := or2 w308.1 w308.2 (by omega)
  rcases w308 with w308 | w308
  · skip
    refine lv_pop hx hb dL_law_297 rfl ?_
    refine lv_aload_n hx hb dL_law_298 rfl (lv_at hl 2 rfl) ?_
    refine lv_aload_n hx hb dL_law_299 rfl (lv_at hl 4 rfl) ?_
    refine lv_iload hx hb dL_law_300 (lv_at hl 0 rfl) ?_
    refine ty_iconst hx hb (1) dL_law_302 (by decide) (fun x312 h313 => ?_)
    refine ty_iadd hx hb dL_law_303 (fun x314 h315 => ?_)
    have h316 := lw_ix (k := 1) h313 h315 hi0 hiL hLN (by decide)
    refine va_sld hx hb hXs hbl hbA hS (i := x314) (ty_ix h316.2) dL_law_304 ?_
    refine W.eq (g2 := F0 m 305 ls [.int (xs (i.toInt.toNat + 1)), .ref q12]) (by rw [lw_xs (xs := xs) h316.1 hi0.1]) ?_
    clear h316 h315 h313
    refine W.eq (g2 := F0 m 305 ls [.int x277, .ref q12]) (by rw [s278]) ?_
    refine lv_aload_n hx hb dL_law_305 rfl (lv_at hl 4 rfl) ?_
    refine lv_iload hx hb dL_law_306 (lv_at hl 0 rfl) ?_
    refine ty_iconst hx hb (2) dL_law_308 (by decide) (fun x317 h318 => ?_)
    refine ty_iadd hx hb dL_law_309 (fun x319 h320 => ?_)
    have h321 := lw_ix (k := 2) h318 h320 hi0 hiL hLN (by decide)
    refine va_sld hx hb hXs hbl hbA hS (i := x319) (ty_ix h321.2) dL_law_310 ?_
    refine W.eq (g2 := F0 m 311 ls [.int (xs (i.toInt.toNat + 2)), .int x277, .ref q12]) (by rw [lw_xs (xs := xs) h321.1 hi0.1]) ?_
    clear h321 h320 h318
    refine W.eq (g2 := F0 m 311 ls [.int x284, .int x277, .ref q12]) (by rw [s285]) ?_
    refine lv_aload_n hx hb dL_law_311 rfl (lv_at hl 4 rfl) ?_
    refine lv_iload hx hb dL_law_312 (lv_at hl 0 rfl) ?_
    refine ty_iconst hx hb (3) dL_law_314 (by decide) (fun x322 h323 => ?_)
    refine ty_iadd hx hb dL_law_315 (fun x324 h325 => ?_)
    have h326 := lw_ix (k := 3) h323 h325 hi0 hiL hLN (by decide)
    refine va_sld hx hb hXs hbl hbA hS (i := x324) (ty_ix h326.2) dL_law_316 ?_
    refine W.eq (g2 := F0 m 317 ls [.int (xs (i.toInt.toNat + 3)), .int x284, .int x277, .ref q12]) (by rw [lw_xs (xs := xs) h326.1 hi0.1]) ?_
    clear h326 h325 h323
    refine W.eq (g2 := F0 m 317 ls [.int x291, .int x284, .int x277, .ref q12]) (by rw [s292]) ?_
    refine lv_aload_n hx hb dL_law_317 rfl (lv_at hl 4 rfl) ?_
    refine lv_iload hx hb dL_law_318 (lv_at hl 0 rfl) ?_
    refine ty_iconst hx hb (4) dL_law_320 (by decide) (fun x327 h328 => ?_)
    refine ty_iadd hx hb dL_law_321 (fun x329 h330 => ?_)
    have h331 := lw_ix (k := 4) h328 h330 hi0 hiL hLN (by decide)
    refine va_sld hx hb hXs hbl hbA hS (i := x329) (ty_ix h331.2) dL_law_322 ?_
    refine W.eq (g2 := F0 m 323 ls [.int (xs (i.toInt.toNat + 4)), .int x291, .int x284, .int x277, .ref q12]) (by rw [lw_xs (xs := xs) h331.1 hi0.1]) ?_
    clear h331 h330 h328
    refine W.eq (g2 := F0 m 323 ls [.int x298, .int x291, .int x284, .int x277, .ref q12]) (by rw [s299]) ?_
    refine lv_aload_n hx hb dL_law_323 rfl (lv_at hl 4 rfl) ?_
    refine lv_iload hx hb dL_law_324 (lv_at hl 0 rfl) ?_
    refine ty_iconst hx hb (5) dL_law_326 (by decide) (fun x332 h333 => ?_)
    refine ty_iadd hx hb dL_law_327 (fun x334 h335 => ?_)
    have h336 := lw_ix (k := 5) h333 h335 hi0 hiL hLN (by decide)
    refine va_sld hx hb hXs hbl hbA hS (i := x334) (ty_ix h336.2) dL_law_328 ?_
    refine W.eq (g2 := F0 m 329 ls [.int (xs (i.toInt.toNat + 5)), .int x298, .int x291, .int x284, .int x277, .ref q12]) (by rw [lw_xs (xs := xs) h336.1 hi0.1]) ?_
    clear h336 h335 h333
    refine W.eq (g2 := F0 m 329 ls [.int x305, .int x298, .int x291, .int x284, .int x277, .ref q12]) (by rw [s306]) ?_
    have hk337 : u307 114 0 = g 114 0 := hf310 114 0 (by decide) (by decide)
    refine cI (va_runV (C := RX9) (As := [.int x277, .int x284, .int x291, .int x298, .int x305]) (rest := []) ⟨hx, hb, hml, hown, hA⟩ (k_X9_feed l dC dI dA sz X Γ hU u307 q12 t_q12 x277 x284 x291 x298 x305   (by first | with_reducible assumption | omega)) ⟨callB_of 5 hA (al_A wd_5_62) rfl rfl rfl (hA _ wd_1_7) (hA _ wd_5_59) (by decide +kernel) ⟨Nat.le_of_ble_eq_true rfl, Nat.le_of_ble_eq_true rfl⟩, hA _ wd_5_60, hA _ wd_5_61⟩ ⟨bl, recv_X9 hE hG t_q12, fun U hU9 hW9 => ⟨rfl, by rw [hU9]; exact hG, hE.go hS hU9 hW9⟩⟩ rfl rfl hl.1 rfl (lv_room (Nat.le_of_ble_eq_true rfl)) dL_law_329 ⟨(Nat.le_trans (show kc + 0 ≤ 300000 by omega) (Nat.le_of_ble_eq_true rfl)), (Nat.le_trans (show ks + 0 ≤ 300000 by omega) (Nat.le_of_ble_eq_true rfl))⟩) hS (fun x340 u338 H locs w339 hG hS => ?_)
    obtain ⟨hf341, w339⟩ := w339
    have hj342 : IJ u338 := IJ_cg (hf341 126 0 (by decide) (by decide) (by decide)) (fun j => hf341 132 j (by decide) (by decide) (by decide)) (fun j => hf341 134 j (by decide) (by decide) (by decide)) (by (repeat (first | with_reducible assumption | (refine IJ_c (by decide) (by decide) (by decide) ?_) | (refine IJ_take (by omega) (by omega) ?_) | (refine IJ_how (by omega) ?_) | (refine IJ_by (by omega) ?_))))
    replace w339 := or2 w339.1 w339.2 (by omega)
    rcases w339 with w339 | w339
    · skip
      refine lv_pop hx hb dL_law_332 rfl ?_
      refine lv_goto (tgt := 1047) hx hb dL_law_333 (by decide) ?_
      obtain ⟨x343, h344⟩ : ∃ y : Int32, y = i + Int32.ofInt (6) := ⟨_, rfl⟩
      try have h345 : x343.toInt = i.toInt + (6) := ty_inc h344 (by decide) (by omega) (by omega)
      refine lv_iinc (v := x343) (lv' := [(4, .int x343), (3, .ref q25), (2, .ref q12), (1, .ref q1), (0, .ref b)]) hx hb dL_law_1047 hl (k := 0) rfl h344.symm (by decide) rfl (fun ls hl => ?_)
      refine lv_goto (tgt := 23) hx hb dL_law_1050 (by decide) ?_
      have hk346 : u338 4 0 = u307 4 0 := hf341 4 0 (by decide) (by decide) (by decide)
      have hk347 : u307 4 0 = g 4 0 := hf310 4 0 (by decide) (by decide)
      have hk348 : u338 6 0 = u307 6 0 := hf341 6 0 (by decide) (by decide) (by decide)
      exact ih x343 Γ u338 (kc) (ks) _ _ ls (by omega) (by omega) (by rw [hf341 1 0 (by decide) (by decide) (by decide), hf310 1 0 (by decide) (by decide), hf341 33 0 (by decide) (by decide) (by decide), hf310 33 0 (by decide) (by decide)]; exact hi1) (by rw [hf341 2 0 (by decide) (by decide) (by decide), hf310 2 0 (by decide) (by decide), hf341 34 0 (by decide) (by decide) (by decide), hf310 34 0 (by decide) (by decide)]; exact hi2) (by rw [hf341 3 0 (by decide) (by decide) (by decide), hf310 3 0 (by decide) (by decide), hf341 35 0 (by decide) (by decide) (by decide), hf310 35 0 (by decide) (by decide)]; exact hi3) (by rw [hf341 5 0 (by decide) (by decide) (by decide), hf310 5 0 (by decide) (by decide)]; exact hi4) (by omega) (by omega) (by rw [hf341 7 0 (by decide) (by decide) (by decide), hf310 7 0 (by decide) (by decide), hf341 36 0 (by decide) (by decide) (by decide), hf310 36 0 (by decide) (by decide)]; exact hi7) (by rw [hf341 101 0 (by decide) (by decide) (by decide), hf310 101 0 (by decide) (by decide), hf341 1 0 (by decide) (by decide) (by decide), hf310 1 0 (by decide) (by decide)]; exact hi8) (by rw [hf341 104 0 (by decide) (by decide) (by decide), hf310 104 0 (by decide) (by decide), hf341 2 0 (by decide) (by decide) (by decide), hf310 2 0 (by decide) (by decide)]; exact hi9) (by rw [hf341 112 0 (by decide) (by decide) (by decide), hf310 112 0 (by decide) (by decide), hf341 5 0 (by decide) (by decide) (by decide), hf310 5 0 (by decide) (by decide)]; exact hi10) (by rw [hf341 111 0 (by decide) (by decide) (by decide), hf310 111 0 (by decide) (by decide), hf341 4 0 (by decide) (by decide) (by decide), hf310 4 0 (by decide) (by decide)]; exact hi11) (by omega) (by rw [hf341 126 0 (by decide) (by decide) (by decide), hf310 126 0 (by decide) (by decide)]; exact hi13) (by rw [hf341 122 0 (by decide) (by decide) (by decide), hf310 122 0 (by decide) (by decide)]; exact hi14) (by (repeat (first | with_reducible assumption | (refine IJ_c (by decide) (by decide) (by decide) ?_) | (refine IJ_take (by omega) (by omega) ?_) | (refine IJ_how (by omega) ?_) | (refine IJ_by (by omega) ?_)))) hU t_q1 t_q12 t_q25 (by omega) (by omega) hG hS (lv_sub hl [0, 1, 2, 3, 4] rfl)
    · exfalso; omega
  · skip
    refine lv_pop hx hb dL_law_297 rfl ?_
    refine lv_aload_n hx hb dL_law_298 rfl (lv_at hl 2 rfl) ?_
    refine lv_aload_n hx hb dL_law_299 rfl (lv_at hl 4 rfl) ?_
    refine lv_iload hx hb dL_law_300 (lv_at hl 0 rfl) ?_
    refine ty_iconst hx hb (1) dL_law_302 (by decide) (fun x349 h350 => ?_)
    refine ty_iadd hx hb dL_law_303 (fun x351 h352 => ?_)
    have h353 := lw_ix (k := 1) h350 h352 hi0 hiL hLN (by decide)
    refine va_sld hx hb hXs hbl hbA hS (i := x351) (ty_ix h353.2) dL_law_304 ?_
    refine W.eq (g2 := F0 m 305 ls [.int (xs (i.toInt.toNat + 1)), .ref q12]) (by rw [lw_xs (xs := xs) h353.1 hi0.1]) ?_
    clear h353 h352 h350
    refine W.eq (g2 := F0 m 305 ls [.int x277, .ref q12]) (by rw [s278]) ?_
    refine lv_aload_n hx hb dL_law_305 rfl (lv_at hl 4 rfl) ?_
    refine lv_iload hx hb dL_law_306 (lv_at hl 0 rfl) ?_
    refine ty_iconst hx hb (2) dL_law_308 (by decide) (fun x354 h355 => ?_)
    refine ty_iadd hx hb dL_law_309 (fun x356 h357 => ?_)
    have h358 := lw_ix (k := 2) h355 h357 hi0 hiL hLN (by decide)
    refine va_sld hx hb hXs hbl hbA hS (i := x356) (ty_ix h358.2) dL_law_310 ?_
    refine W.eq (g2 := F0 m 311 ls [.int (xs (i.toInt.toNat + 2)), .int x277, .ref q12]) (by rw [lw_xs (xs := xs) h358.1 hi0.1]) ?_
    clear h358 h357 h355
    refine W.eq (g2 := F0 m 311 ls [.int x284, .int x277, .ref q12]) (by rw [s285]) ?_
    refine lv_aload_n hx hb dL_law_311 rfl (lv_at hl 4 rfl) ?_
    refine lv_iload hx hb dL_law_312 (lv_at hl 0 rfl) ?_
    refine ty_iconst hx hb (3) dL_law_314 (by decide) (fun x359 h360 => ?_)
    refine ty_iadd hx hb dL_law_315 (fun x361 h362 => ?_)
    have h363 := lw_ix (k := 3) h360 h362 hi0 hiL hLN (by decide)
    refine va_sld hx hb hXs hbl hbA hS (i := x361) (ty_ix h363.2) dL_law_316 ?_
    refine W.eq (g2 := F0 m 317 ls [.int (xs (i.toInt.toNat + 3)), .int x284, .int x277, .ref q12]) (by rw [lw_xs (xs := xs) h363.1 hi0.1]) ?_
    clear h363 h362 h360
    refine W.eq (g2 := F0 m 317 ls [.int x291, .int x284, .int x277, .ref q12]) (by rw [s292]) ?_
    refine lv_aload_n hx hb dL_law_317 rfl (lv_at hl 4 rfl) ?_
    refine lv_iload hx hb dL_law_318 (lv_at hl 0 rfl) ?_
    refine ty_iconst hx hb (4) dL_law_320 (by decide) (fun x364 h365 => ?_)
    refine ty_iadd hx hb dL_law_321 (fun x366 h367 => ?_)
    have h368 := lw_ix (k := 4) h365 h367 hi0 hiL hLN (by decide)
    refine va_sld hx hb hXs hbl hbA hS (i := x366) (ty_ix h368.2) dL_law_322 ?_
    refine W.eq (g2 := F0 m 323 ls [.int (xs (i.toInt.toNat + 4)), .int x291, .int x284, .int x277, .ref q12]) (by rw [lw_xs (xs := xs) h368.1 hi0.1]) ?_
    clear h368 h367 h365
    refine W.eq (g2 := F0 m 323 ls [.int x298, .int x291, .int x284, .int x277, .ref q12]) (by rw [s299]) ?_
    refine lv_aload_n hx hb dL_law_323 rfl (lv_at hl 4 rfl) ?_
    refine lv_iload hx hb dL_law_324 (lv_at hl 0 rfl) ?_
    refine ty_iconst hx hb (5) dL_law_326 (by decide) (fun x369 h370 => ?_)
    refine ty_iadd hx hb dL_law_327 (fun x371 h372 => ?_)
    have h373 := lw_ix (k := 5) h370 h372 hi0 hiL hLN (by decide)
    refine va_sld hx hb hXs hbl hbA hS (i := x371) (ty_ix h373.2) dL_law_328 ?_
    refine W.eq (g2 := F0 m 329 ls [.int (xs (i.toInt.toNat + 5)), .int x298, .int x291, .int x284, .int x277, .ref q12]) (by rw [lw_xs (xs := xs) h373.1 hi0.1]) ?_
    clear h373 h372 h370
    refine W.eq (g2 := F0 m 329 ls [.int x305, .int x298, .int x291, .int x284, .int x277, .ref q12]) (by rw [s306]) ?_
    have hk374 : u307 114 0 = g 114 0 := hf310 114 0 (by decide) (by decide)
    refine cI (va_runV (C := RX9) (As := [.int x277, .int x284, .int x291, .int x298, .int x305]) (rest := []) ⟨hx, hb, hml, hown, hA⟩ (k_X9_feed l dC dI dA sz X Γ hU u307 q12 t_q12 x277 x284 x291 x298 x305   (by first | with_reducible assumption | omega)) ⟨callB_of 5 hA (al_A wd_5_62) rfl rfl rfl (hA _ wd_1_7) (hA _ wd_5_59) (by decide +kernel) ⟨Nat.le_of_ble_eq_true rfl, Nat.le_of_ble_eq_true rfl⟩, hA _ wd_5_60, hA _ wd_5_61⟩ ⟨bl, recv_X9 hE hG t_q12, fun U hU9 hW9 => ⟨rfl, by rw [hU9]; exact hG, hE.go hS hU9 hW9⟩⟩ rfl rfl hl.1 rfl (lv_room (Nat.le_of_ble_eq_true rfl)) dL_law_329 ⟨(Nat.le_trans (show kc + 0 ≤ 300000 by omega) (Nat.le_of_ble_eq_true rfl)), (Nat.le_trans (show ks + 0 ≤ 300000 by omega) (Nat.le_of_ble_eq_true rfl))⟩) hS (fun x377 u375 H locs w376 hG hS => ?_)
    obtain ⟨hf378, w376⟩ := w376
    have hj379 : IJ u375 := IJ_cg (hf378 126 0 (by decide) (by decide) (by decide)) (fun j => hf378 132 j (by decide) (by decide) (by decide)) (fun j => hf378 134 j (by decide) (by decide) (by decide)) (by (repeat (first | with_reducible assumption | (refine IJ_c (by decide) (by decide) (by decide) ?_) | (refine IJ_take (by omega) (by omega) ?_) | (refine IJ_how (by omega) ?_) | (refine IJ_by (by omega) ?_))))
    replace w376 := or2 w376.1 w376.2 (by omega)
    rcases w376 with w376 | w376
    · exfalso; omega
    · skip
      refine lv_pop hx hb dL_law_332 rfl ?_
      refine lv_goto (tgt := 1047) hx hb dL_law_333 (by decide) ?_
      obtain ⟨x380, h381⟩ : ∃ y : Int32, y = i + Int32.ofInt (6) := ⟨_, rfl⟩
      try have h382 : x380.toInt = i.toInt + (6) := ty_inc h381 (by decide) (by omega) (by omega)
      refine lv_iinc (v := x380) (lv' := [(4, .int x380), (3, .ref q25), (2, .ref q12), (1, .ref q1), (0, .ref b)]) hx hb dL_law_1047 hl (k := 0) rfl h381.symm (by decide) rfl (fun ls hl => ?_)
      refine lv_goto (tgt := 23) hx hb dL_law_1050 (by decide) ?_
      have hk383 : u375 4 0 = u307 4 0 := hf378 4 0 (by decide) (by decide) (by decide)
      have hk384 : u307 4 0 = g 4 0 := hf310 4 0 (by decide) (by decide)
      have hk385 : u375 6 0 = u307 6 0 := hf378 6 0 (by decide) (by decide) (by decide)
      exact ih x380 Γ u375 (kc) (ks) _ _ ls (by omega) (by omega) (by rw [hf378 1 0 (by decide) (by decide) (by decide), hf310 1 0 (by decide) (by decide), hf378 33 0 (by decide) (by decide) (by decide), hf310 33 0 (by decide) (by decide)]; exact hi1) (by rw [hf378 2 0 (by decide) (by decide) (by decide), hf310 2 0 (by decide) (by decide), hf378 34 0 (by decide) (by decide) (by decide), hf310 34 0 (by decide) (by decide)]; exact hi2) (by rw [hf378 3 0 (by decide) (by decide) (by decide), hf310 3 0 (by decide) (by decide), hf378 35 0 (by decide) (by decide) (by decide), hf310 35 0 (by decide) (by decide)]; exact hi3) (by rw [hf378 5 0 (by decide) (by decide) (by decide), hf310 5 0 (by decide) (by decide)]; exact hi4) (by omega) (by omega) (by rw [hf378 7 0 (by decide) (by decide) (by decide), hf310 7 0 (by decide) (by decide), hf378 36 0 (by decide) (by decide) (by decide), hf310 36 0 (by decide) (by decide)]; exact hi7) (by rw [hf378 101 0 (by decide) (by decide) (by decide), hf310 101 0 (by decide) (by decide), hf378 1 0 (by decide) (by decide) (by decide), hf310 1 0 (by decide) (by decide)]; exact hi8) (by rw [hf378 104 0 (by decide) (by decide) (by decide), hf310 104 0 (by decide) (by decide), hf378 2 0 (by decide) (by decide) (by decide), hf310 2 0 (by decide) (by decide)]; exact hi9) (by rw [hf378 112 0 (by decide) (by decide) (by decide), hf310 112 0 (by decide) (by decide), hf378 5 0 (by decide) (by decide) (by decide), hf310 5 0 (by decide) (by decide)]; exact hi10) (by rw [hf378 111 0 (by decide) (by decide) (by decide), hf310 111 0 (by decide) (by decide), hf378 4 0 (by decide) (by decide) (by decide), hf310 4 0 (by decide) (by decide)]; exact hi11) (by omega) (by rw [hf378 126 0 (by decide) (by decide) (by decide), hf310 126 0 (by decide) (by decide)]; exact hi13) (by rw [hf378 122 0 (by decide) (by decide) (by decide), hf310 122 0 (by decide) (by decide)]; exact hi14) (by (repeat (first | with_reducible assumption | (refine IJ_c (by decide) (by decide) (by decide) ?_) | (refine IJ_take (by omega) (by omega) ?_) | (refine IJ_how (by omega) ?_) | (refine IJ_by (by omega) ?_)))) hU t_q1 t_q12 t_q25 (by omega) (by omega) hG hS (lv_sub hl [0, 1, 2, 3, 4] rfl)
set_option maxHeartbeats 40000000 in
set_option maxRecDepth 100000 in
/-- the law's case 4 -/
theorem law_c4 {p : Program} {e : Env} {s : State} {m : MethodId} {below : List Frame} {meth : Method} {c : Code} (l : Launch) (hl9 : l.stackTraces = false) {b L : Nat} {xs : Nat → Int32} (hLN : L ≤ 3072) (hx : p.tables.exec = Jvm.exec) (hb : c.code = code) (hr : meth.sig.returnType = ret) (hml : c.maxLocals = 7) (hown : s.vm.findClass R_law = some m.cls) (hA : ∀ w ∈ AL, w.before #[Value.ref b] s = true) (hXs : va_X b L xs s s.heap) (hbl : b < s.heap.size) (hlocks : meth.locks = false) {dC : Nat → ClassId} {dI : Nat → Nat → Nat} {dA : Nat → ClassId} {sz : Nat} (hE : en dC dI dA sz s) (hsz : sz = s.heap.size) (hbA : ¬ ty_A sz b) (X : va_W) (q1 q12 q25 : Nat) (n : Nat) (ih : LJ p l e s m below meth c b dC dI dA sz X q1 q12 q25 n) (i : Int32) (Γ : ty_G) (g : gh) (kc ks : Nat) (H : Heap) (locs : List Loc) (ls : Array Slot) (hm : (3073 - i.toInt : Int) < (n + 1 : Nat)) (hi0 : 0 ≤ i.toInt ∧ i.toInt ≤ 3072) (hi1 : g 1 0 = g 33 0 ∧ 0 ≤ g 1 0 ∧ g 1 0 ≤ 6) (hi2 : g 2 0 = g 34 0 ∧ 0 ≤ g 2 0 ∧ g 2 0 ≤ 10) (hi3 : g 3 0 = g 35 0 ∧ 0 ≤ g 3 0 ∧ g 3 0 ≤ 200) (hi4 : 0 ≤ g 5 0 ∧ g 5 0 ≤ 52) (hi5 : 0 ≤ g 4 0 ∧ g 4 0 ≤ i.toInt) (hi6 : 0 ≤ g 6 0 ∧ g 6 0 ≤ 300) (hi7 : 0 ≤ g 7 0 ∧ g 7 0 ≤ g 36 0 ∧ g 36 0 ≤ 9) (hi8 : g 101 0 = g 1 0) (hi9 : g 104 0 = g 2 0) (hi10 : g 112 0 = g 5 0) (hi11 : g 111 0 = g 4 0) (hi12 : g 114 0 = g 6 0) (hi13 : 0 ≤ g 126 0 ∧ g 126 0 ≤ 200) (hi14 : 0 ≤ g 122 0 ∧ g 122 0 ≤ 30) (hIJ : IJ g) (hU : Un Γ) (t_q1 : ty Γ q1 1) (t_q12 : ty Γ q12 30) (t_q25 : ty Γ q25 25) (hkc : kc ≤ 300 + i.toInt.toNat) (hks : ks ≤ 30000 + 28 * i.toInt.toNat) (hG : ty_ok (dC, dI) vwCl Γ (TP dA Γ g) sz X H) (hS : va_S (ty_A sz) s.heap H locs) (hl : lv_has ls 7 [(4, .int i), (3, .ref q25), (2, .ref q12), (1, .ref q1), (0, .ref b)]) (hiL : i.toInt + 6 ≤ (L : Int)) : W p l e room_1 s m #[Value.ref b] below meth c H locs kc ks (lw_Z below #[Value.ref b] s) (F0 m 336 ls []) := by
  refine lv_aload_n hx hb dL_law_336 rfl (lv_at hl 3 rfl) ?_
  refine lv_aload_n hx hb dL_law_337 rfl (lv_at hl 4 rfl) ?_
  refine lv_iload hx hb dL_law_338 (lv_at hl 0 rfl) ?_
  refine ty_iconst hx hb (1) dL_law_340 (by decide) (fun x386 h387 => ?_)
  refine ty_iadd hx hb dL_law_341 (fun x388 h389 => ?_)
  have h390 := lw_ix (k := 1) h387 h389 hi0 hiL hLN (by decide)
  refine va_sld hx hb hXs hbl hbA hS (i := x388) (ty_ix h390.2) dL_law_342 ?_
  refine W.eq (g2 := F0 m 343 ls [.int (xs (i.toInt.toNat + 1)), .ref q1]) (by rw [lw_xs (xs := xs) h390.1 hi0.1]) ?_
  clear h390 h389 h387
  refine lv_topi (fun x391 s392 => ?_)
  refine cI (va_runV (C := RX8) (As := [.int x391]) (rest := []) ⟨hx, hb, hml, hown, hA⟩ (k_X8_end l dC dI dA sz X Γ hU g q1 t_q1 x391   (by first | with_reducible assumption | omega)) ⟨callB_of 1 hA (al_A wd_2_84) rfl rfl rfl (hA _ wd_1_1) (hA _ wd_2_81) (by decide +kernel) ⟨Nat.le_of_ble_eq_true rfl, Nat.le_of_ble_eq_true rfl⟩, hA _ wd_2_82, hA _ wd_2_83⟩ ⟨bl, recv_X8 hE hG t_q1, fun U hU9 hW9 => ⟨rfl, by rw [hU9]; exact hG, hE.go hS hU9 hW9⟩⟩ rfl rfl hl.1 rfl (lv_room (Nat.le_of_ble_eq_true rfl)) dL_law_343 ⟨(Nat.le_trans (show kc + 0 ≤ 300000 by omega) (Nat.le_of_ble_eq_true rfl)), (Nat.le_trans (show ks + 0 ≤ 300000 by omega) (Nat.le_of_ble_eq_true rfl))⟩) hS (fun x395 u393 H locs w394 hG hS => ?_)
  obtain ⟨hf396, w394⟩ := w394
  have hj397 : IJ u393 := IJ_cg (hf396 126 0 (by decide)) (fun j => hf396 132 j (by decide)) (fun j => hf396 134 j (by decide)) (by (repeat (first | with_reducible assumption | (refine IJ_c (by decide) (by decide) (by decide) ?_) | (refine IJ_take (by omega) (by omega) ?_) | (refine IJ_how (by omega) ?_) | (refine IJ_by (by omega) ?_))))
  replace w394 := or2 w394.1 w394.2 (by exact Classical.em _)
  rcases w394 with w394 | w394
  · skip
    refine lv_pop hx hb dL_law_346 rfl ?_
    refine lv_aload_n hx hb dL_law_347 rfl (lv_at hl 2 rfl) ?_
    refine lv_aload_n hx hb dL_law_348 rfl (lv_at hl 4 rfl) ?_
    refine lv_iload hx hb dL_law_349 (lv_at hl 0 rfl) ?_
    refine ty_iconst hx hb (1) dL_law_351 (by decide) (fun x398 h399 => ?_)
    refine ty_iadd hx hb dL_law_352 (fun x400 h401 => ?_)
    have h402 := lw_ix (k := 1) h399 h401 hi0 hiL hLN (by decide)
    refine va_sld hx hb hXs hbl hbA hS (i := x400) (ty_ix h402.2) dL_law_353 ?_
    refine W.eq (g2 := F0 m 354 ls [.int (xs (i.toInt.toNat + 1)), .ref q12]) (by rw [lw_xs (xs := xs) h402.1 hi0.1]) ?_
    clear h402 h401 h399
    refine W.eq (g2 := F0 m 354 ls [.int x391, .ref q12]) (by rw [s392]) ?_
    have hk403 : u393 114 0 = g 114 0 := hf396 114 0 (by decide)
    refine cI (va_runV (C := RX9) (As := [.int x391]) (rest := []) ⟨hx, hb, hml, hown, hA⟩ (k_X9_end l dC dI dA sz X Γ hU u393 q12 t_q12 x391   (by first | with_reducible assumption | omega)) ⟨callB_of 1 hA (al_A wd_5_66) rfl rfl rfl (hA _ wd_1_7) (hA _ wd_5_63) (by decide +kernel) ⟨Nat.le_of_ble_eq_true rfl, Nat.le_of_ble_eq_true rfl⟩, hA _ wd_5_64, hA _ wd_5_65⟩ ⟨bl, recv_X9 hE hG t_q12, fun U hU9 hW9 => ⟨rfl, by rw [hU9]; exact hG, hE.go hS hU9 hW9⟩⟩ rfl rfl hl.1 rfl (lv_room (Nat.le_of_ble_eq_true rfl)) dL_law_354 ⟨(Nat.le_trans (show kc + 0 ≤ 300000 by omega) (Nat.le_of_ble_eq_true rfl)), (Nat.le_trans (show ks + 0 ≤ 300000 by omega) (Nat.le_of_ble_eq_true rfl))⟩) hS (fun x406 u404 H locs w405 hG hS => ?_)
    obtain ⟨hf407, w405⟩ := w405
    have hj408 : IJ u404 := IJ_cg (hf407 126 0 (by decide) (by decide)) (fun j => hf407 132 j (by decide) (by decide)) (fun j => hf407 134 j (by decide) (by decide)) (by (repeat (first | with_reducible assumption | (refine IJ_c (by decide) (by decide) (by decide) ?_) | (refine IJ_take (by omega) (by omega) ?_) | (refine IJ_how (by omega) ?_) | (refine IJ_by (by omega) ?_))))
    replace w405 := or2 w405.1 w405.2 (by exact Classical.em _)
    rcases w405 with w405 | w405
    · skip
      refine lv_pop hx hb dL_law_357 rfl ?_
      refine lv_goto (tgt := 1047) hx hb dL_law_358 (by decide) ?_
      obtain ⟨x409, h410⟩ : ∃ y : Int32, y = i + Int32.ofInt (6) := ⟨_, rfl⟩
      try have h411 : x409.toInt = i.toInt + (6) := ty_inc h410 (by decide) (by omega) (by omega)
      refine lv_iinc (v := x409) (lv' := [(4, .int x409), (3, .ref q25), (2, .ref q12), (1, .ref q1), (0, .ref b)]) hx hb dL_law_1047 hl (k := 0) rfl h410.symm (by decide) rfl (fun ls hl => ?_)
      refine lv_goto (tgt := 23) hx hb dL_law_1050 (by decide) ?_
      have hk412 : u404 4 0 = u393 4 0 := hf407 4 0 (by decide) (by decide)
      have hk413 : u393 4 0 = g 4 0 := hf396 4 0 (by decide)
      have hk414 : u404 6 0 = u393 6 0 := hf407 6 0 (by decide) (by decide)
      exact ih x409 Γ u404 (kc) (ks) _ _ ls (by omega) (by omega) (by rw [hf407 1 0 (by decide) (by decide), hf396 1 0 (by decide), hf407 33 0 (by decide) (by decide), hf396 33 0 (by decide)]; exact hi1) (by rw [hf407 2 0 (by decide) (by decide), hf396 2 0 (by decide), hf407 34 0 (by decide) (by decide), hf396 34 0 (by decide)]; exact hi2) (by rw [hf407 3 0 (by decide) (by decide), hf396 3 0 (by decide), hf407 35 0 (by decide) (by decide), hf396 35 0 (by decide)]; exact hi3) (by rw [hf407 5 0 (by decide) (by decide), hf396 5 0 (by decide)]; exact hi4) (by omega) (by omega) (by rw [hf407 7 0 (by decide) (by decide), hf396 7 0 (by decide), hf407 36 0 (by decide) (by decide), hf396 36 0 (by decide)]; exact hi7) (by rw [hf407 101 0 (by decide) (by decide), hf396 101 0 (by decide), hf407 1 0 (by decide) (by decide), hf396 1 0 (by decide)]; exact hi8) (by rw [hf407 104 0 (by decide) (by decide), hf396 104 0 (by decide), hf407 2 0 (by decide) (by decide), hf396 2 0 (by decide)]; exact hi9) (by rw [hf407 112 0 (by decide) (by decide), hf396 112 0 (by decide), hf407 5 0 (by decide) (by decide), hf396 5 0 (by decide)]; exact hi10) (by rw [hf407 111 0 (by decide) (by decide), hf396 111 0 (by decide), hf407 4 0 (by decide) (by decide), hf396 4 0 (by decide)]; exact hi11) (by omega) (by rw [hf407 126 0 (by decide) (by decide), hf396 126 0 (by decide)]; exact hi13) (by rw [hf407 122 0 (by decide) (by decide), hf396 122 0 (by decide)]; exact hi14) (by (repeat (first | with_reducible assumption | (refine IJ_c (by decide) (by decide) (by decide) ?_) | (refine IJ_take (by omega) (by omega) ?_) | (refine IJ_how (by omega) ?_) | (refine IJ_by (by omega) ?_)))) hU t_q1 t_q12 t_q25 (by omega) (by omega) hG hS (lv_sub hl [0, 1, 2, 3, 4] rfl)
    · exfalso; omega
  · skip
    refine lv_pop hx hb dL_law_346 rfl ?_
    refine lv_aload_n hx hb dL_law_347 rfl (lv_at hl 2 rfl) ?_
    refine lv_aload_n hx hb dL_law_348 rfl (lv_at hl 4 rfl) ?_
    refine lv_iload hx hb dL_law_349 (lv_at hl 0 rfl) ?_
    refine ty_iconst hx hb (1) dL_law_351 (by decide) (fun x415 h416 => ?_)
    refine ty_iadd hx hb dL_law_352 (fun x417 h418 => ?_)
    have h419 := lw_ix (k := 1) h416 h418 hi0 hiL hLN (by decide)
    refine va_sld hx hb hXs hbl hbA hS (i := x417) (ty_ix h419.2) dL_law_353 ?_
    refine W.eq (g2 := F0 m 354 ls [.int (xs (i.toInt.toNat + 1)), .ref q12]) (by rw [lw_xs (xs := xs) h419.1 hi0.1]) ?_
    clear h419 h418 h416
    refine W.eq (g2 := F0 m 354 ls [.int x391, .ref q12]) (by rw [s392]) ?_
    have hk420 : u393 114 0 = g 114 0 := hf396 114 0 (by decide)
    refine cI (va_runV (C := RX9) (As := [.int x391]) (rest := []) ⟨hx, hb, hml, hown, hA⟩ (k_X9_end l dC dI dA sz X Γ hU u393 q12 t_q12 x391   (by first | with_reducible assumption | omega)) ⟨callB_of 1 hA (al_A wd_5_66) rfl rfl rfl (hA _ wd_1_7) (hA _ wd_5_63) (by decide +kernel) ⟨Nat.le_of_ble_eq_true rfl, Nat.le_of_ble_eq_true rfl⟩, hA _ wd_5_64, hA _ wd_5_65⟩ ⟨bl, recv_X9 hE hG t_q12, fun U hU9 hW9 => ⟨rfl, by rw [hU9]; exact hG, hE.go hS hU9 hW9⟩⟩ rfl rfl hl.1 rfl (lv_room (Nat.le_of_ble_eq_true rfl)) dL_law_354 ⟨(Nat.le_trans (show kc + 0 ≤ 300000 by omega) (Nat.le_of_ble_eq_true rfl)), (Nat.le_trans (show ks + 0 ≤ 300000 by omega) (Nat.le_of_ble_eq_true rfl))⟩) hS (fun x423 u421 H locs w422 hG hS => ?_)
    obtain ⟨hf424, w422⟩ := w422
    have hj425 : IJ u421 := IJ_cg (hf424 126 0 (by decide) (by decide)) (fun j => hf424 132 j (by decide) (by decide)) (fun j => hf424 134 j (by decide) (by decide)) (by (repeat (first | with_reducible assumption | (refine IJ_c (by decide) (by decide) (by decide) ?_) | (refine IJ_take (by omega) (by omega) ?_) | (refine IJ_how (by omega) ?_) | (refine IJ_by (by omega) ?_))))
    replace w422 := or2 w422.1 w422.2 (by exact Classical.em _)
    rcases w422 with w422 | w422
    · exfalso; omega
    · skip
      refine lv_pop hx hb dL_law_357 rfl ?_
      refine lv_goto (tgt := 1047) hx hb dL_law_358 (by decide) ?_
      obtain ⟨x426, h427⟩ : ∃ y : Int32, y = i + Int32.ofInt (6) := ⟨_, rfl⟩
      try have h428 : x426.toInt = i.toInt + (6) := ty_inc h427 (by decide) (by omega) (by omega)
      refine lv_iinc (v := x426) (lv' := [(4, .int x426), (3, .ref q25), (2, .ref q12), (1, .ref q1), (0, .ref b)]) hx hb dL_law_1047 hl (k := 0) rfl h427.symm (by decide) rfl (fun ls hl => ?_)
      refine lv_goto (tgt := 23) hx hb dL_law_1050 (by decide) ?_
      have hk429 : u421 4 0 = u393 4 0 := hf424 4 0 (by decide) (by decide)
      have hk430 : u393 4 0 = g 4 0 := hf396 4 0 (by decide)
      have hk431 : u421 6 0 = u393 6 0 := hf424 6 0 (by decide) (by decide)
      exact ih x426 Γ u421 (kc) (ks) _ _ ls (by omega) (by omega) (by rw [hf424 1 0 (by decide) (by decide), hf396 1 0 (by decide), hf424 33 0 (by decide) (by decide), hf396 33 0 (by decide)]; exact hi1) (by rw [hf424 2 0 (by decide) (by decide), hf396 2 0 (by decide), hf424 34 0 (by decide) (by decide), hf396 34 0 (by decide)]; exact hi2) (by rw [hf424 3 0 (by decide) (by decide), hf396 3 0 (by decide), hf424 35 0 (by decide) (by decide), hf396 35 0 (by decide)]; exact hi3) (by rw [hf424 5 0 (by decide) (by decide), hf396 5 0 (by decide)]; exact hi4) (by omega) (by omega) (by rw [hf424 7 0 (by decide) (by decide), hf396 7 0 (by decide), hf424 36 0 (by decide) (by decide), hf396 36 0 (by decide)]; exact hi7) (by rw [hf424 101 0 (by decide) (by decide), hf396 101 0 (by decide), hf424 1 0 (by decide) (by decide), hf396 1 0 (by decide)]; exact hi8) (by rw [hf424 104 0 (by decide) (by decide), hf396 104 0 (by decide), hf424 2 0 (by decide) (by decide), hf396 2 0 (by decide)]; exact hi9) (by rw [hf424 112 0 (by decide) (by decide), hf396 112 0 (by decide), hf424 5 0 (by decide) (by decide), hf396 5 0 (by decide)]; exact hi10) (by rw [hf424 111 0 (by decide) (by decide), hf396 111 0 (by decide), hf424 4 0 (by decide) (by decide), hf396 4 0 (by decide)]; exact hi11) (by omega) (by rw [hf424 126 0 (by decide) (by decide), hf396 126 0 (by decide)]; exact hi13) (by rw [hf424 122 0 (by decide) (by decide), hf396 122 0 (by decide)]; exact hi14) (by (repeat (first | with_reducible assumption | (refine IJ_c (by decide) (by decide) (by decide) ?_) | (refine IJ_take (by omega) (by omega) ?_) | (refine IJ_how (by omega) ?_) | (refine IJ_by (by omega) ?_)))) hU t_q1 t_q12 t_q25 (by omega) (by omega) hG hS (lv_sub hl [0, 1, 2, 3, 4] rfl)
set_option maxHeartbeats 40000000 in
set_option maxRecDepth 100000 in
/-- the law's case 5 -/
theorem law_c5 {p : Program} {e : Env} {s : State} {m : MethodId} {below : List Frame} {meth : Method} {c : Code} (l : Launch) (hl9 : l.stackTraces = false) {b L : Nat} {xs : Nat → Int32} (hLN : L ≤ 3072) (hx : p.tables.exec = Jvm.exec) (hb : c.code = code) (hr : meth.sig.returnType = ret) (hml : c.maxLocals = 7) (hown : s.vm.findClass R_law = some m.cls) (hA : ∀ w ∈ AL, w.before #[Value.ref b] s = true) (hXs : va_X b L xs s s.heap) (hbl : b < s.heap.size) (hlocks : meth.locks = false) {dC : Nat → ClassId} {dI : Nat → Nat → Nat} {dA : Nat → ClassId} {sz : Nat} (hE : en dC dI dA sz s) (hsz : sz = s.heap.size) (hbA : ¬ ty_A sz b) (X : va_W) (q1 q12 q25 : Nat) (n : Nat) (ih : LJ p l e s m below meth c b dC dI dA sz X q1 q12 q25 n) (i : Int32) (Γ : ty_G) (g : gh) (kc ks : Nat) (H : Heap) (locs : List Loc) (ls : Array Slot) (hm : (3073 - i.toInt : Int) < (n + 1 : Nat)) (hi0 : 0 ≤ i.toInt ∧ i.toInt ≤ 3072) (hi1 : g 1 0 = g 33 0 ∧ 0 ≤ g 1 0 ∧ g 1 0 ≤ 6) (hi2 : g 2 0 = g 34 0 ∧ 0 ≤ g 2 0 ∧ g 2 0 ≤ 10) (hi3 : g 3 0 = g 35 0 ∧ 0 ≤ g 3 0 ∧ g 3 0 ≤ 200) (hi4 : 0 ≤ g 5 0 ∧ g 5 0 ≤ 52) (hi5 : 0 ≤ g 4 0 ∧ g 4 0 ≤ i.toInt) (hi6 : 0 ≤ g 6 0 ∧ g 6 0 ≤ 300) (hi7 : 0 ≤ g 7 0 ∧ g 7 0 ≤ g 36 0 ∧ g 36 0 ≤ 9) (hi8 : g 101 0 = g 1 0) (hi9 : g 104 0 = g 2 0) (hi10 : g 112 0 = g 5 0) (hi11 : g 111 0 = g 4 0) (hi12 : g 114 0 = g 6 0) (hi13 : 0 ≤ g 126 0 ∧ g 126 0 ≤ 200) (hi14 : 0 ≤ g 122 0 ∧ g 122 0 ≤ 30) (hIJ : IJ g) (hU : Un Γ) (t_q1 : ty Γ q1 1) (t_q12 : ty Γ q12 30) (t_q25 : ty Γ q25 25) (hkc : kc ≤ 300 + i.toInt.toNat) (hks : ks ≤ 30000 + 28 * i.toInt.toNat) (hG : ty_ok (dC, dI) vwCl Γ (TP dA Γ g) sz X H) (hS : va_S (ty_A sz) s.heap H locs) (hl : lv_has ls 7 [(4, .int i), (3, .ref q25), (2, .ref q12), (1, .ref q1), (0, .ref b)]) (hiL : i.toInt + 6 ≤ (L : Int)) : W p l e room_1 s m #[Value.ref b] below meth c H locs kc ks (lw_Z below #[Value.ref b] s) (F0 m 361 ls []) := by
  refine lv_aload_n hx hb dL_law_361 rfl (lv_at hl 3 rfl) ?_
  refine cI (va_runV (C := RX8) (As := []) (rest := []) ⟨hx, hb, hml, hown, hA⟩ (k_X8_rules l dC dI dA sz X Γ hU g q1 t_q1   (by first | with_reducible assumption | omega)) ⟨callB_of 0 hA (al_A wd_2_88) rfl rfl rfl (hA _ wd_1_1) (hA _ wd_2_85) (by decide +kernel) ⟨Nat.le_of_ble_eq_true rfl, Nat.le_of_ble_eq_true rfl⟩, hA _ wd_2_86, hA _ wd_2_87⟩ ⟨bl, recv_X8 hE hG t_q1, fun U hU9 hW9 => ⟨rfl, by rw [hU9]; exact hG, hE.go hS hU9 hW9⟩⟩ rfl rfl hl.1 rfl (lv_room (Nat.le_of_ble_eq_true rfl)) dL_law_362 ⟨(Nat.le_trans (show kc + 0 ≤ 300000 by omega) (Nat.le_of_ble_eq_true rfl)), (Nat.le_trans (show ks + 0 ≤ 300000 by omega) (Nat.le_of_ble_eq_true rfl))⟩) hS (fun x434 u432 H locs w433 hG hS => ?_)
  obtain ⟨hf435, w433⟩ := w433
  have hj436 : IJ u432 := IJ_cg (hf435 126 0 (by decide) (by decide) (by decide) (by decide) (by decide) (by decide) (by decide) (by decide) (by decide) (by decide) (by decide)) (fun j => hf435 132 j (by decide) (by decide) (by decide) (by decide) (by decide) (by decide) (by decide) (by decide) (by decide) (by decide) (by decide)) (fun j => hf435 134 j (by decide) (by decide) (by decide) (by decide) (by decide) (by decide) (by decide) (by decide) (by decide) (by decide) (by decide)) (by (repeat (first | with_reducible assumption | (refine IJ_c (by decide) (by decide) (by decide) ?_) | (refine IJ_take (by omega) (by omega) ?_) | (refine IJ_how (by omega) ?_) | (refine IJ_by (by omega) ?_))))
  refine lv_pop hx hb dL_law_365 rfl ?_
  refine lv_aload_n hx hb dL_law_366 rfl (lv_at hl 2 rfl) ?_
  have hk437 : u432 114 0 = g 114 0 := hf435 114 0 (by decide) (by decide) (by decide) (by decide) (by decide) (by decide) (by decide) (by decide) (by decide) (by decide) (by decide)
  have hk438 : u432 122 0 = g 122 0 := hf435 122 0 (by decide) (by decide) (by decide) (by decide) (by decide) (by decide) (by decide) (by decide) (by decide) (by decide) (by decide)
  refine cI (va_runV (C := RX9) (As := []) (rest := []) ⟨hx, hb, hml, hown, hA⟩ (k_X9_rules l dC dI dA sz X Γ hU u432 q12 t_q12   (by first | with_reducible assumption | omega)) ⟨callB_of 0 hA (al_A wd_5_70) rfl rfl rfl (hA _ wd_1_7) (hA _ wd_5_67) (by decide +kernel) ⟨Nat.le_of_ble_eq_true rfl, Nat.le_of_ble_eq_true rfl⟩, hA _ wd_5_68, hA _ wd_5_69⟩ ⟨bl, recv_X9 hE hG t_q12, fun U hU9 hW9 => ⟨rfl, by rw [hU9]; exact hG, hE.go hS hU9 hW9⟩⟩ rfl rfl hl.1 rfl (lv_room (Nat.le_of_ble_eq_true rfl)) dL_law_367 ⟨(Nat.le_trans (show kc + 0 ≤ 300000 by omega) (Nat.le_of_ble_eq_true rfl)), (Nat.le_trans (show ks + 0 ≤ 300000 by omega) (Nat.le_of_ble_eq_true rfl))⟩) hS (fun x441 u439 H locs w440 hG hS => ?_)
  obtain ⟨hf442, w440⟩ := w440
  have hj443 : IJ u439 := IJ_cg (hf442 126 0 (by decide) (by decide) (by decide) (by decide) (by decide) (by decide) (by decide) (by decide) (by decide) (by decide) (by decide) (by decide) (by decide)) (fun j => hf442 132 j (by decide) (by decide) (by decide) (by decide) (by decide) (by decide) (by decide) (by decide) (by decide) (by decide) (by decide) (by decide) (by decide)) (fun j => hf442 134 j (by decide) (by decide) (by decide) (by decide) (by decide) (by decide) (by decide) (by decide) (by decide) (by decide) (by decide) (by decide) (by decide)) (by (repeat (first | with_reducible assumption | (refine IJ_c (by decide) (by decide) (by decide) ?_) | (refine IJ_take (by omega) (by omega) ?_) | (refine IJ_how (by omega) ?_) | (refine IJ_by (by omega) ?_))))
  refine lv_pop hx hb dL_law_370 rfl ?_
  refine lv_goto (tgt := 1047) hx hb dL_law_371 (by decide) ?_
  obtain ⟨x444, h445⟩ : ∃ y : Int32, y = i + Int32.ofInt (6) := ⟨_, rfl⟩
  try have h446 : x444.toInt = i.toInt + (6) := ty_inc h445 (by decide) (by omega) (by omega)
  refine lv_iinc (v := x444) (lv' := [(4, .int x444), (3, .ref q25), (2, .ref q12), (1, .ref q1), (0, .ref b)]) hx hb dL_law_1047 hl (k := 0) rfl h445.symm (by decide) rfl (fun ls hl => ?_)
  refine lv_goto (tgt := 23) hx hb dL_law_1050 (by decide) ?_
  have hk447 : u439 4 0 = u432 4 0 := hf442 4 0 (by decide) (by decide) (by decide) (by decide) (by decide) (by decide) (by decide) (by decide) (by decide) (by decide) (by decide) (by decide) (by decide)
  have hk448 : u432 4 0 = g 4 0 := hf435 4 0 (by decide) (by decide) (by decide) (by decide) (by decide) (by decide) (by decide) (by decide) (by decide) (by decide) (by decide)
  have hk449 : u439 6 0 = u432 6 0 := hf442 6 0 (by decide) (by decide) (by decide) (by decide) (by decide) (by decide) (by decide) (by decide) (by decide) (by decide) (by decide) (by decide) (by decide)
  exact ih x444 Γ u439 (kc) (ks) _ _ ls (by omega) (by omega) (by rw [hf442 1 0 (by decide) (by decide) (by decide) (by decide) (by decide) (by decide) (by decide) (by decide) (by decide) (by decide) (by decide) (by decide) (by decide), hf435 1 0 (by decide) (by decide) (by decide) (by decide) (by decide) (by decide) (by decide) (by decide) (by decide) (by decide) (by decide), hf442 33 0 (by decide) (by decide) (by decide) (by decide) (by decide) (by decide) (by decide) (by decide) (by decide) (by decide) (by decide) (by decide) (by decide), hf435 33 0 (by decide) (by decide) (by decide) (by decide) (by decide) (by decide) (by decide) (by decide) (by decide) (by decide) (by decide)]; exact hi1) (by rw [hf442 2 0 (by decide) (by decide) (by decide) (by decide) (by decide) (by decide) (by decide) (by decide) (by decide) (by decide) (by decide) (by decide) (by decide), hf435 2 0 (by decide) (by decide) (by decide) (by decide) (by decide) (by decide) (by decide) (by decide) (by decide) (by decide) (by decide), hf442 34 0 (by decide) (by decide) (by decide) (by decide) (by decide) (by decide) (by decide) (by decide) (by decide) (by decide) (by decide) (by decide) (by decide), hf435 34 0 (by decide) (by decide) (by decide) (by decide) (by decide) (by decide) (by decide) (by decide) (by decide) (by decide) (by decide)]; exact hi2) (by rw [hf442 3 0 (by decide) (by decide) (by decide) (by decide) (by decide) (by decide) (by decide) (by decide) (by decide) (by decide) (by decide) (by decide) (by decide), hf435 3 0 (by decide) (by decide) (by decide) (by decide) (by decide) (by decide) (by decide) (by decide) (by decide) (by decide) (by decide), hf442 35 0 (by decide) (by decide) (by decide) (by decide) (by decide) (by decide) (by decide) (by decide) (by decide) (by decide) (by decide) (by decide) (by decide), hf435 35 0 (by decide) (by decide) (by decide) (by decide) (by decide) (by decide) (by decide) (by decide) (by decide) (by decide) (by decide)]; exact hi3) (by rw [hf442 5 0 (by decide) (by decide) (by decide) (by decide) (by decide) (by decide) (by decide) (by decide) (by decide) (by decide) (by decide) (by decide) (by decide), hf435 5 0 (by decide) (by decide) (by decide) (by decide) (by decide) (by decide) (by decide) (by decide) (by decide) (by decide) (by decide)]; exact hi4) (by omega) (by omega) (by rw [hf442 7 0 (by decide) (by decide) (by decide) (by decide) (by decide) (by decide) (by decide) (by decide) (by decide) (by decide) (by decide) (by decide) (by decide), hf435 7 0 (by decide) (by decide) (by decide) (by decide) (by decide) (by decide) (by decide) (by decide) (by decide) (by decide) (by decide), hf442 36 0 (by decide) (by decide) (by decide) (by decide) (by decide) (by decide) (by decide) (by decide) (by decide) (by decide) (by decide) (by decide) (by decide), hf435 36 0 (by decide) (by decide) (by decide) (by decide) (by decide) (by decide) (by decide) (by decide) (by decide) (by decide) (by decide)]; exact hi7) (by rw [hf442 101 0 (by decide) (by decide) (by decide) (by decide) (by decide) (by decide) (by decide) (by decide) (by decide) (by decide) (by decide) (by decide) (by decide), hf435 101 0 (by decide) (by decide) (by decide) (by decide) (by decide) (by decide) (by decide) (by decide) (by decide) (by decide) (by decide), hf442 1 0 (by decide) (by decide) (by decide) (by decide) (by decide) (by decide) (by decide) (by decide) (by decide) (by decide) (by decide) (by decide) (by decide), hf435 1 0 (by decide) (by decide) (by decide) (by decide) (by decide) (by decide) (by decide) (by decide) (by decide) (by decide) (by decide)]; exact hi8) (by rw [hf442 104 0 (by decide) (by decide) (by decide) (by decide) (by decide) (by decide) (by decide) (by decide) (by decide) (by decide) (by decide) (by decide) (by decide), hf435 104 0 (by decide) (by decide) (by decide) (by decide) (by decide) (by decide) (by decide) (by decide) (by decide) (by decide) (by decide), hf442 2 0 (by decide) (by decide) (by decide) (by decide) (by decide) (by decide) (by decide) (by decide) (by decide) (by decide) (by decide) (by decide) (by decide), hf435 2 0 (by decide) (by decide) (by decide) (by decide) (by decide) (by decide) (by decide) (by decide) (by decide) (by decide) (by decide)]; exact hi9) (by rw [hf442 112 0 (by decide) (by decide) (by decide) (by decide) (by decide) (by decide) (by decide) (by decide) (by decide) (by decide) (by decide) (by decide) (by decide), hf435 112 0 (by decide) (by decide) (by decide) (by decide) (by decide) (by decide) (by decide) (by decide) (by decide) (by decide) (by decide), hf442 5 0 (by decide) (by decide) (by decide) (by decide) (by decide) (by decide) (by decide) (by decide) (by decide) (by decide) (by decide) (by decide) (by decide), hf435 5 0 (by decide) (by decide) (by decide) (by decide) (by decide) (by decide) (by decide) (by decide) (by decide) (by decide) (by decide)]; exact hi10) (by rw [hf442 111 0 (by decide) (by decide) (by decide) (by decide) (by decide) (by decide) (by decide) (by decide) (by decide) (by decide) (by decide) (by decide) (by decide), hf435 111 0 (by decide) (by decide) (by decide) (by decide) (by decide) (by decide) (by decide) (by decide) (by decide) (by decide) (by decide), hf442 4 0 (by decide) (by decide) (by decide) (by decide) (by decide) (by decide) (by decide) (by decide) (by decide) (by decide) (by decide) (by decide) (by decide), hf435 4 0 (by decide) (by decide) (by decide) (by decide) (by decide) (by decide) (by decide) (by decide) (by decide) (by decide) (by decide)]; exact hi11) (by omega) (by rw [hf442 126 0 (by decide) (by decide) (by decide) (by decide) (by decide) (by decide) (by decide) (by decide) (by decide) (by decide) (by decide) (by decide) (by decide), hf435 126 0 (by decide) (by decide) (by decide) (by decide) (by decide) (by decide) (by decide) (by decide) (by decide) (by decide) (by decide)]; exact hi13) (by omega) (by (repeat (first | with_reducible assumption | (refine IJ_c (by decide) (by decide) (by decide) ?_) | (refine IJ_take (by omega) (by omega) ?_) | (refine IJ_how (by omega) ?_) | (refine IJ_by (by omega) ?_)))) hU t_q1 t_q12 t_q25 (by omega) (by omega) hG hS (lv_sub hl [0, 1, 2, 3, 4] rfl)
set_option maxHeartbeats 40000000 in
set_option maxRecDepth 100000 in
/-- the law's case 6 -/
theorem law_c6 {p : Program} {e : Env} {s : State} {m : MethodId} {below : List Frame} {meth : Method} {c : Code} (l : Launch) (hl9 : l.stackTraces = false) {b L : Nat} {xs : Nat → Int32} (hLN : L ≤ 3072) (hx : p.tables.exec = Jvm.exec) (hb : c.code = code) (hr : meth.sig.returnType = ret) (hml : c.maxLocals = 7) (hown : s.vm.findClass R_law = some m.cls) (hA : ∀ w ∈ AL, w.before #[Value.ref b] s = true) (hXs : va_X b L xs s s.heap) (hbl : b < s.heap.size) (hlocks : meth.locks = false) {dC : Nat → ClassId} {dI : Nat → Nat → Nat} {dA : Nat → ClassId} {sz : Nat} (hE : en dC dI dA sz s) (hsz : sz = s.heap.size) (hbA : ¬ ty_A sz b) (X : va_W) (q1 q12 q25 : Nat) (n : Nat) (ih : LJ p l e s m below meth c b dC dI dA sz X q1 q12 q25 n) (i : Int32) (Γ : ty_G) (g : gh) (kc ks : Nat) (H : Heap) (locs : List Loc) (ls : Array Slot) (hm : (3073 - i.toInt : Int) < (n + 1 : Nat)) (hi0 : 0 ≤ i.toInt ∧ i.toInt ≤ 3072) (hi1 : g 1 0 = g 33 0 ∧ 0 ≤ g 1 0 ∧ g 1 0 ≤ 6) (hi2 : g 2 0 = g 34 0 ∧ 0 ≤ g 2 0 ∧ g 2 0 ≤ 10) (hi3 : g 3 0 = g 35 0 ∧ 0 ≤ g 3 0 ∧ g 3 0 ≤ 200) (hi4 : 0 ≤ g 5 0 ∧ g 5 0 ≤ 52) (hi5 : 0 ≤ g 4 0 ∧ g 4 0 ≤ i.toInt) (hi6 : 0 ≤ g 6 0 ∧ g 6 0 ≤ 300) (hi7 : 0 ≤ g 7 0 ∧ g 7 0 ≤ g 36 0 ∧ g 36 0 ≤ 9) (hi8 : g 101 0 = g 1 0) (hi9 : g 104 0 = g 2 0) (hi10 : g 112 0 = g 5 0) (hi11 : g 111 0 = g 4 0) (hi12 : g 114 0 = g 6 0) (hi13 : 0 ≤ g 126 0 ∧ g 126 0 ≤ 200) (hi14 : 0 ≤ g 122 0 ∧ g 122 0 ≤ 30) (hIJ : IJ g) (hU : Un Γ) (t_q1 : ty Γ q1 1) (t_q12 : ty Γ q12 30) (t_q25 : ty Γ q25 25) (hkc : kc ≤ 300 + i.toInt.toNat) (hks : ks ≤ 30000 + 28 * i.toInt.toNat) (hG : ty_ok (dC, dI) vwCl Γ (TP dA Γ g) sz X H) (hS : va_S (ty_A sz) s.heap H locs) (hl : lv_has ls 7 [(4, .int i), (3, .ref q25), (2, .ref q12), (1, .ref q1), (0, .ref b)]) (hiL : i.toInt + 6 ≤ (L : Int)) : W p l e room_1 s m #[Value.ref b] below meth c H locs kc ks (lw_Z below #[Value.ref b] s) (F0 m 374 ls []) := by
  refine lv_aload_n hx hb dL_law_374 rfl (lv_at hl 3 rfl) ?_
  refine cI (va_runV (C := RX8) (As := []) (rest := []) ⟨hx, hb, hml, hown, hA⟩ (k_X8_place l dC dI dA sz X Γ hU g q1 t_q1   ) ⟨callB_of 0 hA (al_A wd_2_225) rfl rfl rfl (hA _ wd_1_1) (hA _ wd_2_222) (by decide +kernel) ⟨Nat.le_of_ble_eq_true rfl, Nat.le_of_ble_eq_true rfl⟩, hA _ wd_2_223, hA _ wd_2_224⟩ ⟨bl, recv_X8 hE hG t_q1, fun U hU9 hW9 => ⟨rfl, by rw [hU9]; exact hG, hE.go hS hU9 hW9⟩⟩ rfl rfl hl.1 rfl (lv_room (Nat.le_of_ble_eq_true rfl)) dL_law_375 ⟨(Nat.le_trans (show kc + 0 ≤ 300000 by omega) (Nat.le_of_ble_eq_true rfl)), (Nat.le_trans (show ks + 0 ≤ 300000 by omega) (Nat.le_of_ble_eq_true rfl))⟩) hS (fun x452 u450 H locs w451 hG hS => ?_)
  obtain ⟨eu453, w451⟩ := w451
  rw [eu453] at hG
  refine lv_pop hx hb dL_law_378 rfl ?_
  refine lv_aload_n hx hb dL_law_379 rfl (lv_at hl 2 rfl) ?_
  refine cI (va_runV (C := RX9) (As := []) (rest := []) ⟨hx, hb, hml, hown, hA⟩ (k_X9_place l dC dI dA sz X Γ hU g q12 t_q12   ) ⟨callB_of 0 hA (al_A wd_5_112) rfl rfl rfl (hA _ wd_1_7) (hA _ wd_5_109) (by decide +kernel) ⟨Nat.le_of_ble_eq_true rfl, Nat.le_of_ble_eq_true rfl⟩, hA _ wd_5_110, hA _ wd_5_111⟩ ⟨bl, recv_X9 hE hG t_q12, fun U hU9 hW9 => ⟨rfl, by rw [hU9]; exact hG, hE.go hS hU9 hW9⟩⟩ rfl rfl hl.1 rfl (lv_room (Nat.le_of_ble_eq_true rfl)) dL_law_380 ⟨(Nat.le_trans (show kc + 0 ≤ 300000 by omega) (Nat.le_of_ble_eq_true rfl)), (Nat.le_trans (show ks + 0 ≤ 300000 by omega) (Nat.le_of_ble_eq_true rfl))⟩) hS (fun x456 u454 H locs w455 hG hS => ?_)
  obtain ⟨hf457, w455⟩ := w455
  have hj458 : IJ u454 := IJ_cg (hf457 126 0 (by decide)) (fun j => hf457 132 j (by decide)) (fun j => hf457 134 j (by decide)) (by (repeat (first | with_reducible assumption | (refine IJ_c (by decide) (by decide) (by decide) ?_) | (refine IJ_take (by omega) (by omega) ?_) | (refine IJ_how (by omega) ?_) | (refine IJ_by (by omega) ?_))))
  refine lv_pop hx hb dL_law_383 rfl ?_
  refine lv_goto (tgt := 1047) hx hb dL_law_384 (by decide) ?_
  obtain ⟨x459, h460⟩ : ∃ y : Int32, y = i + Int32.ofInt (6) := ⟨_, rfl⟩
  try have h461 : x459.toInt = i.toInt + (6) := ty_inc h460 (by decide) (by omega) (by omega)
  refine lv_iinc (v := x459) (lv' := [(4, .int x459), (3, .ref q25), (2, .ref q12), (1, .ref q1), (0, .ref b)]) hx hb dL_law_1047 hl (k := 0) rfl h460.symm (by decide) rfl (fun ls hl => ?_)
  refine lv_goto (tgt := 23) hx hb dL_law_1050 (by decide) ?_
  have hk462 : u454 4 0 = g 4 0 := hf457 4 0 (by decide)
  exact ih x459 Γ u454 (kc) (ks) _ _ ls (by omega) (by omega) (by rw [hf457 1 0 (by decide), hf457 33 0 (by decide)]; exact hi1) (by rw [hf457 2 0 (by decide), hf457 34 0 (by decide)]; exact hi2) (by rw [hf457 3 0 (by decide), hf457 35 0 (by decide)]; exact hi3) (by rw [hf457 5 0 (by decide)]; exact hi4) (by omega) (by rw [hf457 6 0 (by decide)]; exact hi6) (by rw [hf457 7 0 (by decide), hf457 36 0 (by decide)]; exact hi7) (by rw [hf457 101 0 (by decide), hf457 1 0 (by decide)]; exact hi8) (by rw [hf457 104 0 (by decide), hf457 2 0 (by decide)]; exact hi9) (by rw [hf457 112 0 (by decide), hf457 5 0 (by decide)]; exact hi10) (by rw [hf457 111 0 (by decide), hf457 4 0 (by decide)]; exact hi11) (by rw [hf457 114 0 (by decide), hf457 6 0 (by decide)]; exact hi12) (by rw [hf457 126 0 (by decide)]; exact hi13) (by rw [hf457 122 0 (by decide)]; exact hi14) (by (repeat (first | with_reducible assumption | (refine IJ_c (by decide) (by decide) (by decide) ?_) | (refine IJ_take (by omega) (by omega) ?_) | (refine IJ_how (by omega) ?_) | (refine IJ_by (by omega) ?_)))) hU t_q1 t_q12 t_q25 (by omega) (by omega) hG hS (lv_sub hl [0, 1, 2, 3, 4] rfl)
set_option maxHeartbeats 40000000 in
set_option maxRecDepth 100000 in
/-- the law's case 7 -/
theorem law_c7 {p : Program} {e : Env} {s : State} {m : MethodId} {below : List Frame} {meth : Method} {c : Code} (l : Launch) (hl9 : l.stackTraces = false) {b L : Nat} {xs : Nat → Int32} (hLN : L ≤ 3072) (hx : p.tables.exec = Jvm.exec) (hb : c.code = code) (hr : meth.sig.returnType = ret) (hml : c.maxLocals = 7) (hown : s.vm.findClass R_law = some m.cls) (hA : ∀ w ∈ AL, w.before #[Value.ref b] s = true) (hXs : va_X b L xs s s.heap) (hbl : b < s.heap.size) (hlocks : meth.locks = false) {dC : Nat → ClassId} {dI : Nat → Nat → Nat} {dA : Nat → ClassId} {sz : Nat} (hE : en dC dI dA sz s) (hsz : sz = s.heap.size) (hbA : ¬ ty_A sz b) (X : va_W) (q1 q12 q25 : Nat) (n : Nat) (ih : LJ p l e s m below meth c b dC dI dA sz X q1 q12 q25 n) (i : Int32) (Γ : ty_G) (g : gh) (kc ks : Nat) (H : Heap) (locs : List Loc) (ls : Array Slot) (hm : (3073 - i.toInt : Int) < (n + 1 : Nat)) (hi0 : 0 ≤ i.toInt ∧ i.toInt ≤ 3072) (hi1 : g 1 0 = g 33 0 ∧ 0 ≤ g 1 0 ∧ g 1 0 ≤ 6) (hi2 : g 2 0 = g 34 0 ∧ 0 ≤ g 2 0 ∧ g 2 0 ≤ 10) (hi3 : g 3 0 = g 35 0 ∧ 0 ≤ g 3 0 ∧ g 3 0 ≤ 200) (hi4 : 0 ≤ g 5 0 ∧ g 5 0 ≤ 52) (hi5 : 0 ≤ g 4 0 ∧ g 4 0 ≤ i.toInt) (hi6 : 0 ≤ g 6 0 ∧ g 6 0 ≤ 300) (hi7 : 0 ≤ g 7 0 ∧ g 7 0 ≤ g 36 0 ∧ g 36 0 ≤ 9) (hi8 : g 101 0 = g 1 0) (hi9 : g 104 0 = g 2 0) (hi10 : g 112 0 = g 5 0) (hi11 : g 111 0 = g 4 0) (hi12 : g 114 0 = g 6 0) (hi13 : 0 ≤ g 126 0 ∧ g 126 0 ≤ 200) (hi14 : 0 ≤ g 122 0 ∧ g 122 0 ≤ 30) (hIJ : IJ g) (hU : Un Γ) (t_q1 : ty Γ q1 1) (t_q12 : ty Γ q12 30) (t_q25 : ty Γ q25 25) (hkc : kc ≤ 300 + i.toInt.toNat) (hks : ks ≤ 30000 + 28 * i.toInt.toNat) (hG : ty_ok (dC, dI) vwCl Γ (TP dA Γ g) sz X H) (hS : va_S (ty_A sz) s.heap H locs) (hl : lv_has ls 7 [(4, .int i), (3, .ref q25), (2, .ref q12), (1, .ref q1), (0, .ref b)]) (hiL : i.toInt + 6 ≤ (L : Int)) : W p l e room_1 s m #[Value.ref b] below meth c H locs kc ks (lw_Z below #[Value.ref b] s) (F0 m 387 ls []) := by
  refine lv_aload_n hx hb dL_law_387 rfl (lv_at hl 3 rfl) ?_
  refine lv_aload_n hx hb dL_law_388 rfl (lv_at hl 4 rfl) ?_
  refine lv_iload hx hb dL_law_389 (lv_at hl 0 rfl) ?_
  refine ty_iconst hx hb (1) dL_law_391 (by decide) (fun x463 h464 => ?_)
  refine ty_iadd hx hb dL_law_392 (fun x465 h466 => ?_)
  have h467 := lw_ix (k := 1) h464 h466 hi0 hiL hLN (by decide)
  refine va_sld hx hb hXs hbl hbA hS (i := x465) (ty_ix h467.2) dL_law_393 ?_
  refine W.eq (g2 := F0 m 394 ls [.int (xs (i.toInt.toNat + 1)), .ref q1]) (by rw [lw_xs (xs := xs) h467.1 hi0.1]) ?_
  clear h467 h466 h464
  refine lv_topi (fun x468 s469 => ?_)
  refine lv_aload_n hx hb dL_law_394 rfl (lv_at hl 4 rfl) ?_
  refine lv_iload hx hb dL_law_395 (lv_at hl 0 rfl) ?_
  refine ty_iconst hx hb (2) dL_law_397 (by decide) (fun x470 h471 => ?_)
  refine ty_iadd hx hb dL_law_398 (fun x472 h473 => ?_)
  have h474 := lw_ix (k := 2) h471 h473 hi0 hiL hLN (by decide)
  refine va_sld hx hb hXs hbl hbA hS (i := x472) (ty_ix h474.2) dL_law_399 ?_
  refine W.eq (g2 := F0 m 400 ls [.int (xs (i.toInt.toNat + 2)), .int x468, .ref q1]) (by rw [lw_xs (xs := xs) h474.1 hi0.1]) ?_
  clear h474 h473 h471
  refine lv_topi (fun x475 s476 => ?_)
  refine cI (va_runV (C := RX8) (As := [.int x468, .int x475]) (rest := []) ⟨hx, hb, hml, hown, hA⟩ (k_X8_worth l dC dI dA sz X Γ hU g q1 t_q1 x468 x475   (by first | with_reducible assumption | omega)) ⟨callB_of 2 hA (al_A wd_2_229) rfl rfl rfl (hA _ wd_1_1) (hA _ wd_2_226) (by decide +kernel) ⟨Nat.le_of_ble_eq_true rfl, Nat.le_of_ble_eq_true rfl⟩, hA _ wd_2_227, hA _ wd_2_228⟩ ⟨bl, recv_X8 hE hG t_q1, fun U hU9 hW9 => ⟨rfl, by rw [hU9]; exact hG, hE.go hS hU9 hW9⟩⟩ rfl rfl hl.1 rfl (lv_room (Nat.le_of_ble_eq_true rfl)) dL_law_400 ⟨(Nat.le_trans (show kc + 0 ≤ 300000 by omega) (Nat.le_of_ble_eq_true rfl)), (Nat.le_trans (show ks + 0 ≤ 300000 by omega) (Nat.le_of_ble_eq_true rfl))⟩) hS (fun x479 u477 H locs w478 hG hS => ?_)
  have eu480 := w478
  rw [eu480] at hG
  refine lv_pop hx hb dL_law_403 rfl ?_
  refine lv_aload_n hx hb dL_law_404 rfl (lv_at hl 2 rfl) ?_
  refine lv_aload_n hx hb dL_law_405 rfl (lv_at hl 4 rfl) ?_
  refine lv_iload hx hb dL_law_406 (lv_at hl 0 rfl) ?_
  refine ty_iconst hx hb (1) dL_law_408 (by decide) (fun x481 h482 => ?_)
  refine ty_iadd hx hb dL_law_409 (fun x483 h484 => ?_)
  have h485 := lw_ix (k := 1) h482 h484 hi0 hiL hLN (by decide)
  refine va_sld hx hb hXs hbl hbA hS (i := x483) (ty_ix h485.2) dL_law_410 ?_
  refine W.eq (g2 := F0 m 411 ls [.int (xs (i.toInt.toNat + 1)), .ref q12]) (by rw [lw_xs (xs := xs) h485.1 hi0.1]) ?_
  clear h485 h484 h482
  refine W.eq (g2 := F0 m 411 ls [.int x468, .ref q12]) (by rw [s469]) ?_
  refine lv_aload_n hx hb dL_law_411 rfl (lv_at hl 4 rfl) ?_
  refine lv_iload hx hb dL_law_412 (lv_at hl 0 rfl) ?_
  refine ty_iconst hx hb (2) dL_law_414 (by decide) (fun x486 h487 => ?_)
  refine ty_iadd hx hb dL_law_415 (fun x488 h489 => ?_)
  have h490 := lw_ix (k := 2) h487 h489 hi0 hiL hLN (by decide)
  refine va_sld hx hb hXs hbl hbA hS (i := x488) (ty_ix h490.2) dL_law_416 ?_
  refine W.eq (g2 := F0 m 417 ls [.int (xs (i.toInt.toNat + 2)), .int x468, .ref q12]) (by rw [lw_xs (xs := xs) h490.1 hi0.1]) ?_
  clear h490 h489 h487
  refine W.eq (g2 := F0 m 417 ls [.int x475, .int x468, .ref q12]) (by rw [s476]) ?_
  refine cI (va_runV (C := RX9) (As := [.int x468, .int x475]) (rest := []) ⟨hx, hb, hml, hown, hA⟩ (k_X9_worth l dC dI dA sz X Γ hU g q12 t_q12 x468 x475   (by first | with_reducible assumption | omega) (by first | with_reducible assumption | omega)) ⟨callB_of 2 hA (al_A wd_5_116) rfl rfl rfl (hA _ wd_1_7) (hA _ wd_5_113) (by decide +kernel) ⟨Nat.le_of_ble_eq_true rfl, Nat.le_of_ble_eq_true rfl⟩, hA _ wd_5_114, hA _ wd_5_115⟩ ⟨bl, recv_X9 hE hG t_q12, fun U hU9 hW9 => ⟨rfl, by rw [hU9]; exact hG, hE.go hS hU9 hW9⟩⟩ rfl rfl hl.1 rfl (lv_room (Nat.le_of_ble_eq_true rfl)) dL_law_417 ⟨(Nat.le_trans (show kc + 0 ≤ 300000 by omega) (Nat.le_of_ble_eq_true rfl)), (Nat.le_trans (show ks + 0 ≤ 300000 by omega) (Nat.le_of_ble_eq_true rfl))⟩) hS (fun x493 u491 H locs w492 hG hS => ?_)
  have hf494 := w492
  have hj495 : IJ u491 := IJ_cg (hf494 126 0 (by decide)) (fun j => hf494 132 j (by decide)) (fun j => hf494 134 j (by decide)) (by (repeat (first | with_reducible assumption | (refine IJ_c (by decide) (by decide) (by decide) ?_) | (refine IJ_take (by omega) (by omega) ?_) | (refine IJ_how (by omega) ?_) | (refine IJ_by (by omega) ?_))))
  refine lv_pop hx hb dL_law_420 rfl ?_
  refine lv_goto (tgt := 1047) hx hb dL_law_421 (by decide) ?_
  obtain ⟨x496, h497⟩ : ∃ y : Int32, y = i + Int32.ofInt (6) := ⟨_, rfl⟩
  try have h498 : x496.toInt = i.toInt + (6) := ty_inc h497 (by decide) (by omega) (by omega)
  refine lv_iinc (v := x496) (lv' := [(4, .int x496), (3, .ref q25), (2, .ref q12), (1, .ref q1), (0, .ref b)]) hx hb dL_law_1047 hl (k := 0) rfl h497.symm (by decide) rfl (fun ls hl => ?_)
  refine lv_goto (tgt := 23) hx hb dL_law_1050 (by decide) ?_
  have hk499 : u491 4 0 = g 4 0 := hf494 4 0 (by decide)
  exact ih x496 Γ u491 (kc) (ks) _ _ ls (by omega) (by omega) (by rw [hf494 1 0 (by decide), hf494 33 0 (by decide)]; exact hi1) (by rw [hf494 2 0 (by decide), hf494 34 0 (by decide)]; exact hi2) (by rw [hf494 3 0 (by decide), hf494 35 0 (by decide)]; exact hi3) (by rw [hf494 5 0 (by decide)]; exact hi4) (by omega) (by rw [hf494 6 0 (by decide)]; exact hi6) (by rw [hf494 7 0 (by decide), hf494 36 0 (by decide)]; exact hi7) (by rw [hf494 101 0 (by decide), hf494 1 0 (by decide)]; exact hi8) (by rw [hf494 104 0 (by decide), hf494 2 0 (by decide)]; exact hi9) (by rw [hf494 112 0 (by decide), hf494 5 0 (by decide)]; exact hi10) (by rw [hf494 111 0 (by decide), hf494 4 0 (by decide)]; exact hi11) (by rw [hf494 114 0 (by decide), hf494 6 0 (by decide)]; exact hi12) (by rw [hf494 126 0 (by decide)]; exact hi13) (by rw [hf494 122 0 (by decide)]; exact hi14) (by (repeat (first | with_reducible assumption | (refine IJ_c (by decide) (by decide) (by decide) ?_) | (refine IJ_take (by omega) (by omega) ?_) | (refine IJ_how (by omega) ?_) | (refine IJ_by (by omega) ?_)))) hU t_q1 t_q12 t_q25 (by omega) (by omega) hG hS (lv_sub hl [0, 1, 2, 3, 4] rfl)
