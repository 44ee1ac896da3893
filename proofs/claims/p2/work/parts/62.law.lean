theorem al_s4 {d x1 x2 x3 : Cond} (h : d ∈ AL) (h1 : x1 ∈ AL) (h2 : x2 ∈ AL) (h3 : x3 ∈ AL) : GoodIn AL ([x1, x2, x3] ++ (d :: AL)) := fun w hw => (fun q => al_A q w List.mem_cons_self) ((List.mem_append.mp hw).elim (fun k => by simp only [List.mem_cons, List.not_mem_nil, or_false] at k; rcases k with e | e | e <;> (rw [e]; assumption)) (fun k => (List.mem_cons.mp k).elim (fun e => e ▸ h) id))
set_option maxHeartbeats 40000000 in
set_option maxRecDepth 100000 in
/-- the law's loop -/
theorem law_loop {p : Program} {e : Env} {s : State} {m : MethodId} {below : List Frame} {meth : Method} {c : Code} (l : Launch) (hl9 : l.stackTraces = false) {b L : Nat} {xs : Nat → Int32} (hLN : L ≤ 3072) (hx : p.tables.exec = Jvm.exec) (hb : c.code = code) (hr : meth.sig.returnType = ret) (hml : c.maxLocals = 7) (hown : s.vm.findClass R_law = some m.cls) (hA : ∀ w ∈ AL, w.before #[Value.ref b] s = true) (hXs : va_X b L xs s s.heap) (hbl : b < s.heap.size) (hlocks : meth.locks = false) {dC : Nat → ClassId} {dI : Nat → Nat → Nat} {dA : Nat → ClassId} {sz : Nat} (hE : en dC dI dA sz s) (hsz : sz = s.heap.size) (hbA : ¬ ty_A sz b) (X : va_W) (q1 q12 q25 : Nat) : ∀ (n : Nat) (i : Int32) (Γ : ty_G) (g : gh) (kc ks : Nat) (H : Heap) (locs : List Loc) (ls : Array Slot), (3073 - i.toInt : Int) < n → 0 ≤ i.toInt ∧ i.toInt ≤ 3072 → g 1 0 = g 33 0 ∧ 0 ≤ g 1 0 ∧ g 1 0 ≤ 6 → g 2 0 = g 34 0 ∧ 0 ≤ g 2 0 ∧ g 2 0 ≤ 10 → g 3 0 = g 35 0 ∧ 0 ≤ g 3 0 ∧ g 3 0 ≤ 200 → 0 ≤ g 5 0 ∧ g 5 0 ≤ 52 → 0 ≤ g 4 0 ∧ g 4 0 ≤ i.toInt → 0 ≤ g 6 0 ∧ g 6 0 ≤ 300 → 0 ≤ g 7 0 ∧ g 7 0 ≤ g 36 0 ∧ g 36 0 ≤ 9 → g 101 0 = g 1 0 ∧ g 104 0 = g 2 0 ∧ g 112 0 = g 5 0 ∧ g 111 0 = g 4 0 ∧ g 114 0 = g 6 0 → 0 ≤ g 126 0 ∧ g 126 0 ≤ 200 → 0 ≤ g 122 0 ∧ g 122 0 ≤ 30 → IJ g → Un Γ → ty Γ q1 1 → ty Γ q12 30 → ty Γ q25 25 → kc ≤ 300 + i.toInt.toNat → ks ≤ 30000 + 28 * i.toInt.toNat → ty_ok (dC, dI) vwCl Γ (TP dA Γ g) sz X H → va_S (ty_A sz) s.heap H locs → lv_has ls 7 [(4, .int i), (3, .ref q25), (2, .ref q12), (1, .ref q1), (0, .ref b)] → W p l e room_1 s m #[Value.ref b] below meth c H locs kc ks (lw_Z below #[Value.ref b] s) (F0 m 23 ls []) := by
  intro n
  induction n with
  | zero => intro i Γ g kc ks H locs ls hm hi0 hi1 hi2 hi3 hi4 hi5 hi6 hi7 hi8 hi9 hi10 hIJ hU t_q1 t_q12 t_q25 hkc hks hG hS hl; exfalso; omega
  | succ n ih =>
    intro i Γ g kc ks H locs ls hm hi0 hi1 hi2 hi3 hi4 hi5 hi6 hi7 hi8 hi9 hi10 hIJ hU t_q1 t_q12 t_q25 hkc hks hG hS hl
    refine lv_iload hx hb dL_law_23 (lv_at hl 0 rfl) ?_
    refine lv_aload_n hx hb dL_law_25 rfl (lv_at hl 4 rfl) ?_
    refine va_slen hx hb hXs hbl hbA hS dL_law_26 ?_
    refine lv_topi (fun x51 h52 => ?_)
    have h53 := lw_len h52 hLN
    refine ty_bipush hx hb (6) dL_law_27 (by decide) (fun x54 h55 => ?_)
    refine ty_isub hx hb dL_law_29 (fun x56 h57 => ?_)
    try have h58 : x56.toInt = x51.toInt - x54.toInt := ty_sub h57 (by omega) (by omega)
    refine ty_icmp_gt (tgt := 1053) hx hb dL_law_30 (by decide) (fun c59 => ?_) (fun c59 => ?_)
    · skip
      refine ty_iconst hx hb (1) dL_law_1053 (by decide) (fun x60 h61 => ?_)
      obtain rfl : x60 = 1 := ty_eq32.mpr (by rw [Int32.toInt_one]; omega)
      refine va_forget (fun q hq => hsz ▸ hS.2.2 q hq) ?_
      refine W.widen (k := 601024) (n := 7293034) (Nat.le_trans (show kc ≤ 300000 by omega) (Nat.le_of_ble_eq_true rfl)) (Nat.le_trans (show ks ≤ 300000 by omega) (Nat.le_of_ble_eq_true rfl)) ?_
      exact lw_ret hx hb hr hlocks dL_law_1054
    · skip
      refine lv_aload_n hx hb dL_law_33 rfl (lv_at hl 4 rfl) ?_
      refine lv_iload hx hb dL_law_34 (lv_at hl 0 rfl) ?_
      refine va_sld hx hb hXs hbl hbA hS (i := i) (ty_ix (by omega)) dL_law_36 ?_
      refine lv_topi (fun x62 s63 => ?_)
      refine ty_bipush hx hb (31) dL_law_37 (by decide) (fun x64 h65 => ?_)
      refine ty_iand hx hb dL_law_39 (fun x66 h67 => ?_)
      by_cases c68 : x66.toInt < 0 ∨ 23 < x66.toInt
      · skip
        refine lv_tableOut (tgt := 1047) hx hb dL_law_40 c68 (by decide) ?_
        obtain ⟨x69, h70⟩ : ∃ y : Int32, y = i + Int32.ofInt (6) := ⟨_, rfl⟩
        try have h71 : x69.toInt = i.toInt + (6) := ty_inc h70 (by decide) (by omega) (by omega)
        refine lv_iinc (v := x69) (lv' := [(4, .int x69), (3, .ref q25), (2, .ref q12), (1, .ref q1), (0, .ref b)]) hx hb dL_law_1047 hl (k := 0) rfl h70.symm (by decide) rfl (fun ls hl => ?_)
        refine lv_goto (tgt := 23) hx hb dL_law_1050 (by decide) ?_
        exact ih x69 Γ g (kc) (ks) _ _ ls (by omega) (by omega) (by omega) (by omega) (by omega) (by omega) (by omega) (by omega) (by omega) (by omega) (by omega) (by omega) (by (repeat (first | with_reducible assumption | (refine IJ_c (by decide) (by decide) (by decide) ?_) | (refine IJ_take (by omega) (by omega) ?_) | (refine IJ_how (by omega) ?_) | (refine IJ_by (by omega) ?_)))) hU t_q1 t_q12 t_q25 (by omega) (by omega) hG hS (lv_sub hl [0, 1, 2, 3, 4] rfl)
      · skip
        rcases (show x66.toInt = 0 ∨ x66.toInt = 1 ∨ x66.toInt = 2 ∨ x66.toInt = 3 ∨ x66.toInt = 4 ∨ x66.toInt = 5 ∨ x66.toInt = 6 ∨ x66.toInt = 7 ∨ x66.toInt = 8 ∨ x66.toInt = 9 ∨ x66.toInt = 10 ∨ x66.toInt = 11 ∨ x66.toInt = 12 ∨ x66.toInt = 13 ∨ x66.toInt = 14 ∨ x66.toInt = 15 ∨ x66.toInt = 16 ∨ x66.toInt = 17 ∨ x66.toInt = 18 ∨ x66.toInt = 19 ∨ x66.toInt = 20 ∨ x66.toInt = 21 ∨ x66.toInt = 22 ∨ x66.toInt = 23 by omega) with q72 | q73 | q74 | q75 | q76 | q77 | q78 | q79 | q80 | q81 | q82 | q83 | q84 | q85 | q86 | q87 | q88 | q89 | q90 | q91 | q92 | q93 | q94 | q95
        · skip
          refine lv_tableIn (tgt := 152) (off := 112) hx hb dL_law_40 (by omega) (by omega) (by rw [q72]; rfl) (by decide) ?_
          refine lv_aload_n hx hb dL_law_152 rfl (lv_at hl 3 rfl) ?_
          refine lv_aload_n hx hb dL_law_153 rfl (lv_at hl 4 rfl) ?_
          refine lv_iload hx hb dL_law_154 (lv_at hl 0 rfl) ?_
          refine ty_iconst hx hb (1) dL_law_156 (by decide) (fun x96 h97 => ?_)
          refine ty_iadd hx hb dL_law_157 (fun x98 h99 => ?_)
          try have h100 : x98.toInt = i.toInt + x96.toInt := ty_add h99 (by omega) (by omega)
          refine va_sld hx hb hXs hbl hbA hS (i := x98) (ty_ix (by omega)) dL_law_158 ?_
          refine lv_topi (fun x101 s102 => ?_)
          refine lv_aload_n hx hb dL_law_159 rfl (lv_at hl 4 rfl) ?_
          refine lv_iload hx hb dL_law_160 (lv_at hl 0 rfl) ?_
          refine ty_iconst hx hb (2) dL_law_162 (by decide) (fun x103 h104 => ?_)
          refine ty_iadd hx hb dL_law_163 (fun x105 h106 => ?_)
          try have h107 : x105.toInt = i.toInt + x103.toInt := ty_add h106 (by omega) (by omega)
          refine va_sld hx hb hXs hbl hbA hS (i := x105) (ty_ix (by omega)) dL_law_164 ?_
          refine lv_topi (fun x108 s109 => ?_)
          refine cIB (va_runV (C := RX8) (As := [.int x101, .int x108]) (rest := []) ⟨hx, hb, hml, hown, hA⟩ (k_X8_flat l dC dI dA sz X Γ hU g q1 t_q1 x101 x108   (by omega)) ⟨callB_of 2 hA (al_A wd_1_200) rfl rfl rfl (hA _ wd_1_1) (hA _ wd_1_197) (by decide +kernel) ⟨Nat.le_of_ble_eq_true rfl, Nat.le_of_ble_eq_true rfl⟩, hA _ wd_1_198, hA _ wd_1_199⟩ ⟨bl, recv_X8 hE hG t_q1, fun U hU9 hW9 => ⟨rfl, by rw [hU9]; exact hG, hE.go hS hU9 hW9⟩⟩ rfl rfl hl.1 rfl (lv_room (Nat.le_of_ble_eq_true rfl)) dL_law_165 ⟨(Nat.le_trans (show kc + 4 ≤ 300000 by omega) (Nat.le_of_ble_eq_true rfl)), (Nat.le_trans (show ks + 165 ≤ 300000 by omega) (Nat.le_of_ble_eq_true rfl))⟩) hS (fun x112 u110 H locs w111 hG hS => ?_)
          obtain ⟨Γ113, g114⟩ := u110
          dsimp only at w111 hG
          obtain ⟨hx115, hU, hf116, w117⟩ := w111
          have hX119 : ext Γ Γ113 := ext.trans ext.rf hx115
          replace t_q25 : ty Γ113 q25 25 := hx115.one t_q25 (by decide)
          replace t_q12 : ty Γ113 q12 30 := hx115.one t_q12 (by decide)
          replace t_q1 : ty Γ113 q1 1 := hx115.one t_q1 (by decide)
          refine lv_aload_n hx hb dL_law_168 rfl (lv_at hl 2 rfl) ?_
          refine lv_aload_n hx hb dL_law_169 rfl (lv_at hl 4 rfl) ?_
          refine lv_iload hx hb dL_law_170 (lv_at hl 0 rfl) ?_
          refine ty_iconst hx hb (1) dL_law_172 (by decide) (fun x120 h121 => ?_)
          refine ty_iadd hx hb dL_law_173 (fun x122 h123 => ?_)
          try have h124 : x122.toInt = i.toInt + x120.toInt := ty_add h123 (by omega) (by omega)
          refine va_sld hx hb hXs hbl hbA hS (i := x122) (ty_ix (by omega)) dL_law_174 ?_
          rw [lw_same (j := x122) s102 (by omega)]
          refine lv_aload_n hx hb dL_law_175 rfl (lv_at hl 4 rfl) ?_
          refine lv_iload hx hb dL_law_176 (lv_at hl 0 rfl) ?_
          refine ty_iconst hx hb (2) dL_law_178 (by decide) (fun x125 h126 => ?_)
          refine ty_iadd hx hb dL_law_179 (fun x127 h128 => ?_)
          try have h129 : x127.toInt = i.toInt + x125.toInt := ty_add h128 (by omega) (by omega)
          refine va_sld hx hb hXs hbl hbA hS (i := x127) (ty_ix (by omega)) dL_law_180 ?_
          rw [lw_same (j := x127) s109 (by omega)]
          have hk130 : g114 101 0 = g 101 0 := hf116 101 0 (by decide) (by decide)
          refine cI (va_runV (C := RX9) (As := [.int x101, .int x108]) (rest := [.int x112]) ⟨hx, hb, hml, hown, hA⟩ (k_X9_flat l dC dI dA sz X Γ113 hU g114 q12 t_q12 x101 x108   (by omega)) ⟨callB_of 2 hA (al_A wd_5_35) rfl rfl rfl (hA _ wd_1_7) (hA _ wd_5_32) (by decide +kernel) ⟨Nat.le_of_ble_eq_true rfl, Nat.le_of_ble_eq_true rfl⟩, hA _ wd_5_33, hA _ wd_5_34⟩ ⟨bl, recv_X9 hE hG t_q12, fun U hU9 hW9 => ⟨rfl, by rw [hU9]; exact hG, hE.go hS hU9 hW9⟩⟩ rfl rfl hl.1 rfl (lv_room (Nat.le_of_ble_eq_true rfl)) dL_law_181 ⟨(Nat.le_trans (show (kc + 4) + 0 ≤ 300000 by omega) (Nat.le_of_ble_eq_true rfl)), (Nat.le_trans (show (ks + 165) + 0 ≤ 300000 by omega) (Nat.le_of_ble_eq_true rfl))⟩) hS (fun x133 u131 H locs w132 hG hS => ?_)
          obtain ⟨hf134, w132⟩ := w132
          have hj135 : IJ u131 := IJ_cg (hf134 126 0 (by decide) (by decide) (by decide) (by decide)) (fun j => hf134 132 j (by decide) (by decide) (by decide) (by decide)) (fun j => hf134 134 j (by decide) (by decide) (by decide) (by decide)) (by (repeat (first | with_reducible assumption | (refine IJ_c (by decide) (by decide) (by decide) ?_) | (refine IJ_take (by omega) (by omega) ?_) | (refine IJ_how (by omega) ?_) | (refine IJ_by (by omega) ?_))))
          refine ty_icmp_eq (tgt := 1047) hx hb dL_law_184 (by decide) (fun c136 => ?_) (fun c136 => ?_)
          · skip
            obtain ⟨x137, h138⟩ : ∃ y : Int32, y = i + Int32.ofInt (6) := ⟨_, rfl⟩
            try have h139 : x137.toInt = i.toInt + (6) := ty_inc h138 (by decide) (by omega) (by omega)
            refine lv_iinc (v := x137) (lv' := [(4, .int x137), (3, .ref q25), (2, .ref q12), (1, .ref q1), (0, .ref b)]) hx hb dL_law_1047 hl (k := 0) rfl h138.symm (by decide) rfl (fun ls hl => ?_)
            refine lv_goto (tgt := 23) hx hb dL_law_1050 (by decide) ?_
            have hk140 : u131 1 0 = g114 1 0 := hf134 1 0 (by decide) (by decide) (by decide) (by decide)
            have hk141 : u131 2 0 = g114 2 0 := hf134 2 0 (by decide) (by decide) (by decide) (by decide)
            have hk142 : g114 2 0 = g 2 0 := hf116 2 0 (by decide) (by decide)
            have hk143 : u131 3 0 = g114 3 0 := hf134 3 0 (by decide) (by decide) (by decide) (by decide)
            have hk144 : g114 3 0 = g 3 0 := hf116 3 0 (by decide) (by decide)
            have hk145 : u131 4 0 = g114 4 0 := hf134 4 0 (by decide) (by decide) (by decide) (by decide)
            have hk146 : g114 4 0 = g 4 0 := hf116 4 0 (by decide) (by decide)
            have hk147 : u131 5 0 = g114 5 0 := hf134 5 0 (by decide) (by decide) (by decide) (by decide)
            have hk148 : g114 5 0 = g 5 0 := hf116 5 0 (by decide) (by decide)
            have hk149 : u131 6 0 = g114 6 0 := hf134 6 0 (by decide) (by decide) (by decide) (by decide)
            have hk150 : g114 6 0 = g 6 0 := hf116 6 0 (by decide) (by decide)
            have hk151 : u131 7 0 = g114 7 0 := hf134 7 0 (by decide) (by decide) (by decide) (by decide)
            have hk152 : g114 7 0 = g 7 0 := hf116 7 0 (by decide) (by decide)
            have hk153 : u131 33 0 = g114 33 0 := hf134 33 0 (by decide) (by decide) (by decide) (by decide)
            have hk154 : u131 34 0 = g114 34 0 := hf134 34 0 (by decide) (by decide) (by decide) (by decide)
            have hk155 : g114 34 0 = g 34 0 := hf116 34 0 (by decide) (by decide)
            have hk156 : u131 35 0 = g114 35 0 := hf134 35 0 (by decide) (by decide) (by decide) (by decide)
            have hk157 : g114 35 0 = g 35 0 := hf116 35 0 (by decide) (by decide)
            have hk158 : u131 36 0 = g114 36 0 := hf134 36 0 (by decide) (by decide) (by decide) (by decide)
            have hk159 : g114 36 0 = g 36 0 := hf116 36 0 (by decide) (by decide)
            have hk160 : u131 104 0 = g114 104 0 := hf134 104 0 (by decide) (by decide) (by decide) (by decide)
            have hk161 : g114 104 0 = g 104 0 := hf116 104 0 (by decide) (by decide)
            have hk162 : u131 111 0 = g114 111 0 := hf134 111 0 (by decide) (by decide) (by decide) (by decide)
            have hk163 : g114 111 0 = g 111 0 := hf116 111 0 (by decide) (by decide)
            have hk164 : u131 112 0 = g114 112 0 := hf134 112 0 (by decide) (by decide) (by decide) (by decide)
            have hk165 : g114 112 0 = g 112 0 := hf116 112 0 (by decide) (by decide)
            have hk166 : u131 114 0 = g114 114 0 := hf134 114 0 (by decide) (by decide) (by decide) (by decide)
            have hk167 : g114 114 0 = g 114 0 := hf116 114 0 (by decide) (by decide)
            have hk168 : u131 122 0 = g114 122 0 := hf134 122 0 (by decide) (by decide) (by decide) (by decide)
            have hk169 : g114 122 0 = g 122 0 := hf116 122 0 (by decide) (by decide)
            have hk170 : u131 126 0 = g114 126 0 := hf134 126 0 (by decide) (by decide) (by decide) (by decide)
            have hk171 : g114 126 0 = g 126 0 := hf116 126 0 (by decide) (by decide)
            exact ih x137 Γ113 u131 ((kc + 4)) ((ks + 165)) _ _ ls (by omega) (by omega) (by omega) (by omega) (by omega) (by omega) (by omega) (by omega) (by omega) (by omega) (by omega) (by omega) (by (repeat (first | with_reducible assumption | (refine IJ_c (by decide) (by decide) (by decide) ?_) | (refine IJ_take (by omega) (by omega) ?_) | (refine IJ_how (by omega) ?_) | (refine IJ_by (by omega) ?_)))) hU t_q1 t_q12 t_q25 (by omega) (by omega) hG hS (lv_sub hl [0, 1, 2, 3, 4] rfl)
          · exfalso; omega
        · skip
          refine lv_tableIn (tgt := 189) (off := 149) hx hb dL_law_40 (by omega) (by omega) (by rw [q73]; rfl) (by decide) ?_
          refine lv_aload_n hx hb dL_law_189 rfl (lv_at hl 3 rfl) ?_
          refine lv_aload_n hx hb dL_law_190 rfl (lv_at hl 4 rfl) ?_
          refine lv_iload hx hb dL_law_191 (lv_at hl 0 rfl) ?_
          refine ty_iconst hx hb (1) dL_law_193 (by decide) (fun x172 h173 => ?_)
          refine ty_iadd hx hb dL_law_194 (fun x174 h175 => ?_)
          try have h176 : x174.toInt = i.toInt + x172.toInt := ty_add h175 (by omega) (by omega)
          refine va_sld hx hb hXs hbl hbA hS (i := x174) (ty_ix (by omega)) dL_law_195 ?_
          refine lv_topi (fun x177 s178 => ?_)
          refine cIB (va_runV (C := RX8) (As := [.int x177]) (rest := []) ⟨hx, hb, hml, hown, hA⟩ (k_X8_owner l dC dI dA sz X Γ hU g q1 t_q1 x177   (by omega)) ⟨callB_of 1 hA (al_A wd_2_0) rfl rfl rfl (hA _ wd_1_1) (hA _ wd_1_237) (by decide +kernel) ⟨Nat.le_of_ble_eq_true rfl, Nat.le_of_ble_eq_true rfl⟩, hA _ wd_1_238, hA _ wd_1_239⟩ ⟨bl, recv_X8 hE hG t_q1, fun U hU9 hW9 => ⟨rfl, by rw [hU9]; exact hG, hE.go hS hU9 hW9⟩⟩ rfl rfl hl.1 rfl (lv_room (Nat.le_of_ble_eq_true rfl)) dL_law_196 ⟨(Nat.le_trans (show kc + 1 ≤ 300000 by omega) (Nat.le_of_ble_eq_true rfl)), (Nat.le_trans (show ks + 8 ≤ 300000 by omega) (Nat.le_of_ble_eq_true rfl))⟩) hS (fun x181 u179 H locs w180 hG hS => ?_)
          obtain ⟨Γ182, g183⟩ := u179
          dsimp only at w180 hG
          obtain ⟨hx184, hU, hf185, w186⟩ := w180
          have hX188 : ext Γ Γ182 := ext.trans ext.rf hx184
          replace t_q25 : ty Γ182 q25 25 := hx184.one t_q25 (by decide)
          replace t_q12 : ty Γ182 q12 30 := hx184.one t_q12 (by decide)
          replace t_q1 : ty Γ182 q1 1 := hx184.one t_q1 (by decide)
          refine lv_pop hx hb dL_law_199 rfl ?_
          refine lv_aload_n hx hb dL_law_200 rfl (lv_at hl 2 rfl) ?_
          refine lv_aload_n hx hb dL_law_201 rfl (lv_at hl 4 rfl) ?_
          refine lv_iload hx hb dL_law_202 (lv_at hl 0 rfl) ?_
          refine ty_iconst hx hb (1) dL_law_204 (by decide) (fun x189 h190 => ?_)
          refine ty_iadd hx hb dL_law_205 (fun x191 h192 => ?_)
          try have h193 : x191.toInt = i.toInt + x189.toInt := ty_add h192 (by omega) (by omega)
          refine va_sld hx hb hXs hbl hbA hS (i := x191) (ty_ix (by omega)) dL_law_206 ?_
          rw [lw_same (j := x191) s178 (by omega)]
          have hk194 : g183 104 0 = g 104 0 := hf185 104 0 (by decide) (by decide)
          refine cI (va_runV (C := RX9) (As := [.int x177]) (rest := []) ⟨hx, hb, hml, hown, hA⟩ (k_X9_owner l dC dI dA sz X Γ182 hU g183 q12 t_q12 x177   (by omega)) ⟨callB_of 1 hA (al_A wd_5_42) rfl rfl rfl (hA _ wd_1_7) (hA _ wd_5_39) (by decide +kernel) ⟨Nat.le_of_ble_eq_true rfl, Nat.le_of_ble_eq_true rfl⟩, hA _ wd_5_40, hA _ wd_5_41⟩ ⟨bl, recv_X9 hE hG t_q12, fun U hU9 hW9 => ⟨rfl, by rw [hU9]; exact hG, hE.go hS hU9 hW9⟩⟩ rfl rfl hl.1 rfl (lv_room (Nat.le_of_ble_eq_true rfl)) dL_law_207 ⟨(Nat.le_trans (show (kc + 1) + 0 ≤ 300000 by omega) (Nat.le_of_ble_eq_true rfl)), (Nat.le_trans (show (ks + 8) + 0 ≤ 300000 by omega) (Nat.le_of_ble_eq_true rfl))⟩) hS (fun x197 u195 H locs w196 hG hS => ?_)
          obtain ⟨hf198, w196⟩ := w196
          have hj199 : IJ u195 := IJ_cg (hf198 126 0 (by decide) (by decide) (by decide)) (fun j => hf198 132 j (by decide) (by decide) (by decide)) (fun j => hf198 134 j (by decide) (by decide) (by decide)) (by (repeat (first | with_reducible assumption | (refine IJ_c (by decide) (by decide) (by decide) ?_) | (refine IJ_take (by omega) (by omega) ?_) | (refine IJ_how (by omega) ?_) | (refine IJ_by (by omega) ?_))))
          refine lv_pop hx hb dL_law_210 rfl ?_
          refine lv_goto (tgt := 1047) hx hb dL_law_211 (by decide) ?_
          obtain ⟨x200, h201⟩ : ∃ y : Int32, y = i + Int32.ofInt (6) := ⟨_, rfl⟩
          try have h202 : x200.toInt = i.toInt + (6) := ty_inc h201 (by decide) (by omega) (by omega)
          refine lv_iinc (v := x200) (lv' := [(4, .int x200), (3, .ref q25), (2, .ref q12), (1, .ref q1), (0, .ref b)]) hx hb dL_law_1047 hl (k := 0) rfl h201.symm (by decide) rfl (fun ls hl => ?_)
          refine lv_goto (tgt := 23) hx hb dL_law_1050 (by decide) ?_
          have hk203 : u195 1 0 = g183 1 0 := hf198 1 0 (by decide) (by decide) (by decide)
          have hk204 : g183 1 0 = g 1 0 := hf185 1 0 (by decide) (by decide)
          have hk205 : u195 2 0 = g183 2 0 := hf198 2 0 (by decide) (by decide) (by decide)
          have hk206 : u195 3 0 = g183 3 0 := hf198 3 0 (by decide) (by decide) (by decide)
          have hk207 : g183 3 0 = g 3 0 := hf185 3 0 (by decide) (by decide)
          have hk208 : u195 4 0 = g183 4 0 := hf198 4 0 (by decide) (by decide) (by decide)
          have hk209 : g183 4 0 = g 4 0 := hf185 4 0 (by decide) (by decide)
          have hk210 : u195 5 0 = g183 5 0 := hf198 5 0 (by decide) (by decide) (by decide)
          have hk211 : g183 5 0 = g 5 0 := hf185 5 0 (by decide) (by decide)
          have hk212 : u195 6 0 = g183 6 0 := hf198 6 0 (by decide) (by decide) (by decide)
          have hk213 : g183 6 0 = g 6 0 := hf185 6 0 (by decide) (by decide)
          have hk214 : u195 7 0 = g183 7 0 := hf198 7 0 (by decide) (by decide) (by decide)
          have hk215 : g183 7 0 = g 7 0 := hf185 7 0 (by decide) (by decide)
          have hk216 : u195 33 0 = g183 33 0 := hf198 33 0 (by decide) (by decide) (by decide)
          have hk217 : g183 33 0 = g 33 0 := hf185 33 0 (by decide) (by decide)
          have hk218 : u195 34 0 = g183 34 0 := hf198 34 0 (by decide) (by decide) (by decide)
          have hk219 : u195 35 0 = g183 35 0 := hf198 35 0 (by decide) (by decide) (by decide)
          have hk220 : g183 35 0 = g 35 0 := hf185 35 0 (by decide) (by decide)
          have hk221 : u195 36 0 = g183 36 0 := hf198 36 0 (by decide) (by decide) (by decide)
          have hk222 : g183 36 0 = g 36 0 := hf185 36 0 (by decide) (by decide)
          have hk223 : u195 101 0 = g183 101 0 := hf198 101 0 (by decide) (by decide) (by decide)
          have hk224 : g183 101 0 = g 101 0 := hf185 101 0 (by decide) (by decide)
          have hk225 : u195 111 0 = g183 111 0 := hf198 111 0 (by decide) (by decide) (by decide)
          have hk226 : g183 111 0 = g 111 0 := hf185 111 0 (by decide) (by decide)
          have hk227 : u195 112 0 = g183 112 0 := hf198 112 0 (by decide) (by decide) (by decide)
          have hk228 : g183 112 0 = g 112 0 := hf185 112 0 (by decide) (by decide)
          have hk229 : u195 114 0 = g183 114 0 := hf198 114 0 (by decide) (by decide) (by decide)
          have hk230 : g183 114 0 = g 114 0 := hf185 114 0 (by decide) (by decide)
          have hk231 : u195 122 0 = g183 122 0 := hf198 122 0 (by decide) (by decide) (by decide)
          have hk232 : g183 122 0 = g 122 0 := hf185 122 0 (by decide) (by decide)
          have hk233 : u195 126 0 = g183 126 0 := hf198 126 0 (by decide) (by decide) (by decide)
          have hk234 : g183 126 0 = g 126 0 := hf185 126 0 (by decide) (by decide)
          exact ih x200 Γ182 u195 ((kc + 1)) ((ks + 8)) _ _ ls (by omega) (by omega) (by omega) (by omega) (by omega) (by omega) (by omega) (by omega) (by omega) (by omega) (by omega) (by omega) (by (repeat (first | with_reducible assumption | (refine IJ_c (by decide) (by decide) (by decide) ?_) | (refine IJ_take (by omega) (by omega) ?_) | (refine IJ_how (by omega) ?_) | (refine IJ_by (by omega) ?_)))) hU t_q1 t_q12 t_q25 (by omega) (by omega) hG hS (lv_sub hl [0, 1, 2, 3, 4] rfl)
        · skip
          refine lv_tableIn (tgt := 214) (off := 174) hx hb dL_law_40 (by omega) (by omega) (by rw [q74]; rfl) (by decide) ?_
          refine lv_aload_n hx hb dL_law_214 rfl (lv_at hl 3 rfl) ?_
          refine lv_aload_n hx hb dL_law_215 rfl (lv_at hl 4 rfl) ?_
          refine lv_iload hx hb dL_law_216 (lv_at hl 0 rfl) ?_
          refine ty_iconst hx hb (1) dL_law_218 (by decide) (fun x235 h236 => ?_)
          refine ty_iadd hx hb dL_law_219 (fun x237 h238 => ?_)
          try have h239 : x237.toInt = i.toInt + x235.toInt := ty_add h238 (by omega) (by omega)
          refine va_sld hx hb hXs hbl hbA hS (i := x237) (ty_ix (by omega)) dL_law_220 ?_
          refine lv_topi (fun x240 s241 => ?_)
          refine lv_aload_n hx hb dL_law_221 rfl (lv_at hl 4 rfl) ?_
          refine lv_iload hx hb dL_law_222 (lv_at hl 0 rfl) ?_
          refine ty_iconst hx hb (2) dL_law_224 (by decide) (fun x242 h243 => ?_)
          refine ty_iadd hx hb dL_law_225 (fun x244 h245 => ?_)
          try have h246 : x244.toInt = i.toInt + x242.toInt := ty_add h245 (by omega) (by omega)
          refine va_sld hx hb hXs hbl hbA hS (i := x244) (ty_ix (by omega)) dL_law_226 ?_
          refine lv_topi (fun x247 s248 => ?_)
          refine lv_aload_n hx hb dL_law_227 rfl (lv_at hl 4 rfl) ?_
          refine lv_iload hx hb dL_law_228 (lv_at hl 0 rfl) ?_
          refine ty_iconst hx hb (3) dL_law_230 (by decide) (fun x249 h250 => ?_)
          refine ty_iadd hx hb dL_law_231 (fun x251 h252 => ?_)
          try have h253 : x251.toInt = i.toInt + x249.toInt := ty_add h252 (by omega) (by omega)
          refine va_sld hx hb hXs hbl hbA hS (i := x251) (ty_ix (by omega)) dL_law_232 ?_
          refine lv_topi (fun x254 s255 => ?_)
          refine cI (va_runV (C := RX8) (As := [.int x240, .int x247, .int x254]) (rest := []) ⟨hx, hb, hml, hown, hA⟩ (k_X8_own l dC dI dA sz X Γ hU g q1 t_q1 x240 x247 x254   (by omega) (by omega)) ⟨callB_of 3 hA (al_A wd_2_44) rfl rfl rfl (hA _ wd_1_1) (hA _ wd_2_41) (by decide +kernel) ⟨Nat.le_of_ble_eq_true rfl, Nat.le_of_ble_eq_true rfl⟩, hA _ wd_2_42, hA _ wd_2_43⟩ ⟨bl, recv_X8 hE hG t_q1, fun U hU9 hW9 => ⟨rfl, by rw [hU9]; exact hG, hE.go hS hU9 hW9⟩⟩ rfl rfl hl.1 rfl (lv_room (Nat.le_of_ble_eq_true rfl)) dL_law_233 ⟨(Nat.le_trans (show kc + 0 ≤ 300000 by omega) (Nat.le_of_ble_eq_true rfl)), (Nat.le_trans (show ks + 0 ≤ 300000 by omega) (Nat.le_of_ble_eq_true rfl))⟩) hS (fun x258 u256 H locs w257 hG hS => ?_)
          have eu259 := w257
          rw [eu259] at hG
          refine lv_pop hx hb dL_law_236 rfl ?_
          refine lv_aload_n hx hb dL_law_237 rfl (lv_at hl 2 rfl) ?_
          refine lv_aload_n hx hb dL_law_238 rfl (lv_at hl 4 rfl) ?_
          refine lv_iload hx hb dL_law_239 (lv_at hl 0 rfl) ?_
          refine ty_iconst hx hb (1) dL_law_241 (by decide) (fun x260 h261 => ?_)
          refine ty_iadd hx hb dL_law_242 (fun x262 h263 => ?_)
          try have h264 : x262.toInt = i.toInt + x260.toInt := ty_add h263 (by omega) (by omega)
          refine va_sld hx hb hXs hbl hbA hS (i := x262) (ty_ix (by omega)) dL_law_243 ?_
          rw [lw_same (j := x262) s241 (by omega)]
          refine lv_aload_n hx hb dL_law_244 rfl (lv_at hl 4 rfl) ?_
          refine lv_iload hx hb dL_law_245 (lv_at hl 0 rfl) ?_
          refine ty_iconst hx hb (2) dL_law_247 (by decide) (fun x265 h266 => ?_)
          refine ty_iadd hx hb dL_law_248 (fun x267 h268 => ?_)
          try have h269 : x267.toInt = i.toInt + x265.toInt := ty_add h268 (by omega) (by omega)
          refine va_sld hx hb hXs hbl hbA hS (i := x267) (ty_ix (by omega)) dL_law_249 ?_
          rw [lw_same (j := x267) s248 (by omega)]
          refine lv_aload_n hx hb dL_law_250 rfl (lv_at hl 4 rfl) ?_
          refine lv_iload hx hb dL_law_251 (lv_at hl 0 rfl) ?_
          refine ty_iconst hx hb (3) dL_law_253 (by decide) (fun x270 h271 => ?_)
          refine ty_iadd hx hb dL_law_254 (fun x272 h273 => ?_)
          try have h274 : x272.toInt = i.toInt + x270.toInt := ty_add h273 (by omega) (by omega)
          refine va_sld hx hb hXs hbl hbA hS (i := x272) (ty_ix (by omega)) dL_law_255 ?_
          rw [lw_same (j := x272) s255 (by omega)]
          refine cI (va_runV (C := RX9) (As := [.int x240, .int x247, .int x254]) (rest := []) ⟨hx, hb, hml, hown, hA⟩ (k_X9_own l dC dI dA sz X Γ hU g q12 t_q12 x240 x247 x254   (by omega) (by omega) (by omega)) ⟨callB_of 3 hA (al_A wd_5_46) rfl rfl rfl (hA _ wd_1_7) (hA _ wd_5_43) (by decide +kernel) ⟨Nat.le_of_ble_eq_true rfl, Nat.le_of_ble_eq_true rfl⟩, hA _ wd_5_44, hA _ wd_5_45⟩ ⟨bl, recv_X9 hE hG t_q12, fun U hU9 hW9 => ⟨rfl, by rw [hU9]; exact hG, hE.go hS hU9 hW9⟩⟩ rfl rfl hl.1 rfl (lv_room (Nat.le_of_ble_eq_true rfl)) dL_law_256 ⟨(Nat.le_trans (show kc + 0 ≤ 300000 by omega) (Nat.le_of_ble_eq_true rfl)), (Nat.le_trans (show ks + 0 ≤ 300000 by omega) (Nat.le_of_ble_eq_true rfl))⟩) hS (fun x277 u275 H locs w276 hG hS => ?_)
          obtain ⟨hf278, w276⟩ := w276
          have hj279 : IJ u275 := IJ_cg (hf278 126 0 (by decide) (by decide)) (fun j => hf278 132 j (by decide) (by decide)) (fun j => hf278 134 j (by decide) (by decide)) (by (repeat (first | with_reducible assumption | (refine IJ_c (by decide) (by decide) (by decide) ?_) | (refine IJ_take (by omega) (by omega) ?_) | (refine IJ_how (by omega) ?_) | (refine IJ_by (by omega) ?_))))
          refine lv_pop hx hb dL_law_259 rfl ?_
          refine lv_goto (tgt := 1047) hx hb dL_law_260 (by decide) ?_
          obtain ⟨x280, h281⟩ : ∃ y : Int32, y = i + Int32.ofInt (6) := ⟨_, rfl⟩
          try have h282 : x280.toInt = i.toInt + (6) := ty_inc h281 (by decide) (by omega) (by omega)
          refine lv_iinc (v := x280) (lv' := [(4, .int x280), (3, .ref q25), (2, .ref q12), (1, .ref q1), (0, .ref b)]) hx hb dL_law_1047 hl (k := 0) rfl h281.symm (by decide) rfl (fun ls hl => ?_)
          refine lv_goto (tgt := 23) hx hb dL_law_1050 (by decide) ?_
          have hk283 : u275 1 0 = g 1 0 := hf278 1 0 (by decide) (by decide)
          have hk284 : u275 2 0 = g 2 0 := hf278 2 0 (by decide) (by decide)
          have hk285 : u275 3 0 = g 3 0 := hf278 3 0 (by decide) (by decide)
          have hk286 : u275 4 0 = g 4 0 := hf278 4 0 (by decide) (by decide)
          have hk287 : u275 5 0 = g 5 0 := hf278 5 0 (by decide) (by decide)
          have hk288 : u275 6 0 = g 6 0 := hf278 6 0 (by decide) (by decide)
          have hk289 : u275 7 0 = g 7 0 := hf278 7 0 (by decide) (by decide)
          have hk290 : u275 33 0 = g 33 0 := hf278 33 0 (by decide) (by decide)
          have hk291 : u275 34 0 = g 34 0 := hf278 34 0 (by decide) (by decide)
          have hk292 : u275 35 0 = g 35 0 := hf278 35 0 (by decide) (by decide)
          have hk293 : u275 36 0 = g 36 0 := hf278 36 0 (by decide) (by decide)
          have hk294 : u275 101 0 = g 101 0 := hf278 101 0 (by decide) (by decide)
          have hk295 : u275 104 0 = g 104 0 := hf278 104 0 (by decide) (by decide)
          have hk296 : u275 111 0 = g 111 0 := hf278 111 0 (by decide) (by decide)
          have hk297 : u275 112 0 = g 112 0 := hf278 112 0 (by decide) (by decide)
          have hk298 : u275 114 0 = g 114 0 := hf278 114 0 (by decide) (by decide)
          have hk299 : u275 122 0 = g 122 0 := hf278 122 0 (by decide) (by decide)
          have hk300 : u275 126 0 = g 126 0 := hf278 126 0 (by decide) (by decide)
          exact ih x280 Γ u275 (kc) (ks) _ _ ls (by omega) (by omega) (by omega) (by omega) (by omega) (by omega) (by omega) (by omega) (by omega) (by omega) (by omega) (by omega) (by (repeat (first | with_reducible assumption | (refine IJ_c (by decide) (by decide) (by decide) ?_) | (refine IJ_take (by omega) (by omega) ?_) | (refine IJ_how (by omega) ?_) | (refine IJ_by (by omega) ?_)))) hU t_q1 t_q12 t_q25 (by omega) (by omega) hG hS (lv_sub hl [0, 1, 2, 3, 4] rfl)
        · skip
          refine lv_tableIn (tgt := 263) (off := 223) hx hb dL_law_40 (by omega) (by omega) (by rw [q75]; rfl) (by decide) ?_
          refine lv_aload_n hx hb dL_law_263 rfl (lv_at hl 3 rfl) ?_
          refine lv_aload_n hx hb dL_law_264 rfl (lv_at hl 4 rfl) ?_
          refine lv_iload hx hb dL_law_265 (lv_at hl 0 rfl) ?_
          refine ty_iconst hx hb (1) dL_law_267 (by decide) (fun x301 h302 => ?_)
          refine ty_iadd hx hb dL_law_268 (fun x303 h304 => ?_)
          try have h305 : x303.toInt = i.toInt + x301.toInt := ty_add h304 (by omega) (by omega)
          refine va_sld hx hb hXs hbl hbA hS (i := x303) (ty_ix (by omega)) dL_law_269 ?_
          refine lv_topi (fun x306 s307 => ?_)
          refine lv_aload_n hx hb dL_law_270 rfl (lv_at hl 4 rfl) ?_
          refine lv_iload hx hb dL_law_271 (lv_at hl 0 rfl) ?_
          refine ty_iconst hx hb (2) dL_law_273 (by decide) (fun x308 h309 => ?_)
          refine ty_iadd hx hb dL_law_274 (fun x310 h311 => ?_)
          try have h312 : x310.toInt = i.toInt + x308.toInt := ty_add h311 (by omega) (by omega)
          refine va_sld hx hb hXs hbl hbA hS (i := x310) (ty_ix (by omega)) dL_law_275 ?_
          refine lv_topi (fun x313 s314 => ?_)
          refine lv_aload_n hx hb dL_law_276 rfl (lv_at hl 4 rfl) ?_
          refine lv_iload hx hb dL_law_277 (lv_at hl 0 rfl) ?_
          refine ty_iconst hx hb (3) dL_law_279 (by decide) (fun x315 h316 => ?_)
          refine ty_iadd hx hb dL_law_280 (fun x317 h318 => ?_)
          try have h319 : x317.toInt = i.toInt + x315.toInt := ty_add h318 (by omega) (by omega)
          refine va_sld hx hb hXs hbl hbA hS (i := x317) (ty_ix (by omega)) dL_law_281 ?_
          refine lv_topi (fun x320 s321 => ?_)
          refine lv_aload_n hx hb dL_law_282 rfl (lv_at hl 4 rfl) ?_
          refine lv_iload hx hb dL_law_283 (lv_at hl 0 rfl) ?_
          refine ty_iconst hx hb (4) dL_law_285 (by decide) (fun x322 h323 => ?_)
          refine ty_iadd hx hb dL_law_286 (fun x324 h325 => ?_)
          try have h326 : x324.toInt = i.toInt + x322.toInt := ty_add h325 (by omega) (by omega)
          refine va_sld hx hb hXs hbl hbA hS (i := x324) (ty_ix (by omega)) dL_law_287 ?_
          refine lv_topi (fun x327 s328 => ?_)
          refine lv_aload_n hx hb dL_law_288 rfl (lv_at hl 4 rfl) ?_
          refine lv_iload hx hb dL_law_289 (lv_at hl 0 rfl) ?_
          refine ty_iconst hx hb (5) dL_law_291 (by decide) (fun x329 h330 => ?_)
          refine ty_iadd hx hb dL_law_292 (fun x331 h332 => ?_)
          try have h333 : x331.toInt = i.toInt + x329.toInt := ty_add h332 (by omega) (by omega)
          refine va_sld hx hb hXs hbl hbA hS (i := x331) (ty_ix (by omega)) dL_law_293 ?_
          refine lv_topi (fun x334 s335 => ?_)
          refine cI (va_runV (C := RX8) (As := [.int x306, .int x313, .int x320, .int x327, .int x334]) (rest := []) ⟨hx, hb, hml, hown, hA⟩ (k_X8_feed l dC dI dA sz X Γ hU g q1 t_q1 x306 x313 x320 x327 x334   (by omega)) ⟨callB_of 5 hA (al_A wd_2_76) rfl rfl rfl (hA _ wd_1_1) (hA _ wd_2_73) (by decide +kernel) ⟨Nat.le_of_ble_eq_true rfl, Nat.le_of_ble_eq_true rfl⟩, hA _ wd_2_74, hA _ wd_2_75⟩ ⟨bl, recv_X8 hE hG t_q1, fun U hU9 hW9 => ⟨rfl, by rw [hU9]; exact hG, hE.go hS hU9 hW9⟩⟩ rfl rfl hl.1 rfl (lv_room (Nat.le_of_ble_eq_true rfl)) dL_law_294 ⟨(Nat.le_trans (show kc + 0 ≤ 300000 by omega) (Nat.le_of_ble_eq_true rfl)), (Nat.le_trans (show ks + 0 ≤ 300000 by omega) (Nat.le_of_ble_eq_true rfl))⟩) hS (fun x338 u336 H locs w337 hG hS => ?_)
          obtain ⟨hf339, w337⟩ := w337
          have hj340 : IJ u336 := IJ_cg (hf339 126 0 (by decide) (by decide)) (fun j => hf339 132 j (by decide) (by decide)) (fun j => hf339 134 j (by decide) (by decide)) (by (repeat (first | with_reducible assumption | (refine IJ_c (by decide) (by decide) (by decide) ?_) | (refine IJ_take (by omega) (by omega) ?_) | (refine IJ_how (by omega) ?_) | (refine IJ_by (by omega) ?_))))
          refine lv_pop hx hb dL_law_297 rfl ?_
          refine lv_aload_n hx hb dL_law_298 rfl (lv_at hl 2 rfl) ?_
          refine lv_aload_n hx hb dL_law_299 rfl (lv_at hl 4 rfl) ?_
          refine lv_iload hx hb dL_law_300 (lv_at hl 0 rfl) ?_
          refine ty_iconst hx hb (1) dL_law_302 (by decide) (fun x341 h342 => ?_)
          refine ty_iadd hx hb dL_law_303 (fun x343 h344 => ?_)
          try have h345 : x343.toInt = i.toInt + x341.toInt := ty_add h344 (by omega) (by omega)
          refine va_sld hx hb hXs hbl hbA hS (i := x343) (ty_ix (by omega)) dL_law_304 ?_
          rw [lw_same (j := x343) s307 (by omega)]
          refine lv_aload_n hx hb dL_law_305 rfl (lv_at hl 4 rfl) ?_
          refine lv_iload hx hb dL_law_306 (lv_at hl 0 rfl) ?_
          refine ty_iconst hx hb (2) dL_law_308 (by decide) (fun x346 h347 => ?_)
          refine ty_iadd hx hb dL_law_309 (fun x348 h349 => ?_)
          try have h350 : x348.toInt = i.toInt + x346.toInt := ty_add h349 (by omega) (by omega)
          refine va_sld hx hb hXs hbl hbA hS (i := x348) (ty_ix (by omega)) dL_law_310 ?_
          rw [lw_same (j := x348) s314 (by omega)]
          refine lv_aload_n hx hb dL_law_311 rfl (lv_at hl 4 rfl) ?_
          refine lv_iload hx hb dL_law_312 (lv_at hl 0 rfl) ?_
          refine ty_iconst hx hb (3) dL_law_314 (by decide) (fun x351 h352 => ?_)
          refine ty_iadd hx hb dL_law_315 (fun x353 h354 => ?_)
          try have h355 : x353.toInt = i.toInt + x351.toInt := ty_add h354 (by omega) (by omega)
          refine va_sld hx hb hXs hbl hbA hS (i := x353) (ty_ix (by omega)) dL_law_316 ?_
          rw [lw_same (j := x353) s321 (by omega)]
          refine lv_aload_n hx hb dL_law_317 rfl (lv_at hl 4 rfl) ?_
          refine lv_iload hx hb dL_law_318 (lv_at hl 0 rfl) ?_
          refine ty_iconst hx hb (4) dL_law_320 (by decide) (fun x356 h357 => ?_)
          refine ty_iadd hx hb dL_law_321 (fun x358 h359 => ?_)
          try have h360 : x358.toInt = i.toInt + x356.toInt := ty_add h359 (by omega) (by omega)
          refine va_sld hx hb hXs hbl hbA hS (i := x358) (ty_ix (by omega)) dL_law_322 ?_
          rw [lw_same (j := x358) s328 (by omega)]
          refine lv_aload_n hx hb dL_law_323 rfl (lv_at hl 4 rfl) ?_
          refine lv_iload hx hb dL_law_324 (lv_at hl 0 rfl) ?_
          refine ty_iconst hx hb (5) dL_law_326 (by decide) (fun x361 h362 => ?_)
          refine ty_iadd hx hb dL_law_327 (fun x363 h364 => ?_)
          try have h365 : x363.toInt = i.toInt + x361.toInt := ty_add h364 (by omega) (by omega)
          refine va_sld hx hb hXs hbl hbA hS (i := x363) (ty_ix (by omega)) dL_law_328 ?_
          rw [lw_same (j := x363) s335 (by omega)]
          have hk366 : u336 114 0 = g 114 0 := hf339 114 0 (by decide) (by decide)
          refine cI (va_runV (C := RX9) (As := [.int x306, .int x313, .int x320, .int x327, .int x334]) (rest := []) ⟨hx, hb, hml, hown, hA⟩ (k_X9_feed l dC dI dA sz X Γ hU u336 q12 t_q12 x306 x313 x320 x327 x334   (by omega)) ⟨callB_of 5 hA (al_A wd_5_62) rfl rfl rfl (hA _ wd_1_7) (hA _ wd_5_59) (by decide +kernel) ⟨Nat.le_of_ble_eq_true rfl, Nat.le_of_ble_eq_true rfl⟩, hA _ wd_5_60, hA _ wd_5_61⟩ ⟨bl, recv_X9 hE hG t_q12, fun U hU9 hW9 => ⟨rfl, by rw [hU9]; exact hG, hE.go hS hU9 hW9⟩⟩ rfl rfl hl.1 rfl (lv_room (Nat.le_of_ble_eq_true rfl)) dL_law_329 ⟨(Nat.le_trans (show kc + 0 ≤ 300000 by omega) (Nat.le_of_ble_eq_true rfl)), (Nat.le_trans (show ks + 0 ≤ 300000 by omega) (Nat.le_of_ble_eq_true rfl))⟩) hS (fun x369 u367 H locs w368 hG hS => ?_)
          obtain ⟨hf370, w368⟩ := w368
          have hj371 : IJ u367 := IJ_cg (hf370 126 0 (by decide) (by decide) (by decide)) (fun j => hf370 132 j (by decide) (by decide) (by decide)) (fun j => hf370 134 j (by decide) (by decide) (by decide)) (by (repeat (first | with_reducible assumption | (refine IJ_c (by decide) (by decide) (by decide) ?_) | (refine IJ_take (by omega) (by omega) ?_) | (refine IJ_how (by omega) ?_) | (refine IJ_by (by omega) ?_))))
          refine lv_pop hx hb dL_law_332 rfl ?_
          refine lv_goto (tgt := 1047) hx hb dL_law_333 (by decide) ?_
          obtain ⟨x372, h373⟩ : ∃ y : Int32, y = i + Int32.ofInt (6) := ⟨_, rfl⟩
          try have h374 : x372.toInt = i.toInt + (6) := ty_inc h373 (by decide) (by omega) (by omega)
          refine lv_iinc (v := x372) (lv' := [(4, .int x372), (3, .ref q25), (2, .ref q12), (1, .ref q1), (0, .ref b)]) hx hb dL_law_1047 hl (k := 0) rfl h373.symm (by decide) rfl (fun ls hl => ?_)
          refine lv_goto (tgt := 23) hx hb dL_law_1050 (by decide) ?_
          have hk375 : u367 1 0 = u336 1 0 := hf370 1 0 (by decide) (by decide) (by decide)
          have hk376 : u336 1 0 = g 1 0 := hf339 1 0 (by decide) (by decide)
          have hk377 : u367 2 0 = u336 2 0 := hf370 2 0 (by decide) (by decide) (by decide)
          have hk378 : u336 2 0 = g 2 0 := hf339 2 0 (by decide) (by decide)
          have hk379 : u367 3 0 = u336 3 0 := hf370 3 0 (by decide) (by decide) (by decide)
          have hk380 : u336 3 0 = g 3 0 := hf339 3 0 (by decide) (by decide)
          have hk381 : u367 4 0 = u336 4 0 := hf370 4 0 (by decide) (by decide) (by decide)
          have hk382 : u336 4 0 = g 4 0 := hf339 4 0 (by decide) (by decide)
          have hk383 : u367 5 0 = u336 5 0 := hf370 5 0 (by decide) (by decide) (by decide)
          have hk384 : u336 5 0 = g 5 0 := hf339 5 0 (by decide) (by decide)
          have hk385 : u367 6 0 = u336 6 0 := hf370 6 0 (by decide) (by decide) (by decide)
          have hk386 : u367 7 0 = u336 7 0 := hf370 7 0 (by decide) (by decide) (by decide)
          have hk387 : u336 7 0 = g 7 0 := hf339 7 0 (by decide) (by decide)
          have hk388 : u367 33 0 = u336 33 0 := hf370 33 0 (by decide) (by decide) (by decide)
          have hk389 : u336 33 0 = g 33 0 := hf339 33 0 (by decide) (by decide)
          have hk390 : u367 34 0 = u336 34 0 := hf370 34 0 (by decide) (by decide) (by decide)
          have hk391 : u336 34 0 = g 34 0 := hf339 34 0 (by decide) (by decide)
          have hk392 : u367 35 0 = u336 35 0 := hf370 35 0 (by decide) (by decide) (by decide)
          have hk393 : u336 35 0 = g 35 0 := hf339 35 0 (by decide) (by decide)
          have hk394 : u367 36 0 = u336 36 0 := hf370 36 0 (by decide) (by decide) (by decide)
          have hk395 : u336 36 0 = g 36 0 := hf339 36 0 (by decide) (by decide)
          have hk396 : u367 101 0 = u336 101 0 := hf370 101 0 (by decide) (by decide) (by decide)
          have hk397 : u336 101 0 = g 101 0 := hf339 101 0 (by decide) (by decide)
          have hk398 : u367 104 0 = u336 104 0 := hf370 104 0 (by decide) (by decide) (by decide)
          have hk399 : u336 104 0 = g 104 0 := hf339 104 0 (by decide) (by decide)
          have hk400 : u367 111 0 = u336 111 0 := hf370 111 0 (by decide) (by decide) (by decide)
          have hk401 : u336 111 0 = g 111 0 := hf339 111 0 (by decide) (by decide)
          have hk402 : u367 112 0 = u336 112 0 := hf370 112 0 (by decide) (by decide) (by decide)
          have hk403 : u336 112 0 = g 112 0 := hf339 112 0 (by decide) (by decide)
          have hk404 : u367 122 0 = u336 122 0 := hf370 122 0 (by decide) (by decide) (by decide)
          have hk405 : u336 122 0 = g 122 0 := hf339 122 0 (by decide) (by decide)
          have hk406 : u367 126 0 = u336 126 0 := hf370 126 0 (by decide) (by decide) (by decide)
          have hk407 : u336 126 0 = g 126 0 := hf339 126 0 (by decide) (by decide)
          exact ih x372 Γ u367 (kc) (ks) _ _ ls (by omega) (by omega) (by omega) (by omega) (by omega) (by omega) (by omega) (by omega) (by omega) (by omega) (by omega) (by omega) (by (repeat (first | with_reducible assumption | (refine IJ_c (by decide) (by decide) (by decide) ?_) | (refine IJ_take (by omega) (by omega) ?_) | (refine IJ_how (by omega) ?_) | (refine IJ_by (by omega) ?_)))) hU t_q1 t_q12 t_q25 (by omega) (by omega) hG hS (lv_sub hl [0, 1, 2, 3, 4] rfl)
        · skip
          refine lv_tableIn (tgt := 336) (off := 296) hx hb dL_law_40 (by omega) (by omega) (by rw [q76]; rfl) (by decide) ?_
          refine lv_aload_n hx hb dL_law_336 rfl (lv_at hl 3 rfl) ?_
          refine lv_aload_n hx hb dL_law_337 rfl (lv_at hl 4 rfl) ?_
          refine lv_iload hx hb dL_law_338 (lv_at hl 0 rfl) ?_
          refine ty_iconst hx hb (1) dL_law_340 (by decide) (fun x408 h409 => ?_)
          refine ty_iadd hx hb dL_law_341 (fun x410 h411 => ?_)
          try have h412 : x410.toInt = i.toInt + x408.toInt := ty_add h411 (by omega) (by omega)
          refine va_sld hx hb hXs hbl hbA hS (i := x410) (ty_ix (by omega)) dL_law_342 ?_
          refine lv_topi (fun x413 s414 => ?_)
          refine cI (va_runV (C := RX8) (As := [.int x413]) (rest := []) ⟨hx, hb, hml, hown, hA⟩ (k_X8_end l dC dI dA sz X Γ hU g q1 t_q1 x413   (by omega)) ⟨callB_of 1 hA (al_A wd_2_84) rfl rfl rfl (hA _ wd_1_1) (hA _ wd_2_81) (by decide +kernel) ⟨Nat.le_of_ble_eq_true rfl, Nat.le_of_ble_eq_true rfl⟩, hA _ wd_2_82, hA _ wd_2_83⟩ ⟨bl, recv_X8 hE hG t_q1, fun U hU9 hW9 => ⟨rfl, by rw [hU9]; exact hG, hE.go hS hU9 hW9⟩⟩ rfl rfl hl.1 rfl (lv_room (Nat.le_of_ble_eq_true rfl)) dL_law_343 ⟨(Nat.le_trans (show kc + 0 ≤ 300000 by omega) (Nat.le_of_ble_eq_true rfl)), (Nat.le_trans (show ks + 0 ≤ 300000 by omega) (Nat.le_of_ble_eq_true rfl))⟩) hS (fun x417 u415 H locs w416 hG hS => ?_)
          obtain ⟨hf418, w416⟩ := w416
          have hj419 : IJ u415 := IJ_cg (hf418 126 0 (by decide)) (fun j => hf418 132 j (by decide)) (fun j => hf418 134 j (by decide)) (by (repeat (first | with_reducible assumption | (refine IJ_c (by decide) (by decide) (by decide) ?_) | (refine IJ_take (by omega) (by omega) ?_) | (refine IJ_how (by omega) ?_) | (refine IJ_by (by omega) ?_))))
          refine lv_pop hx hb dL_law_346 rfl ?_
          refine lv_aload_n hx hb dL_law_347 rfl (lv_at hl 2 rfl) ?_
          refine lv_aload_n hx hb dL_law_348 rfl (lv_at hl 4 rfl) ?_
          refine lv_iload hx hb dL_law_349 (lv_at hl 0 rfl) ?_
          refine ty_iconst hx hb (1) dL_law_351 (by decide) (fun x420 h421 => ?_)
          refine ty_iadd hx hb dL_law_352 (fun x422 h423 => ?_)
          try have h424 : x422.toInt = i.toInt + x420.toInt := ty_add h423 (by omega) (by omega)
          refine va_sld hx hb hXs hbl hbA hS (i := x422) (ty_ix (by omega)) dL_law_353 ?_
          rw [lw_same (j := x422) s414 (by omega)]
          have hk425 : u415 114 0 = g 114 0 := hf418 114 0 (by decide)
          refine cI (va_runV (C := RX9) (As := [.int x413]) (rest := []) ⟨hx, hb, hml, hown, hA⟩ (k_X9_end l dC dI dA sz X Γ hU u415 q12 t_q12 x413   (by omega)) ⟨callB_of 1 hA (al_A wd_5_66) rfl rfl rfl (hA _ wd_1_7) (hA _ wd_5_63) (by decide +kernel) ⟨Nat.le_of_ble_eq_true rfl, Nat.le_of_ble_eq_true rfl⟩, hA _ wd_5_64, hA _ wd_5_65⟩ ⟨bl, recv_X9 hE hG t_q12, fun U hU9 hW9 => ⟨rfl, by rw [hU9]; exact hG, hE.go hS hU9 hW9⟩⟩ rfl rfl hl.1 rfl (lv_room (Nat.le_of_ble_eq_true rfl)) dL_law_354 ⟨(Nat.le_trans (show kc + 0 ≤ 300000 by omega) (Nat.le_of_ble_eq_true rfl)), (Nat.le_trans (show ks + 0 ≤ 300000 by omega) (Nat.le_of_ble_eq_true rfl))⟩) hS (fun x428 u426 H locs w427 hG hS => ?_)
          obtain ⟨hf429, w427⟩ := w427
          have hj430 : IJ u426 := IJ_cg (hf429 126 0 (by decide) (by decide)) (fun j => hf429 132 j (by decide) (by decide)) (fun j => hf429 134 j (by decide) (by decide)) (by (repeat (first | with_reducible assumption | (refine IJ_c (by decide) (by decide) (by decide) ?_) | (refine IJ_take (by omega) (by omega) ?_) | (refine IJ_how (by omega) ?_) | (refine IJ_by (by omega) ?_))))
          refine lv_pop hx hb dL_law_357 rfl ?_
          refine lv_goto (tgt := 1047) hx hb dL_law_358 (by decide) ?_
          obtain ⟨x431, h432⟩ : ∃ y : Int32, y = i + Int32.ofInt (6) := ⟨_, rfl⟩
          try have h433 : x431.toInt = i.toInt + (6) := ty_inc h432 (by decide) (by omega) (by omega)
          refine lv_iinc (v := x431) (lv' := [(4, .int x431), (3, .ref q25), (2, .ref q12), (1, .ref q1), (0, .ref b)]) hx hb dL_law_1047 hl (k := 0) rfl h432.symm (by decide) rfl (fun ls hl => ?_)
          refine lv_goto (tgt := 23) hx hb dL_law_1050 (by decide) ?_
          have hk434 : u426 1 0 = u415 1 0 := hf429 1 0 (by decide) (by decide)
          have hk435 : u415 1 0 = g 1 0 := hf418 1 0 (by decide)
          have hk436 : u426 2 0 = u415 2 0 := hf429 2 0 (by decide) (by decide)
          have hk437 : u415 2 0 = g 2 0 := hf418 2 0 (by decide)
          have hk438 : u426 3 0 = u415 3 0 := hf429 3 0 (by decide) (by decide)
          have hk439 : u415 3 0 = g 3 0 := hf418 3 0 (by decide)
          have hk440 : u426 4 0 = u415 4 0 := hf429 4 0 (by decide) (by decide)
          have hk441 : u415 4 0 = g 4 0 := hf418 4 0 (by decide)
          have hk442 : u426 5 0 = u415 5 0 := hf429 5 0 (by decide) (by decide)
          have hk443 : u415 5 0 = g 5 0 := hf418 5 0 (by decide)
          have hk444 : u426 6 0 = u415 6 0 := hf429 6 0 (by decide) (by decide)
          have hk445 : u426 7 0 = u415 7 0 := hf429 7 0 (by decide) (by decide)
          have hk446 : u415 7 0 = g 7 0 := hf418 7 0 (by decide)
          have hk447 : u426 33 0 = u415 33 0 := hf429 33 0 (by decide) (by decide)
          have hk448 : u415 33 0 = g 33 0 := hf418 33 0 (by decide)
          have hk449 : u426 34 0 = u415 34 0 := hf429 34 0 (by decide) (by decide)
          have hk450 : u415 34 0 = g 34 0 := hf418 34 0 (by decide)
          have hk451 : u426 35 0 = u415 35 0 := hf429 35 0 (by decide) (by decide)
          have hk452 : u415 35 0 = g 35 0 := hf418 35 0 (by decide)
          have hk453 : u426 36 0 = u415 36 0 := hf429 36 0 (by decide) (by decide)
          have hk454 : u415 36 0 = g 36 0 := hf418 36 0 (by decide)
          have hk455 : u426 101 0 = u415 101 0 := hf429 101 0 (by decide) (by decide)
          have hk456 : u415 101 0 = g 101 0 := hf418 101 0 (by decide)
          have hk457 : u426 104 0 = u415 104 0 := hf429 104 0 (by decide) (by decide)
          have hk458 : u415 104 0 = g 104 0 := hf418 104 0 (by decide)
          have hk459 : u426 111 0 = u415 111 0 := hf429 111 0 (by decide) (by decide)
          have hk460 : u415 111 0 = g 111 0 := hf418 111 0 (by decide)
          have hk461 : u426 112 0 = u415 112 0 := hf429 112 0 (by decide) (by decide)
          have hk462 : u415 112 0 = g 112 0 := hf418 112 0 (by decide)
          have hk463 : u426 122 0 = u415 122 0 := hf429 122 0 (by decide) (by decide)
          have hk464 : u415 122 0 = g 122 0 := hf418 122 0 (by decide)
          have hk465 : u426 126 0 = u415 126 0 := hf429 126 0 (by decide) (by decide)
          have hk466 : u415 126 0 = g 126 0 := hf418 126 0 (by decide)
          exact ih x431 Γ u426 (kc) (ks) _ _ ls (by omega) (by omega) (by omega) (by omega) (by omega) (by omega) (by omega) (by omega) (by omega) (by omega) (by omega) (by omega) (by (repeat (first | with_reducible assumption | (refine IJ_c (by decide) (by decide) (by decide) ?_) | (refine IJ_take (by omega) (by omega) ?_) | (refine IJ_how (by omega) ?_) | (refine IJ_by (by omega) ?_)))) hU t_q1 t_q12 t_q25 (by omega) (by omega) hG hS (lv_sub hl [0, 1, 2, 3, 4] rfl)
        · skip
          refine lv_tableIn (tgt := 361) (off := 321) hx hb dL_law_40 (by omega) (by omega) (by rw [q77]; rfl) (by decide) ?_
          refine lv_aload_n hx hb dL_law_361 rfl (lv_at hl 3 rfl) ?_
          refine cI (va_runV (C := RX8) (As := []) (rest := []) ⟨hx, hb, hml, hown, hA⟩ (k_X8_rules l dC dI dA sz X Γ hU g q1 t_q1   (by omega)) ⟨callB_of 0 hA (al_A wd_2_88) rfl rfl rfl (hA _ wd_1_1) (hA _ wd_2_85) (by decide +kernel) ⟨Nat.le_of_ble_eq_true rfl, Nat.le_of_ble_eq_true rfl⟩, hA _ wd_2_86, hA _ wd_2_87⟩ ⟨bl, recv_X8 hE hG t_q1, fun U hU9 hW9 => ⟨rfl, by rw [hU9]; exact hG, hE.go hS hU9 hW9⟩⟩ rfl rfl hl.1 rfl (lv_room (Nat.le_of_ble_eq_true rfl)) dL_law_362 ⟨(Nat.le_trans (show kc + 0 ≤ 300000 by omega) (Nat.le_of_ble_eq_true rfl)), (Nat.le_trans (show ks + 0 ≤ 300000 by omega) (Nat.le_of_ble_eq_true rfl))⟩) hS (fun x469 u467 H locs w468 hG hS => ?_)
          obtain ⟨hf470, w468⟩ := w468
          have hj471 : IJ u467 := IJ_cg (hf470 126 0 (by decide) (by decide) (by decide) (by decide) (by decide) (by decide) (by decide) (by decide) (by decide) (by decide) (by decide)) (fun j => hf470 132 j (by decide) (by decide) (by decide) (by decide) (by decide) (by decide) (by decide) (by decide) (by decide) (by decide) (by decide)) (fun j => hf470 134 j (by decide) (by decide) (by decide) (by decide) (by decide) (by decide) (by decide) (by decide) (by decide) (by decide) (by decide)) (by (repeat (first | with_reducible assumption | (refine IJ_c (by decide) (by decide) (by decide) ?_) | (refine IJ_take (by omega) (by omega) ?_) | (refine IJ_how (by omega) ?_) | (refine IJ_by (by omega) ?_))))
          refine lv_pop hx hb dL_law_365 rfl ?_
          refine lv_aload_n hx hb dL_law_366 rfl (lv_at hl 2 rfl) ?_
          have hk472 : u467 114 0 = g 114 0 := hf470 114 0 (by decide) (by decide) (by decide) (by decide) (by decide) (by decide) (by decide) (by decide) (by decide) (by decide) (by decide)
          have hk473 : u467 122 0 = g 122 0 := hf470 122 0 (by decide) (by decide) (by decide) (by decide) (by decide) (by decide) (by decide) (by decide) (by decide) (by decide) (by decide)
          refine cI (va_runV (C := RX9) (As := []) (rest := []) ⟨hx, hb, hml, hown, hA⟩ (k_X9_rules l dC dI dA sz X Γ hU u467 q12 t_q12   (by omega)) ⟨callB_of 0 hA (al_A wd_5_70) rfl rfl rfl (hA _ wd_1_7) (hA _ wd_5_67) (by decide +kernel) ⟨Nat.le_of_ble_eq_true rfl, Nat.le_of_ble_eq_true rfl⟩, hA _ wd_5_68, hA _ wd_5_69⟩ ⟨bl, recv_X9 hE hG t_q12, fun U hU9 hW9 => ⟨rfl, by rw [hU9]; exact hG, hE.go hS hU9 hW9⟩⟩ rfl rfl hl.1 rfl (lv_room (Nat.le_of_ble_eq_true rfl)) dL_law_367 ⟨(Nat.le_trans (show kc + 0 ≤ 300000 by omega) (Nat.le_of_ble_eq_true rfl)), (Nat.le_trans (show ks + 0 ≤ 300000 by omega) (Nat.le_of_ble_eq_true rfl))⟩) hS (fun x476 u474 H locs w475 hG hS => ?_)
          obtain ⟨hf477, w475⟩ := w475
          have hj478 : IJ u474 := IJ_cg (hf477 126 0 (by decide) (by decide) (by decide) (by decide) (by decide) (by decide) (by decide) (by decide) (by decide) (by decide) (by decide) (by decide) (by decide)) (fun j => hf477 132 j (by decide) (by decide) (by decide) (by decide) (by decide) (by decide) (by decide) (by decide) (by decide) (by decide) (by decide) (by decide) (by decide)) (fun j => hf477 134 j (by decide) (by decide) (by decide) (by decide) (by decide) (by decide) (by decide) (by decide) (by decide) (by decide) (by decide) (by decide) (by decide)) (by (repeat (first | with_reducible assumption | (refine IJ_c (by decide) (by decide) (by decide) ?_) | (refine IJ_take (by omega) (by omega) ?_) | (refine IJ_how (by omega) ?_) | (refine IJ_by (by omega) ?_))))
          refine lv_pop hx hb dL_law_370 rfl ?_
          refine lv_goto (tgt := 1047) hx hb dL_law_371 (by decide) ?_
          obtain ⟨x479, h480⟩ : ∃ y : Int32, y = i + Int32.ofInt (6) := ⟨_, rfl⟩
          try have h481 : x479.toInt = i.toInt + (6) := ty_inc h480 (by decide) (by omega) (by omega)
          refine lv_iinc (v := x479) (lv' := [(4, .int x479), (3, .ref q25), (2, .ref q12), (1, .ref q1), (0, .ref b)]) hx hb dL_law_1047 hl (k := 0) rfl h480.symm (by decide) rfl (fun ls hl => ?_)
          refine lv_goto (tgt := 23) hx hb dL_law_1050 (by decide) ?_
          have hk482 : u474 1 0 = u467 1 0 := hf477 1 0 (by decide) (by decide) (by decide) (by decide) (by decide) (by decide) (by decide) (by decide) (by decide) (by decide) (by decide) (by decide) (by decide)
          have hk483 : u467 1 0 = g 1 0 := hf470 1 0 (by decide) (by decide) (by decide) (by decide) (by decide) (by decide) (by decide) (by decide) (by decide) (by decide) (by decide)
          have hk484 : u474 2 0 = u467 2 0 := hf477 2 0 (by decide) (by decide) (by decide) (by decide) (by decide) (by decide) (by decide) (by decide) (by decide) (by decide) (by decide) (by decide) (by decide)
          have hk485 : u467 2 0 = g 2 0 := hf470 2 0 (by decide) (by decide) (by decide) (by decide) (by decide) (by decide) (by decide) (by decide) (by decide) (by decide) (by decide)
          have hk486 : u474 3 0 = u467 3 0 := hf477 3 0 (by decide) (by decide) (by decide) (by decide) (by decide) (by decide) (by decide) (by decide) (by decide) (by decide) (by decide) (by decide) (by decide)
          have hk487 : u467 3 0 = g 3 0 := hf470 3 0 (by decide) (by decide) (by decide) (by decide) (by decide) (by decide) (by decide) (by decide) (by decide) (by decide) (by decide)
          have hk488 : u474 4 0 = u467 4 0 := hf477 4 0 (by decide) (by decide) (by decide) (by decide) (by decide) (by decide) (by decide) (by decide) (by decide) (by decide) (by decide) (by decide) (by decide)
          have hk489 : u467 4 0 = g 4 0 := hf470 4 0 (by decide) (by decide) (by decide) (by decide) (by decide) (by decide) (by decide) (by decide) (by decide) (by decide) (by decide)
          have hk490 : u474 5 0 = u467 5 0 := hf477 5 0 (by decide) (by decide) (by decide) (by decide) (by decide) (by decide) (by decide) (by decide) (by decide) (by decide) (by decide) (by decide) (by decide)
          have hk491 : u467 5 0 = g 5 0 := hf470 5 0 (by decide) (by decide) (by decide) (by decide) (by decide) (by decide) (by decide) (by decide) (by decide) (by decide) (by decide)
          have hk492 : u474 6 0 = u467 6 0 := hf477 6 0 (by decide) (by decide) (by decide) (by decide) (by decide) (by decide) (by decide) (by decide) (by decide) (by decide) (by decide) (by decide) (by decide)
          have hk493 : u474 7 0 = u467 7 0 := hf477 7 0 (by decide) (by decide) (by decide) (by decide) (by decide) (by decide) (by decide) (by decide) (by decide) (by decide) (by decide) (by decide) (by decide)
          have hk494 : u467 7 0 = g 7 0 := hf470 7 0 (by decide) (by decide) (by decide) (by decide) (by decide) (by decide) (by decide) (by decide) (by decide) (by decide) (by decide)
          have hk495 : u474 33 0 = u467 33 0 := hf477 33 0 (by decide) (by decide) (by decide) (by decide) (by decide) (by decide) (by decide) (by decide) (by decide) (by decide) (by decide) (by decide) (by decide)
          have hk496 : u467 33 0 = g 33 0 := hf470 33 0 (by decide) (by decide) (by decide) (by decide) (by decide) (by decide) (by decide) (by decide) (by decide) (by decide) (by decide)
          have hk497 : u474 34 0 = u467 34 0 := hf477 34 0 (by decide) (by decide) (by decide) (by decide) (by decide) (by decide) (by decide) (by decide) (by decide) (by decide) (by decide) (by decide) (by decide)
          have hk498 : u467 34 0 = g 34 0 := hf470 34 0 (by decide) (by decide) (by decide) (by decide) (by decide) (by decide) (by decide) (by decide) (by decide) (by decide) (by decide)
          have hk499 : u474 35 0 = u467 35 0 := hf477 35 0 (by decide) (by decide) (by decide) (by decide) (by decide) (by decide) (by decide) (by decide) (by decide) (by decide) (by decide) (by decide) (by decide)
          have hk500 : u467 35 0 = g 35 0 := hf470 35 0 (by decide) (by decide) (by decide) (by decide) (by decide) (by decide) (by decide) (by decide) (by decide) (by decide) (by decide)
          have hk501 : u474 36 0 = u467 36 0 := hf477 36 0 (by decide) (by decide) (by decide) (by decide) (by decide) (by decide) (by decide) (by decide) (by decide) (by decide) (by decide) (by decide) (by decide)
          have hk502 : u467 36 0 = g 36 0 := hf470 36 0 (by decide) (by decide) (by decide) (by decide) (by decide) (by decide) (by decide) (by decide) (by decide) (by decide) (by decide)
          have hk503 : u474 101 0 = u467 101 0 := hf477 101 0 (by decide) (by decide) (by decide) (by decide) (by decide) (by decide) (by decide) (by decide) (by decide) (by decide) (by decide) (by decide) (by decide)
          have hk504 : u467 101 0 = g 101 0 := hf470 101 0 (by decide) (by decide) (by decide) (by decide) (by decide) (by decide) (by decide) (by decide) (by decide) (by decide) (by decide)
          have hk505 : u474 104 0 = u467 104 0 := hf477 104 0 (by decide) (by decide) (by decide) (by decide) (by decide) (by decide) (by decide) (by decide) (by decide) (by decide) (by decide) (by decide) (by decide)
          have hk506 : u467 104 0 = g 104 0 := hf470 104 0 (by decide) (by decide) (by decide) (by decide) (by decide) (by decide) (by decide) (by decide) (by decide) (by decide) (by decide)
          have hk507 : u474 111 0 = u467 111 0 := hf477 111 0 (by decide) (by decide) (by decide) (by decide) (by decide) (by decide) (by decide) (by decide) (by decide) (by decide) (by decide) (by decide) (by decide)
          have hk508 : u467 111 0 = g 111 0 := hf470 111 0 (by decide) (by decide) (by decide) (by decide) (by decide) (by decide) (by decide) (by decide) (by decide) (by decide) (by decide)
          have hk509 : u474 112 0 = u467 112 0 := hf477 112 0 (by decide) (by decide) (by decide) (by decide) (by decide) (by decide) (by decide) (by decide) (by decide) (by decide) (by decide) (by decide) (by decide)
          have hk510 : u467 112 0 = g 112 0 := hf470 112 0 (by decide) (by decide) (by decide) (by decide) (by decide) (by decide) (by decide) (by decide) (by decide) (by decide) (by decide)
          have hk511 : u474 126 0 = u467 126 0 := hf477 126 0 (by decide) (by decide) (by decide) (by decide) (by decide) (by decide) (by decide) (by decide) (by decide) (by decide) (by decide) (by decide) (by decide)
          have hk512 : u467 126 0 = g 126 0 := hf470 126 0 (by decide) (by decide) (by decide) (by decide) (by decide) (by decide) (by decide) (by decide) (by decide) (by decide) (by decide)
          exact ih x479 Γ u474 (kc) (ks) _ _ ls (by omega) (by omega) (by omega) (by omega) (by omega) (by omega) (by omega) (by omega) (by omega) (by omega) (by omega) (by omega) (by (repeat (first | with_reducible assumption | (refine IJ_c (by decide) (by decide) (by decide) ?_) | (refine IJ_take (by omega) (by omega) ?_) | (refine IJ_how (by omega) ?_) | (refine IJ_by (by omega) ?_)))) hU t_q1 t_q12 t_q25 (by omega) (by omega) hG hS (lv_sub hl [0, 1, 2, 3, 4] rfl)
        · skip
          refine lv_tableIn (tgt := 374) (off := 334) hx hb dL_law_40 (by omega) (by omega) (by rw [q78]; rfl) (by decide) ?_
          refine lv_aload_n hx hb dL_law_374 rfl (lv_at hl 3 rfl) ?_
          refine cI (va_runV (C := RX8) (As := []) (rest := []) ⟨hx, hb, hml, hown, hA⟩ (k_X8_place l dC dI dA sz X Γ hU g q1 t_q1   ) ⟨callB_of 0 hA (al_A wd_2_225) rfl rfl rfl (hA _ wd_1_1) (hA _ wd_2_222) (by decide +kernel) ⟨Nat.le_of_ble_eq_true rfl, Nat.le_of_ble_eq_true rfl⟩, hA _ wd_2_223, hA _ wd_2_224⟩ ⟨bl, recv_X8 hE hG t_q1, fun U hU9 hW9 => ⟨rfl, by rw [hU9]; exact hG, hE.go hS hU9 hW9⟩⟩ rfl rfl hl.1 rfl (lv_room (Nat.le_of_ble_eq_true rfl)) dL_law_375 ⟨(Nat.le_trans (show kc + 0 ≤ 300000 by omega) (Nat.le_of_ble_eq_true rfl)), (Nat.le_trans (show ks + 0 ≤ 300000 by omega) (Nat.le_of_ble_eq_true rfl))⟩) hS (fun x515 u513 H locs w514 hG hS => ?_)
          obtain ⟨eu516, w514⟩ := w514
          rw [eu516] at hG
          refine lv_pop hx hb dL_law_378 rfl ?_
          refine lv_aload_n hx hb dL_law_379 rfl (lv_at hl 2 rfl) ?_
          refine cI (va_runV (C := RX9) (As := []) (rest := []) ⟨hx, hb, hml, hown, hA⟩ (k_X9_place l dC dI dA sz X Γ hU g q12 t_q12   ) ⟨callB_of 0 hA (al_A wd_5_112) rfl rfl rfl (hA _ wd_1_7) (hA _ wd_5_109) (by decide +kernel) ⟨Nat.le_of_ble_eq_true rfl, Nat.le_of_ble_eq_true rfl⟩, hA _ wd_5_110, hA _ wd_5_111⟩ ⟨bl, recv_X9 hE hG t_q12, fun U hU9 hW9 => ⟨rfl, by rw [hU9]; exact hG, hE.go hS hU9 hW9⟩⟩ rfl rfl hl.1 rfl (lv_room (Nat.le_of_ble_eq_true rfl)) dL_law_380 ⟨(Nat.le_trans (show kc + 0 ≤ 300000 by omega) (Nat.le_of_ble_eq_true rfl)), (Nat.le_trans (show ks + 0 ≤ 300000 by omega) (Nat.le_of_ble_eq_true rfl))⟩) hS (fun x519 u517 H locs w518 hG hS => ?_)
          obtain ⟨hf520, w518⟩ := w518
          have hj521 : IJ u517 := IJ_cg (hf520 126 0 (by decide)) (fun j => hf520 132 j (by decide)) (fun j => hf520 134 j (by decide)) (by (repeat (first | with_reducible assumption | (refine IJ_c (by decide) (by decide) (by decide) ?_) | (refine IJ_take (by omega) (by omega) ?_) | (refine IJ_how (by omega) ?_) | (refine IJ_by (by omega) ?_))))
          refine lv_pop hx hb dL_law_383 rfl ?_
          refine lv_goto (tgt := 1047) hx hb dL_law_384 (by decide) ?_
          obtain ⟨x522, h523⟩ : ∃ y : Int32, y = i + Int32.ofInt (6) := ⟨_, rfl⟩
          try have h524 : x522.toInt = i.toInt + (6) := ty_inc h523 (by decide) (by omega) (by omega)
          refine lv_iinc (v := x522) (lv' := [(4, .int x522), (3, .ref q25), (2, .ref q12), (1, .ref q1), (0, .ref b)]) hx hb dL_law_1047 hl (k := 0) rfl h523.symm (by decide) rfl (fun ls hl => ?_)
          refine lv_goto (tgt := 23) hx hb dL_law_1050 (by decide) ?_
          have hk525 : u517 1 0 = g 1 0 := hf520 1 0 (by decide)
          have hk526 : u517 2 0 = g 2 0 := hf520 2 0 (by decide)
          have hk527 : u517 3 0 = g 3 0 := hf520 3 0 (by decide)
          have hk528 : u517 4 0 = g 4 0 := hf520 4 0 (by decide)
          have hk529 : u517 5 0 = g 5 0 := hf520 5 0 (by decide)
          have hk530 : u517 6 0 = g 6 0 := hf520 6 0 (by decide)
          have hk531 : u517 7 0 = g 7 0 := hf520 7 0 (by decide)
          have hk532 : u517 33 0 = g 33 0 := hf520 33 0 (by decide)
          have hk533 : u517 34 0 = g 34 0 := hf520 34 0 (by decide)
          have hk534 : u517 35 0 = g 35 0 := hf520 35 0 (by decide)
          have hk535 : u517 36 0 = g 36 0 := hf520 36 0 (by decide)
          have hk536 : u517 101 0 = g 101 0 := hf520 101 0 (by decide)
          have hk537 : u517 104 0 = g 104 0 := hf520 104 0 (by decide)
          have hk538 : u517 111 0 = g 111 0 := hf520 111 0 (by decide)
          have hk539 : u517 112 0 = g 112 0 := hf520 112 0 (by decide)
          have hk540 : u517 114 0 = g 114 0 := hf520 114 0 (by decide)
          have hk541 : u517 122 0 = g 122 0 := hf520 122 0 (by decide)
          have hk542 : u517 126 0 = g 126 0 := hf520 126 0 (by decide)
          exact ih x522 Γ u517 (kc) (ks) _ _ ls (by omega) (by omega) (by omega) (by omega) (by omega) (by omega) (by omega) (by omega) (by omega) (by omega) (by omega) (by omega) (by (repeat (first | with_reducible assumption | (refine IJ_c (by decide) (by decide) (by decide) ?_) | (refine IJ_take (by omega) (by omega) ?_) | (refine IJ_how (by omega) ?_) | (refine IJ_by (by omega) ?_)))) hU t_q1 t_q12 t_q25 (by omega) (by omega) hG hS (lv_sub hl [0, 1, 2, 3, 4] rfl)
        · skip
          refine lv_tableIn (tgt := 387) (off := 347) hx hb dL_law_40 (by omega) (by omega) (by rw [q79]; rfl) (by decide) ?_
          refine lv_aload_n hx hb dL_law_387 rfl (lv_at hl 3 rfl) ?_
          refine lv_aload_n hx hb dL_law_388 rfl (lv_at hl 4 rfl) ?_
          refine lv_iload hx hb dL_law_389 (lv_at hl 0 rfl) ?_
          refine ty_iconst hx hb (1) dL_law_391 (by decide) (fun x543 h544 => ?_)
          refine ty_iadd hx hb dL_law_392 (fun x545 h546 => ?_)
          try have h547 : x545.toInt = i.toInt + x543.toInt := ty_add h546 (by omega) (by omega)
          refine va_sld hx hb hXs hbl hbA hS (i := x545) (ty_ix (by omega)) dL_law_393 ?_
          refine lv_topi (fun x548 s549 => ?_)
          refine lv_aload_n hx hb dL_law_394 rfl (lv_at hl 4 rfl) ?_
          refine lv_iload hx hb dL_law_395 (lv_at hl 0 rfl) ?_
          refine ty_iconst hx hb (2) dL_law_397 (by decide) (fun x550 h551 => ?_)
          refine ty_iadd hx hb dL_law_398 (fun x552 h553 => ?_)
          try have h554 : x552.toInt = i.toInt + x550.toInt := ty_add h553 (by omega) (by omega)
          refine va_sld hx hb hXs hbl hbA hS (i := x552) (ty_ix (by omega)) dL_law_399 ?_
          refine lv_topi (fun x555 s556 => ?_)
          refine cI (va_runV (C := RX8) (As := [.int x548, .int x555]) (rest := []) ⟨hx, hb, hml, hown, hA⟩ (k_X8_worth l dC dI dA sz X Γ hU g q1 t_q1 x548 x555   (by omega)) ⟨callB_of 2 hA (al_A wd_2_229) rfl rfl rfl (hA _ wd_1_1) (hA _ wd_2_226) (by decide +kernel) ⟨Nat.le_of_ble_eq_true rfl, Nat.le_of_ble_eq_true rfl⟩, hA _ wd_2_227, hA _ wd_2_228⟩ ⟨bl, recv_X8 hE hG t_q1, fun U hU9 hW9 => ⟨rfl, by rw [hU9]; exact hG, hE.go hS hU9 hW9⟩⟩ rfl rfl hl.1 rfl (lv_room (Nat.le_of_ble_eq_true rfl)) dL_law_400 ⟨(Nat.le_trans (show kc + 0 ≤ 300000 by omega) (Nat.le_of_ble_eq_true rfl)), (Nat.le_trans (show ks + 0 ≤ 300000 by omega) (Nat.le_of_ble_eq_true rfl))⟩) hS (fun x559 u557 H locs w558 hG hS => ?_)
          have eu560 := w558
          rw [eu560] at hG
          refine lv_pop hx hb dL_law_403 rfl ?_
          refine lv_aload_n hx hb dL_law_404 rfl (lv_at hl 2 rfl) ?_
          refine lv_aload_n hx hb dL_law_405 rfl (lv_at hl 4 rfl) ?_
          refine lv_iload hx hb dL_law_406 (lv_at hl 0 rfl) ?_
          refine ty_iconst hx hb (1) dL_law_408 (by decide) (fun x561 h562 => ?_)
          refine ty_iadd hx hb dL_law_409 (fun x563 h564 => ?_)
          try have h565 : x563.toInt = i.toInt + x561.toInt := ty_add h564 (by omega) (by omega)
          refine va_sld hx hb hXs hbl hbA hS (i := x563) (ty_ix (by omega)) dL_law_410 ?_
          rw [lw_same (j := x563) s549 (by omega)]
          refine lv_aload_n hx hb dL_law_411 rfl (lv_at hl 4 rfl) ?_
          refine lv_iload hx hb dL_law_412 (lv_at hl 0 rfl) ?_
          refine ty_iconst hx hb (2) dL_law_414 (by decide) (fun x566 h567 => ?_)
          refine ty_iadd hx hb dL_law_415 (fun x568 h569 => ?_)
          try have h570 : x568.toInt = i.toInt + x566.toInt := ty_add h569 (by omega) (by omega)
          refine va_sld hx hb hXs hbl hbA hS (i := x568) (ty_ix (by omega)) dL_law_416 ?_
          rw [lw_same (j := x568) s556 (by omega)]
          refine cI (va_runV (C := RX9) (As := [.int x548, .int x555]) (rest := []) ⟨hx, hb, hml, hown, hA⟩ (k_X9_worth l dC dI dA sz X Γ hU g q12 t_q12 x548 x555   (by omega) (by omega)) ⟨callB_of 2 hA (al_A wd_5_116) rfl rfl rfl (hA _ wd_1_7) (hA _ wd_5_113) (by decide +kernel) ⟨Nat.le_of_ble_eq_true rfl, Nat.le_of_ble_eq_true rfl⟩, hA _ wd_5_114, hA _ wd_5_115⟩ ⟨bl, recv_X9 hE hG t_q12, fun U hU9 hW9 => ⟨rfl, by rw [hU9]; exact hG, hE.go hS hU9 hW9⟩⟩ rfl rfl hl.1 rfl (lv_room (Nat.le_of_ble_eq_true rfl)) dL_law_417 ⟨(Nat.le_trans (show kc + 0 ≤ 300000 by omega) (Nat.le_of_ble_eq_true rfl)), (Nat.le_trans (show ks + 0 ≤ 300000 by omega) (Nat.le_of_ble_eq_true rfl))⟩) hS (fun x573 u571 H locs w572 hG hS => ?_)
          have hf574 := w572
          have hj575 : IJ u571 := IJ_cg (hf574 126 0 (by decide)) (fun j => hf574 132 j (by decide)) (fun j => hf574 134 j (by decide)) (by (repeat (first | with_reducible assumption | (refine IJ_c (by decide) (by decide) (by decide) ?_) | (refine IJ_take (by omega) (by omega) ?_) | (refine IJ_how (by omega) ?_) | (refine IJ_by (by omega) ?_))))
          refine lv_pop hx hb dL_law_420 rfl ?_
          refine lv_goto (tgt := 1047) hx hb dL_law_421 (by decide) ?_
          obtain ⟨x576, h577⟩ : ∃ y : Int32, y = i + Int32.ofInt (6) := ⟨_, rfl⟩
          try have h578 : x576.toInt = i.toInt + (6) := ty_inc h577 (by decide) (by omega) (by omega)
          refine lv_iinc (v := x576) (lv' := [(4, .int x576), (3, .ref q25), (2, .ref q12), (1, .ref q1), (0, .ref b)]) hx hb dL_law_1047 hl (k := 0) rfl h577.symm (by decide) rfl (fun ls hl => ?_)
          refine lv_goto (tgt := 23) hx hb dL_law_1050 (by decide) ?_
          have hk579 : u571 1 0 = g 1 0 := hf574 1 0 (by decide)
          have hk580 : u571 2 0 = g 2 0 := hf574 2 0 (by decide)
          have hk581 : u571 3 0 = g 3 0 := hf574 3 0 (by decide)
          have hk582 : u571 4 0 = g 4 0 := hf574 4 0 (by decide)
          have hk583 : u571 5 0 = g 5 0 := hf574 5 0 (by decide)
          have hk584 : u571 6 0 = g 6 0 := hf574 6 0 (by decide)
          have hk585 : u571 7 0 = g 7 0 := hf574 7 0 (by decide)
          have hk586 : u571 33 0 = g 33 0 := hf574 33 0 (by decide)
          have hk587 : u571 34 0 = g 34 0 := hf574 34 0 (by decide)
          have hk588 : u571 35 0 = g 35 0 := hf574 35 0 (by decide)
          have hk589 : u571 36 0 = g 36 0 := hf574 36 0 (by decide)
          have hk590 : u571 101 0 = g 101 0 := hf574 101 0 (by decide)
          have hk591 : u571 104 0 = g 104 0 := hf574 104 0 (by decide)
          have hk592 : u571 111 0 = g 111 0 := hf574 111 0 (by decide)
          have hk593 : u571 112 0 = g 112 0 := hf574 112 0 (by decide)
          have hk594 : u571 114 0 = g 114 0 := hf574 114 0 (by decide)
          have hk595 : u571 122 0 = g 122 0 := hf574 122 0 (by decide)
          have hk596 : u571 126 0 = g 126 0 := hf574 126 0 (by decide)
          exact ih x576 Γ u571 (kc) (ks) _ _ ls (by omega) (by omega) (by omega) (by omega) (by omega) (by omega) (by omega) (by omega) (by omega) (by omega) (by omega) (by omega) (by (repeat (first | with_reducible assumption | (refine IJ_c (by decide) (by decide) (by decide) ?_) | (refine IJ_take (by omega) (by omega) ?_) | (refine IJ_how (by omega) ?_) | (refine IJ_by (by omega) ?_)))) hU t_q1 t_q12 t_q25 (by omega) (by omega) hG hS (lv_sub hl [0, 1, 2, 3, 4] rfl)
        · skip
          refine lv_tableIn (tgt := 424) (off := 384) hx hb dL_law_40 (by omega) (by omega) (by rw [q80]; rfl) (by decide) ?_
          refine lv_aload_n hx hb dL_law_424 rfl (lv_at hl 3 rfl) ?_
          refine lv_aload_n hx hb dL_law_425 rfl (lv_at hl 4 rfl) ?_
          refine lv_iload hx hb dL_law_426 (lv_at hl 0 rfl) ?_
          refine ty_iconst hx hb (1) dL_law_428 (by decide) (fun x597 h598 => ?_)
          refine ty_iadd hx hb dL_law_429 (fun x599 h600 => ?_)
          try have h601 : x599.toInt = i.toInt + x597.toInt := ty_add h600 (by omega) (by omega)
          refine va_sld hx hb hXs hbl hbA hS (i := x599) (ty_ix (by omega)) dL_law_430 ?_
          refine lv_topi (fun x602 s603 => ?_)
          refine lv_aload_n hx hb dL_law_431 rfl (lv_at hl 4 rfl) ?_
          refine lv_iload hx hb dL_law_432 (lv_at hl 0 rfl) ?_
          refine ty_iconst hx hb (2) dL_law_434 (by decide) (fun x604 h605 => ?_)
          refine ty_iadd hx hb dL_law_435 (fun x606 h607 => ?_)
          try have h608 : x606.toInt = i.toInt + x604.toInt := ty_add h607 (by omega) (by omega)
          refine va_sld hx hb hXs hbl hbA hS (i := x606) (ty_ix (by omega)) dL_law_436 ?_
          refine lv_topi (fun x609 s610 => ?_)
          refine lv_aload_n hx hb dL_law_437 rfl (lv_at hl 4 rfl) ?_
          refine lv_iload hx hb dL_law_438 (lv_at hl 0 rfl) ?_
          refine ty_iconst hx hb (3) dL_law_440 (by decide) (fun x611 h612 => ?_)
          refine ty_iadd hx hb dL_law_441 (fun x613 h614 => ?_)
          try have h615 : x613.toInt = i.toInt + x611.toInt := ty_add h614 (by omega) (by omega)
          refine va_sld hx hb hXs hbl hbA hS (i := x613) (ty_ix (by omega)) dL_law_442 ?_
          refine lv_topi (fun x616 s617 => ?_)
          refine cIB (va_runV (C := RX8) (As := [.int x602, .int x609, .int x616]) (rest := []) ⟨hx, hb, hml, hown, hA⟩ (k_X8_give l dC dI dA sz X Γ hU g q1 t_q1 x602 x609 x616   (by omega) (by omega) (by omega)) ⟨callB_of 3 hA (al_A wd_3_4) rfl rfl rfl (hA _ wd_1_1) (hA _ wd_3_1) (by decide +kernel) ⟨Nat.le_of_ble_eq_true rfl, Nat.le_of_ble_eq_true rfl⟩, hA _ wd_3_2, hA _ wd_3_3⟩ ⟨bl, recv_X8 hE hG t_q1, fun U hU9 hW9 => ⟨rfl, by rw [hU9]; exact hG, hE.go hS hU9 hW9⟩⟩ rfl rfl hl.1 rfl (lv_room (Nat.le_of_ble_eq_true rfl)) dL_law_443 ⟨(Nat.le_trans (show kc + 1 ≤ 300000 by omega) (Nat.le_of_ble_eq_true rfl)), (Nat.le_trans (show ks + 10 ≤ 300000 by omega) (Nat.le_of_ble_eq_true rfl))⟩) hS (fun x620 u618 H locs w619 hG hS => ?_)
          obtain ⟨Γ621, g622⟩ := u618
          dsimp only at w619 hG
          obtain ⟨hx623, hU, hf624, w625⟩ := w619
          have hX627 : ext Γ Γ621 := ext.trans ext.rf hx623
          replace t_q25 : ty Γ621 q25 25 := hx623.one t_q25 (by decide)
          replace t_q12 : ty Γ621 q12 30 := hx623.one t_q12 (by decide)
          replace t_q1 : ty Γ621 q1 1 := hx623.one t_q1 (by decide)
          refine lv_pop hx hb dL_law_446 rfl ?_
          refine lv_aload_n hx hb dL_law_447 rfl (lv_at hl 2 rfl) ?_
          refine lv_aload_n hx hb dL_law_448 rfl (lv_at hl 4 rfl) ?_
          refine lv_iload hx hb dL_law_449 (lv_at hl 0 rfl) ?_
          refine ty_iconst hx hb (1) dL_law_451 (by decide) (fun x628 h629 => ?_)
          refine ty_iadd hx hb dL_law_452 (fun x630 h631 => ?_)
          try have h632 : x630.toInt = i.toInt + x628.toInt := ty_add h631 (by omega) (by omega)
          refine va_sld hx hb hXs hbl hbA hS (i := x630) (ty_ix (by omega)) dL_law_453 ?_
          rw [lw_same (j := x630) s603 (by omega)]
          refine lv_aload_n hx hb dL_law_454 rfl (lv_at hl 4 rfl) ?_
          refine lv_iload hx hb dL_law_455 (lv_at hl 0 rfl) ?_
          refine ty_iconst hx hb (2) dL_law_457 (by decide) (fun x633 h634 => ?_)
          refine ty_iadd hx hb dL_law_458 (fun x635 h636 => ?_)
          try have h637 : x635.toInt = i.toInt + x633.toInt := ty_add h636 (by omega) (by omega)
          refine va_sld hx hb hXs hbl hbA hS (i := x635) (ty_ix (by omega)) dL_law_459 ?_
          rw [lw_same (j := x635) s610 (by omega)]
          refine lv_aload_n hx hb dL_law_460 rfl (lv_at hl 4 rfl) ?_
          refine lv_iload hx hb dL_law_461 (lv_at hl 0 rfl) ?_
          refine ty_iconst hx hb (3) dL_law_463 (by decide) (fun x638 h639 => ?_)
          refine ty_iadd hx hb dL_law_464 (fun x640 h641 => ?_)
          try have h642 : x640.toInt = i.toInt + x638.toInt := ty_add h641 (by omega) (by omega)
          refine va_sld hx hb hXs hbl hbA hS (i := x640) (ty_ix (by omega)) dL_law_465 ?_
          rw [lw_same (j := x640) s617 (by omega)]
          have hk643 : g622 101 0 = g 101 0 := hf624 101 0 (by decide) (by decide)
          have hk644 : g622 104 0 = g 104 0 := hf624 104 0 (by decide) (by decide)
          have hk645 : g622 126 0 = g 126 0 := hf624 126 0 (by decide) (by decide)
          have hk646 : g622 122 0 = g 122 0 := hf624 122 0 (by decide) (by decide)
          refine cI (va_runV (C := RX9) (As := [.int x602, .int x609, .int x616]) (rest := []) ⟨hx, hb, hml, hown, hA⟩ (k_X9_give l dC dI dA sz X Γ621 hU g622 q12 t_q12 x602 x609 x616   (by omega) (by omega) (by omega) (by omega) (by (repeat (first | with_reducible assumption | (refine IJ_c (by decide) (by decide) (by decide) ?_) | (refine IJ_take (by omega) (by omega) ?_) | (refine IJ_how (by omega) ?_) | (refine IJ_by (by omega) ?_))))) ⟨callB_of 3 hA (al_A wd_5_124) rfl rfl rfl (hA _ wd_1_7) (hA _ wd_5_121) (by decide +kernel) ⟨Nat.le_of_ble_eq_true rfl, Nat.le_of_ble_eq_true rfl⟩, hA _ wd_5_122, hA _ wd_5_123⟩ ⟨bl, recv_X9 hE hG t_q12, fun U hU9 hW9 => ⟨rfl, by rw [hU9]; exact hG, hE.go hS hU9 hW9⟩⟩ rfl rfl hl.1 rfl (lv_room (Nat.le_of_ble_eq_true rfl)) dL_law_466 ⟨(Nat.le_trans (show (kc + 1) + 0 ≤ 300000 by omega) (Nat.le_of_ble_eq_true rfl)), (Nat.le_trans (show (ks + 10) + 0 ≤ 300000 by omega) (Nat.le_of_ble_eq_true rfl))⟩) hS (fun x649 u647 H locs w648 hG hS => ?_)
          obtain ⟨hf651, w648, hq650⟩ := w648
          refine lv_pop hx hb dL_law_469 rfl ?_
          refine lv_goto (tgt := 1047) hx hb dL_law_470 (by decide) ?_
          obtain ⟨x652, h653⟩ : ∃ y : Int32, y = i + Int32.ofInt (6) := ⟨_, rfl⟩
          try have h654 : x652.toInt = i.toInt + (6) := ty_inc h653 (by decide) (by omega) (by omega)
          refine lv_iinc (v := x652) (lv' := [(4, .int x652), (3, .ref q25), (2, .ref q12), (1, .ref q1), (0, .ref b)]) hx hb dL_law_1047 hl (k := 0) rfl h653.symm (by decide) rfl (fun ls hl => ?_)
          refine lv_goto (tgt := 23) hx hb dL_law_1050 (by decide) ?_
          have hk655 : u647 1 0 = g622 1 0 := hf651 1 0 (by decide) (by decide) (by decide) (by decide) (by decide) (by decide) (by decide) (by decide) (by decide) (by decide) (by decide)
          have hk656 : g622 1 0 = g 1 0 := hf624 1 0 (by decide) (by decide)
          have hk657 : u647 2 0 = g622 2 0 := hf651 2 0 (by decide) (by decide) (by decide) (by decide) (by decide) (by decide) (by decide) (by decide) (by decide) (by decide) (by decide)
          have hk658 : g622 2 0 = g 2 0 := hf624 2 0 (by decide) (by decide)
          have hk659 : u647 3 0 = g622 3 0 := hf651 3 0 (by decide) (by decide) (by decide) (by decide) (by decide) (by decide) (by decide) (by decide) (by decide) (by decide) (by decide)
          have hk660 : u647 4 0 = g622 4 0 := hf651 4 0 (by decide) (by decide) (by decide) (by decide) (by decide) (by decide) (by decide) (by decide) (by decide) (by decide) (by decide)
          have hk661 : g622 4 0 = g 4 0 := hf624 4 0 (by decide) (by decide)
          have hk662 : u647 5 0 = g622 5 0 := hf651 5 0 (by decide) (by decide) (by decide) (by decide) (by decide) (by decide) (by decide) (by decide) (by decide) (by decide) (by decide)
          have hk663 : g622 5 0 = g 5 0 := hf624 5 0 (by decide) (by decide)
          have hk664 : u647 6 0 = g622 6 0 := hf651 6 0 (by decide) (by decide) (by decide) (by decide) (by decide) (by decide) (by decide) (by decide) (by decide) (by decide) (by decide)
          have hk665 : g622 6 0 = g 6 0 := hf624 6 0 (by decide) (by decide)
          have hk666 : u647 7 0 = g622 7 0 := hf651 7 0 (by decide) (by decide) (by decide) (by decide) (by decide) (by decide) (by decide) (by decide) (by decide) (by decide) (by decide)
          have hk667 : g622 7 0 = g 7 0 := hf624 7 0 (by decide) (by decide)
          have hk668 : u647 33 0 = g622 33 0 := hf651 33 0 (by decide) (by decide) (by decide) (by decide) (by decide) (by decide) (by decide) (by decide) (by decide) (by decide) (by decide)
          have hk669 : g622 33 0 = g 33 0 := hf624 33 0 (by decide) (by decide)
          have hk670 : u647 34 0 = g622 34 0 := hf651 34 0 (by decide) (by decide) (by decide) (by decide) (by decide) (by decide) (by decide) (by decide) (by decide) (by decide) (by decide)
          have hk671 : g622 34 0 = g 34 0 := hf624 34 0 (by decide) (by decide)
          have hk672 : u647 35 0 = g622 35 0 := hf651 35 0 (by decide) (by decide) (by decide) (by decide) (by decide) (by decide) (by decide) (by decide) (by decide) (by decide) (by decide)
          have hk673 : u647 36 0 = g622 36 0 := hf651 36 0 (by decide) (by decide) (by decide) (by decide) (by decide) (by decide) (by decide) (by decide) (by decide) (by decide) (by decide)
          have hk674 : g622 36 0 = g 36 0 := hf624 36 0 (by decide) (by decide)
          have hk675 : u647 101 0 = g622 101 0 := hf651 101 0 (by decide) (by decide) (by decide) (by decide) (by decide) (by decide) (by decide) (by decide) (by decide) (by decide) (by decide)
          have hk676 : u647 104 0 = g622 104 0 := hf651 104 0 (by decide) (by decide) (by decide) (by decide) (by decide) (by decide) (by decide) (by decide) (by decide) (by decide) (by decide)
          have hk677 : u647 111 0 = g622 111 0 := hf651 111 0 (by decide) (by decide) (by decide) (by decide) (by decide) (by decide) (by decide) (by decide) (by decide) (by decide) (by decide)
          have hk678 : g622 111 0 = g 111 0 := hf624 111 0 (by decide) (by decide)
          have hk679 : u647 112 0 = g622 112 0 := hf651 112 0 (by decide) (by decide) (by decide) (by decide) (by decide) (by decide) (by decide) (by decide) (by decide) (by decide) (by decide)
          have hk680 : g622 112 0 = g 112 0 := hf624 112 0 (by decide) (by decide)
          have hk681 : u647 114 0 = g622 114 0 := hf651 114 0 (by decide) (by decide) (by decide) (by decide) (by decide) (by decide) (by decide) (by decide) (by decide) (by decide) (by decide)
          have hk682 : g622 114 0 = g 114 0 := hf624 114 0 (by decide) (by decide)
          have hk683 : u647 122 0 = g622 122 0 := hf651 122 0 (by decide) (by decide) (by decide) (by decide) (by decide) (by decide) (by decide) (by decide) (by decide) (by decide) (by decide)
          exact ih x652 Γ621 u647 ((kc + 1)) ((ks + 10)) _ _ ls (by omega) (by omega) (by omega) (by omega) (by omega) (by omega) (by omega) (by omega) (by omega) (by omega) (by omega) (by omega) (by (repeat (first | with_reducible assumption | (refine IJ_c (by decide) (by decide) (by decide) ?_) | (refine IJ_take (by omega) (by omega) ?_) | (refine IJ_how (by omega) ?_) | (refine IJ_by (by omega) ?_)))) hU t_q1 t_q12 t_q25 (by omega) (by omega) hG hS (lv_sub hl [0, 1, 2, 3, 4] rfl)
        · skip
          refine lv_tableIn (tgt := 473) (off := 433) hx hb dL_law_40 (by omega) (by omega) (by rw [q81]; rfl) (by decide) ?_
          refine lv_aload_n hx hb dL_law_473 rfl (lv_at hl 3 rfl) ?_
          refine lv_aload_n hx hb dL_law_474 rfl (lv_at hl 4 rfl) ?_
          refine lv_iload hx hb dL_law_475 (lv_at hl 0 rfl) ?_
          refine ty_iconst hx hb (1) dL_law_477 (by decide) (fun x684 h685 => ?_)
          refine ty_iadd hx hb dL_law_478 (fun x686 h687 => ?_)
          try have h688 : x686.toInt = i.toInt + x684.toInt := ty_add h687 (by omega) (by omega)
          refine va_sld hx hb hXs hbl hbA hS (i := x686) (ty_ix (by omega)) dL_law_479 ?_
          refine lv_topi (fun x689 s690 => ?_)
          refine lv_aload_n hx hb dL_law_480 rfl (lv_at hl 4 rfl) ?_
          refine lv_iload hx hb dL_law_481 (lv_at hl 0 rfl) ?_
          refine ty_iconst hx hb (2) dL_law_483 (by decide) (fun x691 h692 => ?_)
          refine ty_iadd hx hb dL_law_484 (fun x693 h694 => ?_)
          try have h695 : x693.toInt = i.toInt + x691.toInt := ty_add h694 (by omega) (by omega)
          refine va_sld hx hb hXs hbl hbA hS (i := x693) (ty_ix (by omega)) dL_law_485 ?_
          refine lv_topi (fun x696 s697 => ?_)
          refine lv_aload_n hx hb dL_law_486 rfl (lv_at hl 4 rfl) ?_
          refine lv_iload hx hb dL_law_487 (lv_at hl 0 rfl) ?_
          refine ty_iconst hx hb (3) dL_law_489 (by decide) (fun x698 h699 => ?_)
          refine ty_iadd hx hb dL_law_490 (fun x700 h701 => ?_)
          try have h702 : x700.toInt = i.toInt + x698.toInt := ty_add h701 (by omega) (by omega)
          refine va_sld hx hb hXs hbl hbA hS (i := x700) (ty_ix (by omega)) dL_law_491 ?_
          refine lv_topi (fun x703 s704 => ?_)
          refine lv_aload_n hx hb dL_law_492 rfl (lv_at hl 4 rfl) ?_
          refine lv_iload hx hb dL_law_493 (lv_at hl 0 rfl) ?_
          refine ty_iconst hx hb (4) dL_law_495 (by decide) (fun x705 h706 => ?_)
          refine ty_iadd hx hb dL_law_496 (fun x707 h708 => ?_)
          try have h709 : x707.toInt = i.toInt + x705.toInt := ty_add h708 (by omega) (by omega)
          refine va_sld hx hb hXs hbl hbA hS (i := x707) (ty_ix (by omega)) dL_law_497 ?_
          refine lv_topi (fun x710 s711 => ?_)
          refine lv_aload_n hx hb dL_law_498 rfl (lv_at hl 4 rfl) ?_
          refine lv_iload hx hb dL_law_499 (lv_at hl 0 rfl) ?_
          refine ty_iconst hx hb (5) dL_law_501 (by decide) (fun x712 h713 => ?_)
          refine ty_iadd hx hb dL_law_502 (fun x714 h715 => ?_)
          try have h716 : x714.toInt = i.toInt + x712.toInt := ty_add h715 (by omega) (by omega)
          refine va_sld hx hb hXs hbl hbA hS (i := x714) (ty_ix (by omega)) dL_law_503 ?_
          refine lv_topi (fun x717 s718 => ?_)
          refine cIB (va_runV (C := RX8) (As := [.int x689, .int x696, .int x703, .int x710, .int x717]) (rest := []) ⟨hx, hb, hml, hown, hA⟩ (k_X8_wish l dC dI dA sz X Γ hU g q1 t_q1 x689 x696 x703 x710 x717   (by omega)) ⟨callB_of 5 hA (al_A wd_3_68) rfl rfl rfl (hA _ wd_1_1) (hA _ wd_3_65) (by decide +kernel) ⟨Nat.le_of_ble_eq_true rfl, Nat.le_of_ble_eq_true rfl⟩, hA _ wd_3_66, hA _ wd_3_67⟩ ⟨bl, recv_X8 hE hG t_q1, fun U hU9 hW9 => ⟨rfl, by rw [hU9]; exact hG, hE.go hS hU9 hW9⟩⟩ rfl rfl hl.1 rfl (lv_room (Nat.le_of_ble_eq_true rfl)) dL_law_504 ⟨(Nat.le_trans (show kc + 1 ≤ 300000 by omega) (Nat.le_of_ble_eq_true rfl)), (Nat.le_trans (show ks + 4 ≤ 300000 by omega) (Nat.le_of_ble_eq_true rfl))⟩) hS (fun x721 u719 H locs w720 hG hS => ?_)
          obtain ⟨Γ722, g723⟩ := u719
          dsimp only at w720 hG
          obtain ⟨hx724, hU, eu727⟩ := w720
          rw [eu727] at hG
          have hX728 : ext Γ Γ722 := ext.trans ext.rf hx724
          replace t_q25 : ty Γ722 q25 25 := hx724.one t_q25 (by decide)
          replace t_q12 : ty Γ722 q12 30 := hx724.one t_q12 (by decide)
          replace t_q1 : ty Γ722 q1 1 := hx724.one t_q1 (by decide)
          refine lv_pop hx hb dL_law_507 rfl ?_
          refine lv_aload_n hx hb dL_law_508 rfl (lv_at hl 2 rfl) ?_
          refine lv_aload_n hx hb dL_law_509 rfl (lv_at hl 4 rfl) ?_
          refine lv_iload hx hb dL_law_510 (lv_at hl 0 rfl) ?_
          refine ty_iconst hx hb (1) dL_law_512 (by decide) (fun x729 h730 => ?_)
          refine ty_iadd hx hb dL_law_513 (fun x731 h732 => ?_)
          try have h733 : x731.toInt = i.toInt + x729.toInt := ty_add h732 (by omega) (by omega)
          refine va_sld hx hb hXs hbl hbA hS (i := x731) (ty_ix (by omega)) dL_law_514 ?_
          rw [lw_same (j := x731) s690 (by omega)]
          refine lv_aload_n hx hb dL_law_515 rfl (lv_at hl 4 rfl) ?_
          refine lv_iload hx hb dL_law_516 (lv_at hl 0 rfl) ?_
          refine ty_iconst hx hb (2) dL_law_518 (by decide) (fun x734 h735 => ?_)
          refine ty_iadd hx hb dL_law_519 (fun x736 h737 => ?_)
          try have h738 : x736.toInt = i.toInt + x734.toInt := ty_add h737 (by omega) (by omega)
          refine va_sld hx hb hXs hbl hbA hS (i := x736) (ty_ix (by omega)) dL_law_520 ?_
          rw [lw_same (j := x736) s697 (by omega)]
          refine lv_aload_n hx hb dL_law_521 rfl (lv_at hl 4 rfl) ?_
          refine lv_iload hx hb dL_law_522 (lv_at hl 0 rfl) ?_
          refine ty_iconst hx hb (3) dL_law_524 (by decide) (fun x739 h740 => ?_)
          refine ty_iadd hx hb dL_law_525 (fun x741 h742 => ?_)
          try have h743 : x741.toInt = i.toInt + x739.toInt := ty_add h742 (by omega) (by omega)
          refine va_sld hx hb hXs hbl hbA hS (i := x741) (ty_ix (by omega)) dL_law_526 ?_
          rw [lw_same (j := x741) s704 (by omega)]
          refine lv_aload_n hx hb dL_law_527 rfl (lv_at hl 4 rfl) ?_
          refine lv_iload hx hb dL_law_528 (lv_at hl 0 rfl) ?_
          refine ty_iconst hx hb (4) dL_law_530 (by decide) (fun x744 h745 => ?_)
          refine ty_iadd hx hb dL_law_531 (fun x746 h747 => ?_)
          try have h748 : x746.toInt = i.toInt + x744.toInt := ty_add h747 (by omega) (by omega)
          refine va_sld hx hb hXs hbl hbA hS (i := x746) (ty_ix (by omega)) dL_law_532 ?_
          rw [lw_same (j := x746) s711 (by omega)]
          refine lv_aload_n hx hb dL_law_533 rfl (lv_at hl 4 rfl) ?_
          refine lv_iload hx hb dL_law_534 (lv_at hl 0 rfl) ?_
          refine ty_iconst hx hb (5) dL_law_536 (by decide) (fun x749 h750 => ?_)
          refine ty_iadd hx hb dL_law_537 (fun x751 h752 => ?_)
          try have h753 : x751.toInt = i.toInt + x749.toInt := ty_add h752 (by omega) (by omega)
          refine va_sld hx hb hXs hbl hbA hS (i := x751) (ty_ix (by omega)) dL_law_538 ?_
          rw [lw_same (j := x751) s718 (by omega)]
          refine cI (va_runV (C := RX9) (As := [.int x689, .int x696, .int x703, .int x710, .int x717]) (rest := []) ⟨hx, hb, hml, hown, hA⟩ (k_X9_wish l dC dI dA sz X Γ722 hU g q12 t_q12 x689 x696 x703 x710 x717   (by omega)) ⟨callB_of 5 hA (al_A wd_5_132) rfl rfl rfl (hA _ wd_1_7) (hA _ wd_5_129) (by decide +kernel) ⟨Nat.le_of_ble_eq_true rfl, Nat.le_of_ble_eq_true rfl⟩, hA _ wd_5_130, hA _ wd_5_131⟩ ⟨bl, recv_X9 hE hG t_q12, fun U hU9 hW9 => ⟨rfl, by rw [hU9]; exact hG, hE.go hS hU9 hW9⟩⟩ rfl rfl hl.1 rfl (lv_room (Nat.le_of_ble_eq_true rfl)) dL_law_539 ⟨(Nat.le_trans (show (kc + 1) + 0 ≤ 300000 by omega) (Nat.le_of_ble_eq_true rfl)), (Nat.le_trans (show (ks + 4) + 0 ≤ 300000 by omega) (Nat.le_of_ble_eq_true rfl))⟩) hS (fun x756 u754 H locs w755 hG hS => ?_)
          have hf757 := w755
          have hj758 : IJ u754 := IJ_cg (hf757 126 0 (by decide) (by decide)) (fun j => hf757 132 j (by decide) (by decide)) (fun j => hf757 134 j (by decide) (by decide)) (by (repeat (first | with_reducible assumption | (refine IJ_c (by decide) (by decide) (by decide) ?_) | (refine IJ_take (by omega) (by omega) ?_) | (refine IJ_how (by omega) ?_) | (refine IJ_by (by omega) ?_))))
          refine lv_pop hx hb dL_law_542 rfl ?_
          refine lv_goto (tgt := 1047) hx hb dL_law_543 (by decide) ?_
          obtain ⟨x759, h760⟩ : ∃ y : Int32, y = i + Int32.ofInt (6) := ⟨_, rfl⟩
          try have h761 : x759.toInt = i.toInt + (6) := ty_inc h760 (by decide) (by omega) (by omega)
          refine lv_iinc (v := x759) (lv' := [(4, .int x759), (3, .ref q25), (2, .ref q12), (1, .ref q1), (0, .ref b)]) hx hb dL_law_1047 hl (k := 0) rfl h760.symm (by decide) rfl (fun ls hl => ?_)
          refine lv_goto (tgt := 23) hx hb dL_law_1050 (by decide) ?_
          have hk762 : u754 1 0 = g 1 0 := hf757 1 0 (by decide) (by decide)
          have hk763 : u754 2 0 = g 2 0 := hf757 2 0 (by decide) (by decide)
          have hk764 : u754 3 0 = g 3 0 := hf757 3 0 (by decide) (by decide)
          have hk765 : u754 4 0 = g 4 0 := hf757 4 0 (by decide) (by decide)
          have hk766 : u754 5 0 = g 5 0 := hf757 5 0 (by decide) (by decide)
          have hk767 : u754 6 0 = g 6 0 := hf757 6 0 (by decide) (by decide)
          have hk768 : u754 7 0 = g 7 0 := hf757 7 0 (by decide) (by decide)
          have hk769 : u754 33 0 = g 33 0 := hf757 33 0 (by decide) (by decide)
          have hk770 : u754 34 0 = g 34 0 := hf757 34 0 (by decide) (by decide)
          have hk771 : u754 35 0 = g 35 0 := hf757 35 0 (by decide) (by decide)
          have hk772 : u754 36 0 = g 36 0 := hf757 36 0 (by decide) (by decide)
          have hk773 : u754 101 0 = g 101 0 := hf757 101 0 (by decide) (by decide)
          have hk774 : u754 104 0 = g 104 0 := hf757 104 0 (by decide) (by decide)
          have hk775 : u754 111 0 = g 111 0 := hf757 111 0 (by decide) (by decide)
          have hk776 : u754 112 0 = g 112 0 := hf757 112 0 (by decide) (by decide)
          have hk777 : u754 114 0 = g 114 0 := hf757 114 0 (by decide) (by decide)
          have hk778 : u754 122 0 = g 122 0 := hf757 122 0 (by decide) (by decide)
          have hk779 : u754 126 0 = g 126 0 := hf757 126 0 (by decide) (by decide)
          exact ih x759 Γ722 u754 ((kc + 1)) ((ks + 4)) _ _ ls (by omega) (by omega) (by omega) (by omega) (by omega) (by omega) (by omega) (by omega) (by omega) (by omega) (by omega) (by omega) (by (repeat (first | with_reducible assumption | (refine IJ_c (by decide) (by decide) (by decide) ?_) | (refine IJ_take (by omega) (by omega) ?_) | (refine IJ_how (by omega) ?_) | (refine IJ_by (by omega) ?_)))) hU t_q1 t_q12 t_q25 (by omega) (by omega) hG hS (lv_sub hl [0, 1, 2, 3, 4] rfl)
        · skip
          refine lv_tableIn (tgt := 546) (off := 506) hx hb dL_law_40 (by omega) (by omega) (by rw [q82]; rfl) (by decide) ?_
          refine lv_aload_n hx hb dL_law_546 rfl (lv_at hl 3 rfl) ?_
          refine lv_aload_n hx hb dL_law_547 rfl (lv_at hl 4 rfl) ?_
          refine lv_iload hx hb dL_law_548 (lv_at hl 0 rfl) ?_
          refine ty_iconst hx hb (1) dL_law_550 (by decide) (fun x780 h781 => ?_)
          refine ty_iadd hx hb dL_law_551 (fun x782 h783 => ?_)
          try have h784 : x782.toInt = i.toInt + x780.toInt := ty_add h783 (by omega) (by omega)
          refine va_sld hx hb hXs hbl hbA hS (i := x782) (ty_ix (by omega)) dL_law_552 ?_
          refine lv_topi (fun x785 s786 => ?_)
          refine lv_aload_n hx hb dL_law_553 rfl (lv_at hl 4 rfl) ?_
          refine lv_iload hx hb dL_law_554 (lv_at hl 0 rfl) ?_
          refine ty_iconst hx hb (2) dL_law_556 (by decide) (fun x787 h788 => ?_)
          refine ty_iadd hx hb dL_law_557 (fun x789 h790 => ?_)
          try have h791 : x789.toInt = i.toInt + x787.toInt := ty_add h790 (by omega) (by omega)
          refine va_sld hx hb hXs hbl hbA hS (i := x789) (ty_ix (by omega)) dL_law_558 ?_
          refine lv_topi (fun x792 s793 => ?_)
          refine lv_aload_n hx hb dL_law_559 rfl (lv_at hl 4 rfl) ?_
          refine lv_iload hx hb dL_law_560 (lv_at hl 0 rfl) ?_
          refine ty_iconst hx hb (3) dL_law_562 (by decide) (fun x794 h795 => ?_)
          refine ty_iadd hx hb dL_law_563 (fun x796 h797 => ?_)
          try have h798 : x796.toInt = i.toInt + x794.toInt := ty_add h797 (by omega) (by omega)
          refine va_sld hx hb hXs hbl hbA hS (i := x796) (ty_ix (by omega)) dL_law_564 ?_
          refine lv_topi (fun x799 s800 => ?_)
          refine lv_aload_n hx hb dL_law_565 rfl (lv_at hl 4 rfl) ?_
          refine lv_iload hx hb dL_law_566 (lv_at hl 0 rfl) ?_
          refine ty_iconst hx hb (4) dL_law_568 (by decide) (fun x801 h802 => ?_)
          refine ty_iadd hx hb dL_law_569 (fun x803 h804 => ?_)
          try have h805 : x803.toInt = i.toInt + x801.toInt := ty_add h804 (by omega) (by omega)
          refine va_sld hx hb hXs hbl hbA hS (i := x803) (ty_ix (by omega)) dL_law_570 ?_
          refine lv_topi (fun x806 s807 => ?_)
          refine lv_aload_n hx hb dL_law_571 rfl (lv_at hl 4 rfl) ?_
          refine lv_iload hx hb dL_law_572 (lv_at hl 0 rfl) ?_
          refine ty_iconst hx hb (5) dL_law_574 (by decide) (fun x808 h809 => ?_)
          refine ty_iadd hx hb dL_law_575 (fun x810 h811 => ?_)
          try have h812 : x810.toInt = i.toInt + x808.toInt := ty_add h811 (by omega) (by omega)
          refine va_sld hx hb hXs hbl hbA hS (i := x810) (ty_ix (by omega)) dL_law_576 ?_
          refine lv_topi (fun x813 s814 => ?_)
          refine cIB (va_runV (C := RX8) (As := [.int x785, .int x792, .int x799, .int x806, .int x813]) (rest := []) ⟨hx, hb, hml, hown, hA⟩ (k_X8_rushWish l dC dI dA sz X Γ hU g q1 t_q1 x785 x792 x799 x806 x813   (by omega)) ⟨callB_of 5 hA (al_A wd_3_106) rfl rfl rfl (hA _ wd_1_1) (hA _ wd_3_103) (by decide +kernel) ⟨Nat.le_of_ble_eq_true rfl, Nat.le_of_ble_eq_true rfl⟩, hA _ wd_3_104, hA _ wd_3_105⟩ ⟨bl, recv_X8 hE hG t_q1, fun U hU9 hW9 => ⟨rfl, by rw [hU9]; exact hG, hE.go hS hU9 hW9⟩⟩ rfl rfl hl.1 rfl (lv_room (Nat.le_of_ble_eq_true rfl)) dL_law_577 ⟨(Nat.le_trans (show kc + 1 ≤ 300000 by omega) (Nat.le_of_ble_eq_true rfl)), (Nat.le_trans (show ks + 4 ≤ 300000 by omega) (Nat.le_of_ble_eq_true rfl))⟩) hS (fun x817 u815 H locs w816 hG hS => ?_)
          obtain ⟨Γ818, g819⟩ := u815
          dsimp only at w816 hG
          obtain ⟨hx820, hU, eu823⟩ := w816
          rw [eu823] at hG
          have hX824 : ext Γ Γ818 := ext.trans ext.rf hx820
          replace t_q25 : ty Γ818 q25 25 := hx820.one t_q25 (by decide)
          replace t_q12 : ty Γ818 q12 30 := hx820.one t_q12 (by decide)
          replace t_q1 : ty Γ818 q1 1 := hx820.one t_q1 (by decide)
          refine lv_pop hx hb dL_law_580 rfl ?_
          refine lv_aload_n hx hb dL_law_581 rfl (lv_at hl 2 rfl) ?_
          refine lv_aload_n hx hb dL_law_582 rfl (lv_at hl 4 rfl) ?_
          refine lv_iload hx hb dL_law_583 (lv_at hl 0 rfl) ?_
          refine ty_iconst hx hb (1) dL_law_585 (by decide) (fun x825 h826 => ?_)
          refine ty_iadd hx hb dL_law_586 (fun x827 h828 => ?_)
          try have h829 : x827.toInt = i.toInt + x825.toInt := ty_add h828 (by omega) (by omega)
          refine va_sld hx hb hXs hbl hbA hS (i := x827) (ty_ix (by omega)) dL_law_587 ?_
          rw [lw_same (j := x827) s786 (by omega)]
          refine lv_aload_n hx hb dL_law_588 rfl (lv_at hl 4 rfl) ?_
          refine lv_iload hx hb dL_law_589 (lv_at hl 0 rfl) ?_
          refine ty_iconst hx hb (2) dL_law_591 (by decide) (fun x830 h831 => ?_)
          refine ty_iadd hx hb dL_law_592 (fun x832 h833 => ?_)
          try have h834 : x832.toInt = i.toInt + x830.toInt := ty_add h833 (by omega) (by omega)
          refine va_sld hx hb hXs hbl hbA hS (i := x832) (ty_ix (by omega)) dL_law_593 ?_
          rw [lw_same (j := x832) s793 (by omega)]
          refine lv_aload_n hx hb dL_law_594 rfl (lv_at hl 4 rfl) ?_
          refine lv_iload hx hb dL_law_595 (lv_at hl 0 rfl) ?_
          refine ty_iconst hx hb (3) dL_law_597 (by decide) (fun x835 h836 => ?_)
          refine ty_iadd hx hb dL_law_598 (fun x837 h838 => ?_)
          try have h839 : x837.toInt = i.toInt + x835.toInt := ty_add h838 (by omega) (by omega)
          refine va_sld hx hb hXs hbl hbA hS (i := x837) (ty_ix (by omega)) dL_law_599 ?_
          rw [lw_same (j := x837) s800 (by omega)]
          refine lv_aload_n hx hb dL_law_600 rfl (lv_at hl 4 rfl) ?_
          refine lv_iload hx hb dL_law_601 (lv_at hl 0 rfl) ?_
          refine ty_iconst hx hb (4) dL_law_603 (by decide) (fun x840 h841 => ?_)
          refine ty_iadd hx hb dL_law_604 (fun x842 h843 => ?_)
          try have h844 : x842.toInt = i.toInt + x840.toInt := ty_add h843 (by omega) (by omega)
          refine va_sld hx hb hXs hbl hbA hS (i := x842) (ty_ix (by omega)) dL_law_605 ?_
          rw [lw_same (j := x842) s807 (by omega)]
          refine lv_aload_n hx hb dL_law_606 rfl (lv_at hl 4 rfl) ?_
          refine lv_iload hx hb dL_law_607 (lv_at hl 0 rfl) ?_
          refine ty_iconst hx hb (5) dL_law_609 (by decide) (fun x845 h846 => ?_)
          refine ty_iadd hx hb dL_law_610 (fun x847 h848 => ?_)
          try have h849 : x847.toInt = i.toInt + x845.toInt := ty_add h848 (by omega) (by omega)
          refine va_sld hx hb hXs hbl hbA hS (i := x847) (ty_ix (by omega)) dL_law_611 ?_
          rw [lw_same (j := x847) s814 (by omega)]
          refine cI (va_runV (C := RX9) (As := [.int x785, .int x792, .int x799, .int x806, .int x813]) (rest := []) ⟨hx, hb, hml, hown, hA⟩ (k_X9_rushWish l dC dI dA sz X Γ818 hU g q12 t_q12 x785 x792 x799 x806 x813   (by omega)) ⟨callB_of 5 hA (al_A wd_5_144) rfl rfl rfl (hA _ wd_1_7) (hA _ wd_5_141) (by decide +kernel) ⟨Nat.le_of_ble_eq_true rfl, Nat.le_of_ble_eq_true rfl⟩, hA _ wd_5_142, hA _ wd_5_143⟩ ⟨bl, recv_X9 hE hG t_q12, fun U hU9 hW9 => ⟨rfl, by rw [hU9]; exact hG, hE.go hS hU9 hW9⟩⟩ rfl rfl hl.1 rfl (lv_room (Nat.le_of_ble_eq_true rfl)) dL_law_612 ⟨(Nat.le_trans (show (kc + 1) + 0 ≤ 300000 by omega) (Nat.le_of_ble_eq_true rfl)), (Nat.le_trans (show (ks + 4) + 0 ≤ 300000 by omega) (Nat.le_of_ble_eq_true rfl))⟩) hS (fun x852 u850 H locs w851 hG hS => ?_)
          have hf853 := w851
          have hj854 : IJ u850 := IJ_cg (hf853 126 0 (by decide) (by decide)) (fun j => hf853 132 j (by decide) (by decide)) (fun j => hf853 134 j (by decide) (by decide)) (by (repeat (first | with_reducible assumption | (refine IJ_c (by decide) (by decide) (by decide) ?_) | (refine IJ_take (by omega) (by omega) ?_) | (refine IJ_how (by omega) ?_) | (refine IJ_by (by omega) ?_))))
          refine lv_pop hx hb dL_law_615 rfl ?_
          refine lv_goto (tgt := 1047) hx hb dL_law_616 (by decide) ?_
          obtain ⟨x855, h856⟩ : ∃ y : Int32, y = i + Int32.ofInt (6) := ⟨_, rfl⟩
          try have h857 : x855.toInt = i.toInt + (6) := ty_inc h856 (by decide) (by omega) (by omega)
          refine lv_iinc (v := x855) (lv' := [(4, .int x855), (3, .ref q25), (2, .ref q12), (1, .ref q1), (0, .ref b)]) hx hb dL_law_1047 hl (k := 0) rfl h856.symm (by decide) rfl (fun ls hl => ?_)
          refine lv_goto (tgt := 23) hx hb dL_law_1050 (by decide) ?_
          have hk858 : u850 1 0 = g 1 0 := hf853 1 0 (by decide) (by decide)
          have hk859 : u850 2 0 = g 2 0 := hf853 2 0 (by decide) (by decide)
          have hk860 : u850 3 0 = g 3 0 := hf853 3 0 (by decide) (by decide)
          have hk861 : u850 4 0 = g 4 0 := hf853 4 0 (by decide) (by decide)
          have hk862 : u850 5 0 = g 5 0 := hf853 5 0 (by decide) (by decide)
          have hk863 : u850 6 0 = g 6 0 := hf853 6 0 (by decide) (by decide)
          have hk864 : u850 7 0 = g 7 0 := hf853 7 0 (by decide) (by decide)
          have hk865 : u850 33 0 = g 33 0 := hf853 33 0 (by decide) (by decide)
          have hk866 : u850 34 0 = g 34 0 := hf853 34 0 (by decide) (by decide)
          have hk867 : u850 35 0 = g 35 0 := hf853 35 0 (by decide) (by decide)
          have hk868 : u850 36 0 = g 36 0 := hf853 36 0 (by decide) (by decide)
          have hk869 : u850 101 0 = g 101 0 := hf853 101 0 (by decide) (by decide)
          have hk870 : u850 104 0 = g 104 0 := hf853 104 0 (by decide) (by decide)
          have hk871 : u850 111 0 = g 111 0 := hf853 111 0 (by decide) (by decide)
          have hk872 : u850 112 0 = g 112 0 := hf853 112 0 (by decide) (by decide)
          have hk873 : u850 114 0 = g 114 0 := hf853 114 0 (by decide) (by decide)
          have hk874 : u850 122 0 = g 122 0 := hf853 122 0 (by decide) (by decide)
          have hk875 : u850 126 0 = g 126 0 := hf853 126 0 (by decide) (by decide)
          exact ih x855 Γ818 u850 ((kc + 1)) ((ks + 4)) _ _ ls (by omega) (by omega) (by omega) (by omega) (by omega) (by omega) (by omega) (by omega) (by omega) (by omega) (by omega) (by omega) (by (repeat (first | with_reducible assumption | (refine IJ_c (by decide) (by decide) (by decide) ?_) | (refine IJ_take (by omega) (by omega) ?_) | (refine IJ_how (by omega) ?_) | (refine IJ_by (by omega) ?_)))) hU t_q1 t_q12 t_q25 (by omega) (by omega) hG hS (lv_sub hl [0, 1, 2, 3, 4] rfl)
        · skip
          refine lv_tableIn (tgt := 619) (off := 579) hx hb dL_law_40 (by omega) (by omega) (by rw [q83]; rfl) (by decide) ?_
          refine lv_aload_n hx hb dL_law_619 rfl (lv_at hl 3 rfl) ?_
          refine lv_aload_n hx hb dL_law_620 rfl (lv_at hl 4 rfl) ?_
          refine lv_iload hx hb dL_law_621 (lv_at hl 0 rfl) ?_
          refine ty_iconst hx hb (1) dL_law_623 (by decide) (fun x876 h877 => ?_)
          refine ty_iadd hx hb dL_law_624 (fun x878 h879 => ?_)
          try have h880 : x878.toInt = i.toInt + x876.toInt := ty_add h879 (by omega) (by omega)
          refine va_sld hx hb hXs hbl hbA hS (i := x878) (ty_ix (by omega)) dL_law_625 ?_
          refine lv_topi (fun x881 s882 => ?_)
          refine cI (va_runV (C := RX8) (As := [.int x881]) (rest := []) ⟨hx, hb, hml, hown, hA⟩ (k_X8_rings l dC dI dA sz X Γ hU g q1 t_q1 x881   (by omega) (by omega)) ⟨callB_of 1 hA (al_A wd_3_110) rfl rfl rfl (hA _ wd_1_1) (hA _ wd_3_107) (by decide +kernel) ⟨Nat.le_of_ble_eq_true rfl, Nat.le_of_ble_eq_true rfl⟩, hA _ wd_3_108, hA _ wd_3_109⟩ ⟨bl, recv_X8 hE hG t_q1, fun U hU9 hW9 => ⟨rfl, by rw [hU9]; exact hG, hE.go hS hU9 hW9⟩⟩ rfl rfl hl.1 rfl (lv_room (Nat.le_of_ble_eq_true rfl)) dL_law_626 ⟨(Nat.le_trans (show kc + 0 ≤ 300000 by omega) (Nat.le_of_ble_eq_true rfl)), (Nat.le_trans (show ks + 0 ≤ 300000 by omega) (Nat.le_of_ble_eq_true rfl))⟩) hS (fun x885 u883 H locs w884 hG hS => ?_)
          obtain ⟨hf886, w884⟩ := w884
          have hj887 : IJ u883 := IJ_cg (hf886 126 0 (by decide) (by decide) (by decide)) (fun j => hf886 132 j (by decide) (by decide) (by decide)) (fun j => hf886 134 j (by decide) (by decide) (by decide)) (by (repeat (first | with_reducible assumption | (refine IJ_c (by decide) (by decide) (by decide) ?_) | (refine IJ_take (by omega) (by omega) ?_) | (refine IJ_how (by omega) ?_) | (refine IJ_by (by omega) ?_))))
          refine lv_pop hx hb dL_law_629 rfl ?_
          refine lv_aload_n hx hb dL_law_630 rfl (lv_at hl 2 rfl) ?_
          refine lv_aload_n hx hb dL_law_631 rfl (lv_at hl 4 rfl) ?_
          refine lv_iload hx hb dL_law_632 (lv_at hl 0 rfl) ?_
          refine ty_iconst hx hb (1) dL_law_634 (by decide) (fun x888 h889 => ?_)
          refine ty_iadd hx hb dL_law_635 (fun x890 h891 => ?_)
          try have h892 : x890.toInt = i.toInt + x888.toInt := ty_add h891 (by omega) (by omega)
          refine va_sld hx hb hXs hbl hbA hS (i := x890) (ty_ix (by omega)) dL_law_636 ?_
          rw [lw_same (j := x890) s882 (by omega)]
          have hk893 : u883 126 0 = g 126 0 := hf886 126 0 (by decide) (by decide) (by decide)
          refine cI (va_runV (C := RX9) (As := [.int x881]) (rest := []) ⟨hx, hb, hml, hown, hA⟩ (k_X9_rings l dC dI dA sz X Γ hU u883 q12 t_q12 x881   (by omega) (by (repeat (first | with_reducible assumption | (refine IJ_c (by decide) (by decide) (by decide) ?_) | (refine IJ_take (by omega) (by omega) ?_) | (refine IJ_how (by omega) ?_) | (refine IJ_by (by omega) ?_))))) ⟨callB_of 1 hA (al_A wd_5_148) rfl rfl rfl (hA _ wd_1_7) (hA _ wd_5_145) (by decide +kernel) ⟨Nat.le_of_ble_eq_true rfl, Nat.le_of_ble_eq_true rfl⟩, hA _ wd_5_146, hA _ wd_5_147⟩ ⟨bl, recv_X9 hE hG t_q12, fun U hU9 hW9 => ⟨rfl, by rw [hU9]; exact hG, hE.go hS hU9 hW9⟩⟩ rfl rfl hl.1 rfl (lv_room (Nat.le_of_ble_eq_true rfl)) dL_law_637 ⟨(Nat.le_trans (show kc + 0 ≤ 300000 by omega) (Nat.le_of_ble_eq_true rfl)), (Nat.le_trans (show ks + 0 ≤ 300000 by omega) (Nat.le_of_ble_eq_true rfl))⟩) hS (fun x896 u894 H locs w895 hG hS => ?_)
          obtain ⟨hf898, hq897⟩ := w895
          refine lv_pop hx hb dL_law_640 rfl ?_
          refine lv_goto (tgt := 1047) hx hb dL_law_641 (by decide) ?_
          obtain ⟨x899, h900⟩ : ∃ y : Int32, y = i + Int32.ofInt (6) := ⟨_, rfl⟩
          try have h901 : x899.toInt = i.toInt + (6) := ty_inc h900 (by decide) (by omega) (by omega)
          refine lv_iinc (v := x899) (lv' := [(4, .int x899), (3, .ref q25), (2, .ref q12), (1, .ref q1), (0, .ref b)]) hx hb dL_law_1047 hl (k := 0) rfl h900.symm (by decide) rfl (fun ls hl => ?_)
          refine lv_goto (tgt := 23) hx hb dL_law_1050 (by decide) ?_
          have hk902 : u894 1 0 = u883 1 0 := hf898 1 0 (by decide) (by decide) (by decide) (by decide) (by decide) (by decide) (by decide) (by decide) (by decide) (by decide) (by decide) (by decide)
          have hk903 : u883 1 0 = g 1 0 := hf886 1 0 (by decide) (by decide) (by decide)
          have hk904 : u894 2 0 = u883 2 0 := hf898 2 0 (by decide) (by decide) (by decide) (by decide) (by decide) (by decide) (by decide) (by decide) (by decide) (by decide) (by decide) (by decide)
          have hk905 : u883 2 0 = g 2 0 := hf886 2 0 (by decide) (by decide) (by decide)
          have hk906 : u894 3 0 = u883 3 0 := hf898 3 0 (by decide) (by decide) (by decide) (by decide) (by decide) (by decide) (by decide) (by decide) (by decide) (by decide) (by decide) (by decide)
          have hk907 : u883 3 0 = g 3 0 := hf886 3 0 (by decide) (by decide) (by decide)
          have hk908 : u894 4 0 = u883 4 0 := hf898 4 0 (by decide) (by decide) (by decide) (by decide) (by decide) (by decide) (by decide) (by decide) (by decide) (by decide) (by decide) (by decide)
          have hk909 : u883 4 0 = g 4 0 := hf886 4 0 (by decide) (by decide) (by decide)
          have hk910 : u894 5 0 = u883 5 0 := hf898 5 0 (by decide) (by decide) (by decide) (by decide) (by decide) (by decide) (by decide) (by decide) (by decide) (by decide) (by decide) (by decide)
          have hk911 : u883 5 0 = g 5 0 := hf886 5 0 (by decide) (by decide) (by decide)
          have hk912 : u894 6 0 = u883 6 0 := hf898 6 0 (by decide) (by decide) (by decide) (by decide) (by decide) (by decide) (by decide) (by decide) (by decide) (by decide) (by decide) (by decide)
          have hk913 : u883 6 0 = g 6 0 := hf886 6 0 (by decide) (by decide) (by decide)
          have hk914 : u894 7 0 = u883 7 0 := hf898 7 0 (by decide) (by decide) (by decide) (by decide) (by decide) (by decide) (by decide) (by decide) (by decide) (by decide) (by decide) (by decide)
          have hk915 : u894 33 0 = u883 33 0 := hf898 33 0 (by decide) (by decide) (by decide) (by decide) (by decide) (by decide) (by decide) (by decide) (by decide) (by decide) (by decide) (by decide)
          have hk916 : u883 33 0 = g 33 0 := hf886 33 0 (by decide) (by decide) (by decide)
          have hk917 : u894 34 0 = u883 34 0 := hf898 34 0 (by decide) (by decide) (by decide) (by decide) (by decide) (by decide) (by decide) (by decide) (by decide) (by decide) (by decide) (by decide)
          have hk918 : u883 34 0 = g 34 0 := hf886 34 0 (by decide) (by decide) (by decide)
          have hk919 : u894 35 0 = u883 35 0 := hf898 35 0 (by decide) (by decide) (by decide) (by decide) (by decide) (by decide) (by decide) (by decide) (by decide) (by decide) (by decide) (by decide)
          have hk920 : u883 35 0 = g 35 0 := hf886 35 0 (by decide) (by decide) (by decide)
          have hk921 : u894 36 0 = u883 36 0 := hf898 36 0 (by decide) (by decide) (by decide) (by decide) (by decide) (by decide) (by decide) (by decide) (by decide) (by decide) (by decide) (by decide)
          have hk922 : u894 101 0 = u883 101 0 := hf898 101 0 (by decide) (by decide) (by decide) (by decide) (by decide) (by decide) (by decide) (by decide) (by decide) (by decide) (by decide) (by decide)
          have hk923 : u883 101 0 = g 101 0 := hf886 101 0 (by decide) (by decide) (by decide)
          have hk924 : u894 104 0 = u883 104 0 := hf898 104 0 (by decide) (by decide) (by decide) (by decide) (by decide) (by decide) (by decide) (by decide) (by decide) (by decide) (by decide) (by decide)
          have hk925 : u883 104 0 = g 104 0 := hf886 104 0 (by decide) (by decide) (by decide)
          have hk926 : u894 111 0 = u883 111 0 := hf898 111 0 (by decide) (by decide) (by decide) (by decide) (by decide) (by decide) (by decide) (by decide) (by decide) (by decide) (by decide) (by decide)
          have hk927 : u883 111 0 = g 111 0 := hf886 111 0 (by decide) (by decide) (by decide)
          have hk928 : u894 112 0 = u883 112 0 := hf898 112 0 (by decide) (by decide) (by decide) (by decide) (by decide) (by decide) (by decide) (by decide) (by decide) (by decide) (by decide) (by decide)
          have hk929 : u883 112 0 = g 112 0 := hf886 112 0 (by decide) (by decide) (by decide)
          have hk930 : u894 114 0 = u883 114 0 := hf898 114 0 (by decide) (by decide) (by decide) (by decide) (by decide) (by decide) (by decide) (by decide) (by decide) (by decide) (by decide) (by decide)
          have hk931 : u883 114 0 = g 114 0 := hf886 114 0 (by decide) (by decide) (by decide)
          have hk932 : u894 122 0 = u883 122 0 := hf898 122 0 (by decide) (by decide) (by decide) (by decide) (by decide) (by decide) (by decide) (by decide) (by decide) (by decide) (by decide) (by decide)
          have hk933 : u883 122 0 = g 122 0 := hf886 122 0 (by decide) (by decide) (by decide)
          have hk934 : u894 126 0 = u883 126 0 := hf898 126 0 (by decide) (by decide) (by decide) (by decide) (by decide) (by decide) (by decide) (by decide) (by decide) (by decide) (by decide) (by decide)
          exact ih x899 Γ u894 (kc) (ks) _ _ ls (by omega) (by omega) (by omega) (by omega) (by omega) (by omega) (by omega) (by omega) (by omega) (by omega) (by omega) (by omega) (by (repeat (first | with_reducible assumption | (refine IJ_c (by decide) (by decide) (by decide) ?_) | (refine IJ_take (by omega) (by omega) ?_) | (refine IJ_how (by omega) ?_) | (refine IJ_by (by omega) ?_)))) hU t_q1 t_q12 t_q25 (by omega) (by omega) hG hS (lv_sub hl [0, 1, 2, 3, 4] rfl)
        · skip
          refine lv_tableIn (tgt := 644) (off := 604) hx hb dL_law_40 (by omega) (by omega) (by rw [q84]; rfl) (by decide) ?_
          refine lv_aload_n hx hb dL_law_644 rfl (lv_at hl 3 rfl) ?_
          refine lv_aload_n hx hb dL_law_645 rfl (lv_at hl 4 rfl) ?_
          refine lv_iload hx hb dL_law_646 (lv_at hl 0 rfl) ?_
          refine ty_iconst hx hb (1) dL_law_648 (by decide) (fun x935 h936 => ?_)
          refine ty_iadd hx hb dL_law_649 (fun x937 h938 => ?_)
          try have h939 : x937.toInt = i.toInt + x935.toInt := ty_add h938 (by omega) (by omega)
          refine va_sld hx hb hXs hbl hbA hS (i := x937) (ty_ix (by omega)) dL_law_650 ?_
          refine lv_topi (fun x940 s941 => ?_)
          refine cI (va_runV (C := RX8) (As := [.int x940]) (rest := []) ⟨hx, hb, hml, hown, hA⟩ (k_X8_bank l dC dI dA sz X Γ hU g q1 t_q1 x940   (by omega)) ⟨callB_of 1 hA (al_A wd_3_186) rfl rfl rfl (hA _ wd_1_1) (hA _ wd_3_183) (by decide +kernel) ⟨Nat.le_of_ble_eq_true rfl, Nat.le_of_ble_eq_true rfl⟩, hA _ wd_3_184, hA _ wd_3_185⟩ ⟨bl, recv_X8 hE hG t_q1, fun U hU9 hW9 => ⟨rfl, by rw [hU9]; exact hG, hE.go hS hU9 hW9⟩⟩ rfl rfl hl.1 rfl (lv_room (Nat.le_of_ble_eq_true rfl)) dL_law_651 ⟨(Nat.le_trans (show kc + 0 ≤ 300000 by omega) (Nat.le_of_ble_eq_true rfl)), (Nat.le_trans (show ks + 0 ≤ 300000 by omega) (Nat.le_of_ble_eq_true rfl))⟩) hS (fun x944 u942 H locs w943 hG hS => ?_)
          have eu945 := w943
          rw [eu945] at hG
          refine lv_pop hx hb dL_law_654 rfl ?_
          refine lv_aload_n hx hb dL_law_655 rfl (lv_at hl 2 rfl) ?_
          refine lv_aload_n hx hb dL_law_656 rfl (lv_at hl 4 rfl) ?_
          refine lv_iload hx hb dL_law_657 (lv_at hl 0 rfl) ?_
          refine ty_iconst hx hb (1) dL_law_659 (by decide) (fun x946 h947 => ?_)
          refine ty_iadd hx hb dL_law_660 (fun x948 h949 => ?_)
          try have h950 : x948.toInt = i.toInt + x946.toInt := ty_add h949 (by omega) (by omega)
          refine va_sld hx hb hXs hbl hbA hS (i := x948) (ty_ix (by omega)) dL_law_661 ?_
          rw [lw_same (j := x948) s941 (by omega)]
          refine cI (va_runV (C := RX9) (As := [.int x940]) (rest := []) ⟨hx, hb, hml, hown, hA⟩ (k_X9_bank l dC dI dA sz X Γ hU g q12 t_q12 x940   (by omega) (by (repeat (first | with_reducible assumption | (refine IJ_c (by decide) (by decide) (by decide) ?_) | (refine IJ_take (by omega) (by omega) ?_) | (refine IJ_how (by omega) ?_) | (refine IJ_by (by omega) ?_))))) ⟨callB_of 1 hA (al_A wd_5_168) rfl rfl rfl (hA _ wd_1_7) (hA _ wd_5_165) (by decide +kernel) ⟨Nat.le_of_ble_eq_true rfl, Nat.le_of_ble_eq_true rfl⟩, hA _ wd_5_166, hA _ wd_5_167⟩ ⟨bl, recv_X9 hE hG t_q12, fun U hU9 hW9 => ⟨rfl, by rw [hU9]; exact hG, hE.go hS hU9 hW9⟩⟩ rfl rfl hl.1 rfl (lv_room (Nat.le_of_ble_eq_true rfl)) dL_law_662 ⟨(Nat.le_trans (show kc + 0 ≤ 300000 by omega) (Nat.le_of_ble_eq_true rfl)), (Nat.le_trans (show ks + 0 ≤ 300000 by omega) (Nat.le_of_ble_eq_true rfl))⟩) hS (fun x953 u951 H locs w952 hG hS => ?_)
          obtain ⟨hf955, hq954⟩ := w952
          refine lv_pop hx hb dL_law_665 rfl ?_
          refine lv_goto (tgt := 1047) hx hb dL_law_666 (by decide) ?_
          obtain ⟨x956, h957⟩ : ∃ y : Int32, y = i + Int32.ofInt (6) := ⟨_, rfl⟩
          try have h958 : x956.toInt = i.toInt + (6) := ty_inc h957 (by decide) (by omega) (by omega)
          refine lv_iinc (v := x956) (lv' := [(4, .int x956), (3, .ref q25), (2, .ref q12), (1, .ref q1), (0, .ref b)]) hx hb dL_law_1047 hl (k := 0) rfl h957.symm (by decide) rfl (fun ls hl => ?_)
          refine lv_goto (tgt := 23) hx hb dL_law_1050 (by decide) ?_
          have hk959 : u951 1 0 = g 1 0 := hf955 1 0 (by decide) (by decide) (by decide)
          have hk960 : u951 2 0 = g 2 0 := hf955 2 0 (by decide) (by decide) (by decide)
          have hk961 : u951 3 0 = g 3 0 := hf955 3 0 (by decide) (by decide) (by decide)
          have hk962 : u951 4 0 = g 4 0 := hf955 4 0 (by decide) (by decide) (by decide)
          have hk963 : u951 5 0 = g 5 0 := hf955 5 0 (by decide) (by decide) (by decide)
          have hk964 : u951 6 0 = g 6 0 := hf955 6 0 (by decide) (by decide) (by decide)
          have hk965 : u951 7 0 = g 7 0 := hf955 7 0 (by decide) (by decide) (by decide)
          have hk966 : u951 33 0 = g 33 0 := hf955 33 0 (by decide) (by decide) (by decide)
          have hk967 : u951 34 0 = g 34 0 := hf955 34 0 (by decide) (by decide) (by decide)
          have hk968 : u951 35 0 = g 35 0 := hf955 35 0 (by decide) (by decide) (by decide)
          have hk969 : u951 36 0 = g 36 0 := hf955 36 0 (by decide) (by decide) (by decide)
          have hk970 : u951 101 0 = g 101 0 := hf955 101 0 (by decide) (by decide) (by decide)
          have hk971 : u951 104 0 = g 104 0 := hf955 104 0 (by decide) (by decide) (by decide)
          have hk972 : u951 111 0 = g 111 0 := hf955 111 0 (by decide) (by decide) (by decide)
          have hk973 : u951 112 0 = g 112 0 := hf955 112 0 (by decide) (by decide) (by decide)
          have hk974 : u951 114 0 = g 114 0 := hf955 114 0 (by decide) (by decide) (by decide)
          have hk975 : u951 122 0 = g 122 0 := hf955 122 0 (by decide) (by decide) (by decide)
          have hk976 : u951 126 0 = g 126 0 := hf955 126 0 (by decide) (by decide) (by decide)
          exact ih x956 Γ u951 (kc) (ks) _ _ ls (by omega) (by omega) (by omega) (by omega) (by omega) (by omega) (by omega) (by omega) (by omega) (by omega) (by omega) (by omega) (by (repeat (first | with_reducible assumption | (refine IJ_c (by decide) (by decide) (by decide) ?_) | (refine IJ_take (by omega) (by omega) ?_) | (refine IJ_how (by omega) ?_) | (refine IJ_by (by omega) ?_)))) hU t_q1 t_q12 t_q25 (by omega) (by omega) hG hS (lv_sub hl [0, 1, 2, 3, 4] rfl)
        · skip
          refine lv_tableIn (tgt := 669) (off := 629) hx hb dL_law_40 (by omega) (by omega) (by rw [q85]; rfl) (by decide) ?_
          refine lv_aload_n hx hb dL_law_669 rfl (lv_at hl 3 rfl) ?_
          refine lv_aload_n hx hb dL_law_670 rfl (lv_at hl 4 rfl) ?_
          refine lv_iload hx hb dL_law_671 (lv_at hl 0 rfl) ?_
          refine ty_iconst hx hb (1) dL_law_673 (by decide) (fun x977 h978 => ?_)
          refine ty_iadd hx hb dL_law_674 (fun x979 h980 => ?_)
          try have h981 : x979.toInt = i.toInt + x977.toInt := ty_add h980 (by omega) (by omega)
          refine va_sld hx hb hXs hbl hbA hS (i := x979) (ty_ix (by omega)) dL_law_675 ?_
          refine lv_topi (fun x982 s983 => ?_)
          refine lv_aload_n hx hb dL_law_676 rfl (lv_at hl 4 rfl) ?_
          refine lv_iload hx hb dL_law_677 (lv_at hl 0 rfl) ?_
          refine ty_iconst hx hb (2) dL_law_679 (by decide) (fun x984 h985 => ?_)
          refine ty_iadd hx hb dL_law_680 (fun x986 h987 => ?_)
          try have h988 : x986.toInt = i.toInt + x984.toInt := ty_add h987 (by omega) (by omega)
          refine va_sld hx hb hXs hbl hbA hS (i := x986) (ty_ix (by omega)) dL_law_681 ?_
          refine lv_topi (fun x989 s990 => ?_)
          refine cI (va_runV (C := RX8) (As := [.int x982, .int x989]) (rest := []) ⟨hx, hb, hml, hown, hA⟩ (k_X8_take l dC dI dA sz X Γ hU g q1 t_q1 x982 x989   (by omega) (by omega)) ⟨callB_of 2 hA (al_A wd_3_190) rfl rfl rfl (hA _ wd_1_1) (hA _ wd_3_187) (by decide +kernel) ⟨Nat.le_of_ble_eq_true rfl, Nat.le_of_ble_eq_true rfl⟩, hA _ wd_3_188, hA _ wd_3_189⟩ ⟨bl, recv_X8 hE hG t_q1, fun U hU9 hW9 => ⟨rfl, by rw [hU9]; exact hG, hE.go hS hU9 hW9⟩⟩ rfl rfl hl.1 rfl (lv_room (Nat.le_of_ble_eq_true rfl)) dL_law_682 ⟨(Nat.le_trans (show kc + 0 ≤ 300000 by omega) (Nat.le_of_ble_eq_true rfl)), (Nat.le_trans (show ks + 0 ≤ 300000 by omega) (Nat.le_of_ble_eq_true rfl))⟩) hS (fun x993 u991 H locs w992 hG hS => ?_)
          have eu994 := w992
          rw [eu994] at hG
          refine lv_pop hx hb dL_law_685 rfl ?_
          refine lv_aload_n hx hb dL_law_686 rfl (lv_at hl 2 rfl) ?_
          refine lv_aload_n hx hb dL_law_687 rfl (lv_at hl 4 rfl) ?_
          refine lv_iload hx hb dL_law_688 (lv_at hl 0 rfl) ?_
          refine ty_iconst hx hb (1) dL_law_690 (by decide) (fun x995 h996 => ?_)
          refine ty_iadd hx hb dL_law_691 (fun x997 h998 => ?_)
          try have h999 : x997.toInt = i.toInt + x995.toInt := ty_add h998 (by omega) (by omega)
          refine va_sld hx hb hXs hbl hbA hS (i := x997) (ty_ix (by omega)) dL_law_692 ?_
          rw [lw_same (j := x997) s983 (by omega)]
          refine lv_aload_n hx hb dL_law_693 rfl (lv_at hl 4 rfl) ?_
          refine lv_iload hx hb dL_law_694 (lv_at hl 0 rfl) ?_
          refine ty_iconst hx hb (2) dL_law_696 (by decide) (fun x1000 h1001 => ?_)
          refine ty_iadd hx hb dL_law_697 (fun x1002 h1003 => ?_)
          try have h1004 : x1002.toInt = i.toInt + x1000.toInt := ty_add h1003 (by omega) (by omega)
          refine va_sld hx hb hXs hbl hbA hS (i := x1002) (ty_ix (by omega)) dL_law_698 ?_
          rw [lw_same (j := x1002) s990 (by omega)]
          refine cI (va_runV (C := RX9) (As := [.int x982, .int x989]) (rest := []) ⟨hx, hb, hml, hown, hA⟩ (k_X9_take l dC dI dA sz X Γ hU g q12 t_q12 x982 x989   (by omega) (by omega) (by (repeat (first | with_reducible assumption | (refine IJ_c (by decide) (by decide) (by decide) ?_) | (refine IJ_take (by omega) (by omega) ?_) | (refine IJ_how (by omega) ?_) | (refine IJ_by (by omega) ?_))))) ⟨callB_of 2 hA (al_A wd_5_172) rfl rfl rfl (hA _ wd_1_7) (hA _ wd_5_169) (by decide +kernel) ⟨Nat.le_of_ble_eq_true rfl, Nat.le_of_ble_eq_true rfl⟩, hA _ wd_5_170, hA _ wd_5_171⟩ ⟨bl, recv_X9 hE hG t_q12, fun U hU9 hW9 => ⟨rfl, by rw [hU9]; exact hG, hE.go hS hU9 hW9⟩⟩ rfl rfl hl.1 rfl (lv_room (Nat.le_of_ble_eq_true rfl)) dL_law_699 ⟨(Nat.le_trans (show kc + 0 ≤ 300000 by omega) (Nat.le_of_ble_eq_true rfl)), (Nat.le_trans (show ks + 0 ≤ 300000 by omega) (Nat.le_of_ble_eq_true rfl))⟩) hS (fun x1007 u1005 H locs w1006 hG hS => ?_)
          obtain ⟨hf1009, hq1008⟩ := w1006
          refine lv_pop hx hb dL_law_702 rfl ?_
          refine lv_goto (tgt := 1047) hx hb dL_law_703 (by decide) ?_
          obtain ⟨x1010, h1011⟩ : ∃ y : Int32, y = i + Int32.ofInt (6) := ⟨_, rfl⟩
          try have h1012 : x1010.toInt = i.toInt + (6) := ty_inc h1011 (by decide) (by omega) (by omega)
          refine lv_iinc (v := x1010) (lv' := [(4, .int x1010), (3, .ref q25), (2, .ref q12), (1, .ref q1), (0, .ref b)]) hx hb dL_law_1047 hl (k := 0) rfl h1011.symm (by decide) rfl (fun ls hl => ?_)
          refine lv_goto (tgt := 23) hx hb dL_law_1050 (by decide) ?_
          have hk1013 : u1005 1 0 = g 1 0 := hf1009 1 0 (by decide) (by decide) (by decide) (by decide)
          have hk1014 : u1005 2 0 = g 2 0 := hf1009 2 0 (by decide) (by decide) (by decide) (by decide)
          have hk1015 : u1005 3 0 = g 3 0 := hf1009 3 0 (by decide) (by decide) (by decide) (by decide)
          have hk1016 : u1005 4 0 = g 4 0 := hf1009 4 0 (by decide) (by decide) (by decide) (by decide)
          have hk1017 : u1005 5 0 = g 5 0 := hf1009 5 0 (by decide) (by decide) (by decide) (by decide)
          have hk1018 : u1005 6 0 = g 6 0 := hf1009 6 0 (by decide) (by decide) (by decide) (by decide)
          have hk1019 : u1005 7 0 = g 7 0 := hf1009 7 0 (by decide) (by decide) (by decide) (by decide)
          have hk1020 : u1005 33 0 = g 33 0 := hf1009 33 0 (by decide) (by decide) (by decide) (by decide)
          have hk1021 : u1005 34 0 = g 34 0 := hf1009 34 0 (by decide) (by decide) (by decide) (by decide)
          have hk1022 : u1005 35 0 = g 35 0 := hf1009 35 0 (by decide) (by decide) (by decide) (by decide)
          have hk1023 : u1005 36 0 = g 36 0 := hf1009 36 0 (by decide) (by decide) (by decide) (by decide)
          have hk1024 : u1005 101 0 = g 101 0 := hf1009 101 0 (by decide) (by decide) (by decide) (by decide)
          have hk1025 : u1005 104 0 = g 104 0 := hf1009 104 0 (by decide) (by decide) (by decide) (by decide)
          have hk1026 : u1005 111 0 = g 111 0 := hf1009 111 0 (by decide) (by decide) (by decide) (by decide)
          have hk1027 : u1005 112 0 = g 112 0 := hf1009 112 0 (by decide) (by decide) (by decide) (by decide)
          have hk1028 : u1005 114 0 = g 114 0 := hf1009 114 0 (by decide) (by decide) (by decide) (by decide)
          have hk1029 : u1005 122 0 = g 122 0 := hf1009 122 0 (by decide) (by decide) (by decide) (by decide)
          have hk1030 : u1005 126 0 = g 126 0 := hf1009 126 0 (by decide) (by decide) (by decide) (by decide)
          exact ih x1010 Γ u1005 (kc) (ks) _ _ ls (by omega) (by omega) (by omega) (by omega) (by omega) (by omega) (by omega) (by omega) (by omega) (by omega) (by omega) (by omega) (by (repeat (first | with_reducible assumption | (refine IJ_c (by decide) (by decide) (by decide) ?_) | (refine IJ_take (by omega) (by omega) ?_) | (refine IJ_how (by omega) ?_) | (refine IJ_by (by omega) ?_)))) hU t_q1 t_q12 t_q25 (by omega) (by omega) hG hS (lv_sub hl [0, 1, 2, 3, 4] rfl)
        · skip
          refine lv_tableIn (tgt := 706) (off := 666) hx hb dL_law_40 (by omega) (by omega) (by rw [q86]; rfl) (by decide) ?_
          refine lv_aload_n hx hb dL_law_706 rfl (lv_at hl 3 rfl) ?_
          refine cI (va_runV (C := RX8) (As := []) (rest := []) ⟨hx, hb, hml, hown, hA⟩ (k_X8_rush l dC dI dA sz X Γ hU g q1 t_q1   (by omega) (by omega)) ⟨callB_of 0 hA (al_A wd_3_198) rfl rfl rfl (hA _ wd_1_1) (hA _ wd_3_195) (by decide +kernel) ⟨Nat.le_of_ble_eq_true rfl, Nat.le_of_ble_eq_true rfl⟩, hA _ wd_3_196, hA _ wd_3_197⟩ ⟨bl, recv_X8 hE hG t_q1, fun U hU9 hW9 => ⟨rfl, by rw [hU9]; exact hG, hE.go hS hU9 hW9⟩⟩ rfl rfl hl.1 rfl (lv_room (Nat.le_of_ble_eq_true rfl)) dL_law_707 ⟨(Nat.le_trans (show kc + 0 ≤ 300000 by omega) (Nat.le_of_ble_eq_true rfl)), (Nat.le_trans (show ks + 0 ≤ 300000 by omega) (Nat.le_of_ble_eq_true rfl))⟩) hS (fun x1033 u1031 H locs w1032 hG hS => ?_)
          have eu1034 := w1032
          rw [eu1034] at hG
          refine lv_pop hx hb dL_law_710 rfl ?_
          refine lv_aload_n hx hb dL_law_711 rfl (lv_at hl 2 rfl) ?_
          refine cI (va_runV (C := RX9) (As := []) (rest := []) ⟨hx, hb, hml, hown, hA⟩ (k_X9_rush l dC dI dA sz X Γ hU g q12 t_q12   (by omega) (by omega) (by (repeat (first | with_reducible assumption | (refine IJ_c (by decide) (by decide) (by decide) ?_) | (refine IJ_take (by omega) (by omega) ?_) | (refine IJ_how (by omega) ?_) | (refine IJ_by (by omega) ?_))))) ⟨callB_of 0 hA (al_A wd_5_180) rfl rfl rfl (hA _ wd_1_7) (hA _ wd_5_177) (by decide +kernel) ⟨Nat.le_of_ble_eq_true rfl, Nat.le_of_ble_eq_true rfl⟩, hA _ wd_5_178, hA _ wd_5_179⟩ ⟨bl, recv_X9 hE hG t_q12, fun U hU9 hW9 => ⟨rfl, by rw [hU9]; exact hG, hE.go hS hU9 hW9⟩⟩ rfl rfl hl.1 rfl (lv_room (Nat.le_of_ble_eq_true rfl)) dL_law_712 ⟨(Nat.le_trans (show kc + 0 ≤ 300000 by omega) (Nat.le_of_ble_eq_true rfl)), (Nat.le_trans (show ks + 0 ≤ 300000 by omega) (Nat.le_of_ble_eq_true rfl))⟩) hS (fun x1037 u1035 H locs w1036 hG hS => ?_)
          obtain ⟨hf1039, hq1038⟩ := w1036
          refine lv_pop hx hb dL_law_715 rfl ?_
          refine lv_goto (tgt := 1047) hx hb dL_law_716 (by decide) ?_
          obtain ⟨x1040, h1041⟩ : ∃ y : Int32, y = i + Int32.ofInt (6) := ⟨_, rfl⟩
          try have h1042 : x1040.toInt = i.toInt + (6) := ty_inc h1041 (by decide) (by omega) (by omega)
          refine lv_iinc (v := x1040) (lv' := [(4, .int x1040), (3, .ref q25), (2, .ref q12), (1, .ref q1), (0, .ref b)]) hx hb dL_law_1047 hl (k := 0) rfl h1041.symm (by decide) rfl (fun ls hl => ?_)
          refine lv_goto (tgt := 23) hx hb dL_law_1050 (by decide) ?_
          have hk1043 : u1035 1 0 = g 1 0 := hf1039 1 0 (by decide) (by decide) (by decide) (by decide) (by decide) (by decide) (by decide) (by decide)
          have hk1044 : u1035 2 0 = g 2 0 := hf1039 2 0 (by decide) (by decide) (by decide) (by decide) (by decide) (by decide) (by decide) (by decide)
          have hk1045 : u1035 3 0 = g 3 0 := hf1039 3 0 (by decide) (by decide) (by decide) (by decide) (by decide) (by decide) (by decide) (by decide)
          have hk1046 : u1035 4 0 = g 4 0 := hf1039 4 0 (by decide) (by decide) (by decide) (by decide) (by decide) (by decide) (by decide) (by decide)
          have hk1047 : u1035 5 0 = g 5 0 := hf1039 5 0 (by decide) (by decide) (by decide) (by decide) (by decide) (by decide) (by decide) (by decide)
          have hk1048 : u1035 6 0 = g 6 0 := hf1039 6 0 (by decide) (by decide) (by decide) (by decide) (by decide) (by decide) (by decide) (by decide)
          have hk1049 : u1035 7 0 = g 7 0 := hf1039 7 0 (by decide) (by decide) (by decide) (by decide) (by decide) (by decide) (by decide) (by decide)
          have hk1050 : u1035 33 0 = g 33 0 := hf1039 33 0 (by decide) (by decide) (by decide) (by decide) (by decide) (by decide) (by decide) (by decide)
          have hk1051 : u1035 34 0 = g 34 0 := hf1039 34 0 (by decide) (by decide) (by decide) (by decide) (by decide) (by decide) (by decide) (by decide)
          have hk1052 : u1035 35 0 = g 35 0 := hf1039 35 0 (by decide) (by decide) (by decide) (by decide) (by decide) (by decide) (by decide) (by decide)
          have hk1053 : u1035 36 0 = g 36 0 := hf1039 36 0 (by decide) (by decide) (by decide) (by decide) (by decide) (by decide) (by decide) (by decide)
          have hk1054 : u1035 101 0 = g 101 0 := hf1039 101 0 (by decide) (by decide) (by decide) (by decide) (by decide) (by decide) (by decide) (by decide)
          have hk1055 : u1035 104 0 = g 104 0 := hf1039 104 0 (by decide) (by decide) (by decide) (by decide) (by decide) (by decide) (by decide) (by decide)
          have hk1056 : u1035 111 0 = g 111 0 := hf1039 111 0 (by decide) (by decide) (by decide) (by decide) (by decide) (by decide) (by decide) (by decide)
          have hk1057 : u1035 112 0 = g 112 0 := hf1039 112 0 (by decide) (by decide) (by decide) (by decide) (by decide) (by decide) (by decide) (by decide)
          have hk1058 : u1035 114 0 = g 114 0 := hf1039 114 0 (by decide) (by decide) (by decide) (by decide) (by decide) (by decide) (by decide) (by decide)
          have hk1059 : u1035 122 0 = g 122 0 := hf1039 122 0 (by decide) (by decide) (by decide) (by decide) (by decide) (by decide) (by decide) (by decide)
          have hk1060 : u1035 126 0 = g 126 0 := hf1039 126 0 (by decide) (by decide) (by decide) (by decide) (by decide) (by decide) (by decide) (by decide)
          exact ih x1040 Γ u1035 (kc) (ks) _ _ ls (by omega) (by omega) (by omega) (by omega) (by omega) (by omega) (by omega) (by omega) (by omega) (by omega) (by omega) (by omega) (by (repeat (first | with_reducible assumption | (refine IJ_c (by decide) (by decide) (by decide) ?_) | (refine IJ_take (by omega) (by omega) ?_) | (refine IJ_how (by omega) ?_) | (refine IJ_by (by omega) ?_)))) hU t_q1 t_q12 t_q25 (by omega) (by omega) hG hS (lv_sub hl [0, 1, 2, 3, 4] rfl)
        · skip
          refine lv_tableIn (tgt := 719) (off := 679) hx hb dL_law_40 (by omega) (by omega) (by rw [q87]; rfl) (by decide) ?_
          refine lv_aload_n hx hb dL_law_719 rfl (lv_at hl 3 rfl) ?_
          refine lv_aload_n hx hb dL_law_720 rfl (lv_at hl 4 rfl) ?_
          refine lv_iload hx hb dL_law_721 (lv_at hl 0 rfl) ?_
          refine ty_iconst hx hb (1) dL_law_723 (by decide) (fun x1061 h1062 => ?_)
          refine ty_iadd hx hb dL_law_724 (fun x1063 h1064 => ?_)
          try have h1065 : x1063.toInt = i.toInt + x1061.toInt := ty_add h1064 (by omega) (by omega)
          refine va_sld hx hb hXs hbl hbA hS (i := x1063) (ty_ix (by omega)) dL_law_725 ?_
          refine lv_topi (fun x1066 s1067 => ?_)
          refine lv_aload_n hx hb dL_law_726 rfl (lv_at hl 4 rfl) ?_
          refine lv_iload hx hb dL_law_727 (lv_at hl 0 rfl) ?_
          refine ty_iconst hx hb (2) dL_law_729 (by decide) (fun x1068 h1069 => ?_)
          refine ty_iadd hx hb dL_law_730 (fun x1070 h1071 => ?_)
          try have h1072 : x1070.toInt = i.toInt + x1068.toInt := ty_add h1071 (by omega) (by omega)
          refine va_sld hx hb hXs hbl hbA hS (i := x1070) (ty_ix (by omega)) dL_law_731 ?_
          refine lv_topi (fun x1073 s1074 => ?_)
          refine lv_aload_n hx hb dL_law_732 rfl (lv_at hl 4 rfl) ?_
          refine lv_iload hx hb dL_law_733 (lv_at hl 0 rfl) ?_
          refine ty_iconst hx hb (3) dL_law_735 (by decide) (fun x1075 h1076 => ?_)
          refine ty_iadd hx hb dL_law_736 (fun x1077 h1078 => ?_)
          try have h1079 : x1077.toInt = i.toInt + x1075.toInt := ty_add h1078 (by omega) (by omega)
          refine va_sld hx hb hXs hbl hbA hS (i := x1077) (ty_ix (by omega)) dL_law_737 ?_
          refine lv_topi (fun x1080 s1081 => ?_)
          refine cI (va_runV (C := RX8) (As := [.int x1066, .int x1073, .int x1080]) (rest := []) ⟨hx, hb, hml, hown, hA⟩ (k_X8_shut l dC dI dA sz X Γ hU g q1 t_q1 x1066 x1073 x1080   (by omega) (by omega) (by omega)) ⟨callB_of 3 hA (al_A wd_3_211) rfl rfl rfl (hA _ wd_1_1) (hA _ wd_3_208) (by decide +kernel) ⟨Nat.le_of_ble_eq_true rfl, Nat.le_of_ble_eq_true rfl⟩, hA _ wd_3_209, hA _ wd_3_210⟩ ⟨bl, recv_X8 hE hG t_q1, fun U hU9 hW9 => ⟨rfl, by rw [hU9]; exact hG, hE.go hS hU9 hW9⟩⟩ rfl rfl hl.1 rfl (lv_room (Nat.le_of_ble_eq_true rfl)) dL_law_738 ⟨(Nat.le_trans (show kc + 0 ≤ 300000 by omega) (Nat.le_of_ble_eq_true rfl)), (Nat.le_trans (show ks + 0 ≤ 300000 by omega) (Nat.le_of_ble_eq_true rfl))⟩) hS (fun x1084 u1082 H locs w1083 hG hS => ?_)
          have eu1085 := w1083
          rw [eu1085] at hG
          refine lv_pop hx hb dL_law_741 rfl ?_
          refine lv_aload_n hx hb dL_law_742 rfl (lv_at hl 2 rfl) ?_
          refine lv_aload_n hx hb dL_law_743 rfl (lv_at hl 4 rfl) ?_
          refine lv_iload hx hb dL_law_744 (lv_at hl 0 rfl) ?_
          refine ty_iconst hx hb (1) dL_law_746 (by decide) (fun x1086 h1087 => ?_)
          refine ty_iadd hx hb dL_law_747 (fun x1088 h1089 => ?_)
          try have h1090 : x1088.toInt = i.toInt + x1086.toInt := ty_add h1089 (by omega) (by omega)
          refine va_sld hx hb hXs hbl hbA hS (i := x1088) (ty_ix (by omega)) dL_law_748 ?_
          rw [lw_same (j := x1088) s1067 (by omega)]
          refine lv_aload_n hx hb dL_law_749 rfl (lv_at hl 4 rfl) ?_
          refine lv_iload hx hb dL_law_750 (lv_at hl 0 rfl) ?_
          refine ty_iconst hx hb (2) dL_law_752 (by decide) (fun x1091 h1092 => ?_)
          refine ty_iadd hx hb dL_law_753 (fun x1093 h1094 => ?_)
          try have h1095 : x1093.toInt = i.toInt + x1091.toInt := ty_add h1094 (by omega) (by omega)
          refine va_sld hx hb hXs hbl hbA hS (i := x1093) (ty_ix (by omega)) dL_law_754 ?_
          rw [lw_same (j := x1093) s1074 (by omega)]
          refine lv_aload_n hx hb dL_law_755 rfl (lv_at hl 4 rfl) ?_
          refine lv_iload hx hb dL_law_756 (lv_at hl 0 rfl) ?_
          refine ty_iconst hx hb (3) dL_law_758 (by decide) (fun x1096 h1097 => ?_)
          refine ty_iadd hx hb dL_law_759 (fun x1098 h1099 => ?_)
          try have h1100 : x1098.toInt = i.toInt + x1096.toInt := ty_add h1099 (by omega) (by omega)
          refine va_sld hx hb hXs hbl hbA hS (i := x1098) (ty_ix (by omega)) dL_law_760 ?_
          rw [lw_same (j := x1098) s1081 (by omega)]
          refine cI (va_runV (C := RX9) (As := [.int x1066, .int x1073, .int x1080]) (rest := []) ⟨hx, hb, hml, hown, hA⟩ (k_X9_shut l dC dI dA sz X Γ hU g q12 t_q12 x1066 x1073 x1080   (by omega) (by omega) (by omega) (by (repeat (first | with_reducible assumption | (refine IJ_c (by decide) (by decide) (by decide) ?_) | (refine IJ_take (by omega) (by omega) ?_) | (refine IJ_how (by omega) ?_) | (refine IJ_by (by omega) ?_))))) ⟨callB_of 3 hA (al_A wd_5_188) rfl rfl rfl (hA _ wd_1_7) (hA _ wd_5_185) (by decide +kernel) ⟨Nat.le_of_ble_eq_true rfl, Nat.le_of_ble_eq_true rfl⟩, hA _ wd_5_186, hA _ wd_5_187⟩ ⟨bl, recv_X9 hE hG t_q12, fun U hU9 hW9 => ⟨rfl, by rw [hU9]; exact hG, hE.go hS hU9 hW9⟩⟩ rfl rfl hl.1 rfl (lv_room (Nat.le_of_ble_eq_true rfl)) dL_law_761 ⟨(Nat.le_trans (show kc + 0 ≤ 300000 by omega) (Nat.le_of_ble_eq_true rfl)), (Nat.le_trans (show ks + 0 ≤ 300000 by omega) (Nat.le_of_ble_eq_true rfl))⟩) hS (fun x1103 u1101 H locs w1102 hG hS => ?_)
          obtain ⟨hf1105, hq1104⟩ := w1102
          refine lv_pop hx hb dL_law_764 rfl ?_
          refine lv_goto (tgt := 1047) hx hb dL_law_765 (by decide) ?_
          obtain ⟨x1106, h1107⟩ : ∃ y : Int32, y = i + Int32.ofInt (6) := ⟨_, rfl⟩
          try have h1108 : x1106.toInt = i.toInt + (6) := ty_inc h1107 (by decide) (by omega) (by omega)
          refine lv_iinc (v := x1106) (lv' := [(4, .int x1106), (3, .ref q25), (2, .ref q12), (1, .ref q1), (0, .ref b)]) hx hb dL_law_1047 hl (k := 0) rfl h1107.symm (by decide) rfl (fun ls hl => ?_)
          refine lv_goto (tgt := 23) hx hb dL_law_1050 (by decide) ?_
          have hk1109 : u1101 1 0 = g 1 0 := hf1105 1 0 (by decide) (by decide) (by decide) (by decide)
          have hk1110 : u1101 2 0 = g 2 0 := hf1105 2 0 (by decide) (by decide) (by decide) (by decide)
          have hk1111 : u1101 3 0 = g 3 0 := hf1105 3 0 (by decide) (by decide) (by decide) (by decide)
          have hk1112 : u1101 4 0 = g 4 0 := hf1105 4 0 (by decide) (by decide) (by decide) (by decide)
          have hk1113 : u1101 5 0 = g 5 0 := hf1105 5 0 (by decide) (by decide) (by decide) (by decide)
          have hk1114 : u1101 6 0 = g 6 0 := hf1105 6 0 (by decide) (by decide) (by decide) (by decide)
          have hk1115 : u1101 7 0 = g 7 0 := hf1105 7 0 (by decide) (by decide) (by decide) (by decide)
          have hk1116 : u1101 33 0 = g 33 0 := hf1105 33 0 (by decide) (by decide) (by decide) (by decide)
          have hk1117 : u1101 34 0 = g 34 0 := hf1105 34 0 (by decide) (by decide) (by decide) (by decide)
          have hk1118 : u1101 35 0 = g 35 0 := hf1105 35 0 (by decide) (by decide) (by decide) (by decide)
          have hk1119 : u1101 36 0 = g 36 0 := hf1105 36 0 (by decide) (by decide) (by decide) (by decide)
          have hk1120 : u1101 101 0 = g 101 0 := hf1105 101 0 (by decide) (by decide) (by decide) (by decide)
          have hk1121 : u1101 104 0 = g 104 0 := hf1105 104 0 (by decide) (by decide) (by decide) (by decide)
          have hk1122 : u1101 111 0 = g 111 0 := hf1105 111 0 (by decide) (by decide) (by decide) (by decide)
          have hk1123 : u1101 112 0 = g 112 0 := hf1105 112 0 (by decide) (by decide) (by decide) (by decide)
          have hk1124 : u1101 114 0 = g 114 0 := hf1105 114 0 (by decide) (by decide) (by decide) (by decide)
          have hk1125 : u1101 122 0 = g 122 0 := hf1105 122 0 (by decide) (by decide) (by decide) (by decide)
          have hk1126 : u1101 126 0 = g 126 0 := hf1105 126 0 (by decide) (by decide) (by decide) (by decide)
          exact ih x1106 Γ u1101 (kc) (ks) _ _ ls (by omega) (by omega) (by omega) (by omega) (by omega) (by omega) (by omega) (by omega) (by omega) (by omega) (by omega) (by omega) (by (repeat (first | with_reducible assumption | (refine IJ_c (by decide) (by decide) (by decide) ?_) | (refine IJ_take (by omega) (by omega) ?_) | (refine IJ_how (by omega) ?_) | (refine IJ_by (by omega) ?_)))) hU t_q1 t_q12 t_q25 (by omega) (by omega) hG hS (lv_sub hl [0, 1, 2, 3, 4] rfl)
        · skip
          refine lv_tableIn (tgt := 768) (off := 728) hx hb dL_law_40 (by omega) (by omega) (by rw [q88]; rfl) (by decide) ?_
          refine lv_aload_n hx hb dL_law_768 rfl (lv_at hl 3 rfl) ?_
          refine lv_aload_n hx hb dL_law_769 rfl (lv_at hl 4 rfl) ?_
          refine lv_iload hx hb dL_law_770 (lv_at hl 0 rfl) ?_
          refine ty_iconst hx hb (1) dL_law_772 (by decide) (fun x1127 h1128 => ?_)
          refine ty_iadd hx hb dL_law_773 (fun x1129 h1130 => ?_)
          try have h1131 : x1129.toInt = i.toInt + x1127.toInt := ty_add h1130 (by omega) (by omega)
          refine va_sld hx hb hXs hbl hbA hS (i := x1129) (ty_ix (by omega)) dL_law_774 ?_
          refine lv_topi (fun x1132 s1133 => ?_)
          refine cI (va_runV (C := RX8) (As := [.int x1132]) (rest := []) ⟨hx, hb, hml, hown, hA⟩ (k_X8_weeks l dC dI dA sz X Γ hU g q1 t_q1 x1132   (by omega) (by omega)) ⟨callB_of 1 hA (al_A wd_3_220) rfl rfl rfl (hA _ wd_1_1) (hA _ wd_3_217) (by decide +kernel) ⟨Nat.le_of_ble_eq_true rfl, Nat.le_of_ble_eq_true rfl⟩, hA _ wd_3_218, hA _ wd_3_219⟩ ⟨bl, recv_X8 hE hG t_q1, fun U hU9 hW9 => ⟨rfl, by rw [hU9]; exact hG, hE.go hS hU9 hW9⟩⟩ rfl rfl hl.1 rfl (lv_room (Nat.le_of_ble_eq_true rfl)) dL_law_775 ⟨(Nat.le_trans (show kc + 0 ≤ 300000 by omega) (Nat.le_of_ble_eq_true rfl)), (Nat.le_trans (show ks + 0 ≤ 300000 by omega) (Nat.le_of_ble_eq_true rfl))⟩) hS (fun x1136 u1134 H locs w1135 hG hS => ?_)
          obtain ⟨hf1137, w1135⟩ := w1135
          have hj1138 : IJ u1134 := IJ_cg (hf1137 126 0 (by decide)) (fun j => hf1137 132 j (by decide)) (fun j => hf1137 134 j (by decide)) (by (repeat (first | with_reducible assumption | (refine IJ_c (by decide) (by decide) (by decide) ?_) | (refine IJ_take (by omega) (by omega) ?_) | (refine IJ_how (by omega) ?_) | (refine IJ_by (by omega) ?_))))
          refine lv_pop hx hb dL_law_778 rfl ?_
          refine lv_aload_n hx hb dL_law_779 rfl (lv_at hl 2 rfl) ?_
          refine lv_aload_n hx hb dL_law_780 rfl (lv_at hl 4 rfl) ?_
          refine lv_iload hx hb dL_law_781 (lv_at hl 0 rfl) ?_
          refine ty_iconst hx hb (1) dL_law_783 (by decide) (fun x1139 h1140 => ?_)
          refine ty_iadd hx hb dL_law_784 (fun x1141 h1142 => ?_)
          try have h1143 : x1141.toInt = i.toInt + x1139.toInt := ty_add h1142 (by omega) (by omega)
          refine va_sld hx hb hXs hbl hbA hS (i := x1141) (ty_ix (by omega)) dL_law_785 ?_
          rw [lw_same (j := x1141) s1133 (by omega)]
          have hk1144 : u1134 126 0 = g 126 0 := hf1137 126 0 (by decide)
          have hk1145 : u1134 112 0 = g 112 0 := hf1137 112 0 (by decide)
          refine cI (va_runV (C := RX9) (As := [.int x1132]) (rest := []) ⟨hx, hb, hml, hown, hA⟩ (k_X9_weeks l dC dI dA sz X Γ hU u1134 q12 t_q12 x1132   (by omega) (by omega) (by (repeat (first | with_reducible assumption | (refine IJ_c (by decide) (by decide) (by decide) ?_) | (refine IJ_take (by omega) (by omega) ?_) | (refine IJ_how (by omega) ?_) | (refine IJ_by (by omega) ?_))))) ⟨callB_of 1 hA (al_A wd_5_193) rfl rfl rfl (hA _ wd_1_7) (hA _ wd_5_190) (by decide +kernel) ⟨Nat.le_of_ble_eq_true rfl, Nat.le_of_ble_eq_true rfl⟩, hA _ wd_5_191, hA _ wd_5_192⟩ ⟨bl, recv_X9 hE hG t_q12, fun U hU9 hW9 => ⟨rfl, by rw [hU9]; exact hG, hE.go hS hU9 hW9⟩⟩ rfl rfl hl.1 rfl (lv_room (Nat.le_of_ble_eq_true rfl)) dL_law_786 ⟨(Nat.le_trans (show kc + 0 ≤ 300000 by omega) (Nat.le_of_ble_eq_true rfl)), (Nat.le_trans (show ks + 0 ≤ 300000 by omega) (Nat.le_of_ble_eq_true rfl))⟩) hS (fun x1148 u1146 H locs w1147 hG hS => ?_)
          obtain ⟨hf1150, w1147, hq1149⟩ := w1147
          refine lv_pop hx hb dL_law_789 rfl ?_
          refine lv_goto (tgt := 1047) hx hb dL_law_790 (by decide) ?_
          obtain ⟨x1151, h1152⟩ : ∃ y : Int32, y = i + Int32.ofInt (6) := ⟨_, rfl⟩
          try have h1153 : x1151.toInt = i.toInt + (6) := ty_inc h1152 (by decide) (by omega) (by omega)
          refine lv_iinc (v := x1151) (lv' := [(4, .int x1151), (3, .ref q25), (2, .ref q12), (1, .ref q1), (0, .ref b)]) hx hb dL_law_1047 hl (k := 0) rfl h1152.symm (by decide) rfl (fun ls hl => ?_)
          refine lv_goto (tgt := 23) hx hb dL_law_1050 (by decide) ?_
          have hk1154 : u1146 1 0 = u1134 1 0 := hf1150 1 0 (by decide) (by decide) (by decide)
          have hk1155 : u1134 1 0 = g 1 0 := hf1137 1 0 (by decide)
          have hk1156 : u1146 2 0 = u1134 2 0 := hf1150 2 0 (by decide) (by decide) (by decide)
          have hk1157 : u1134 2 0 = g 2 0 := hf1137 2 0 (by decide)
          have hk1158 : u1146 3 0 = u1134 3 0 := hf1150 3 0 (by decide) (by decide) (by decide)
          have hk1159 : u1134 3 0 = g 3 0 := hf1137 3 0 (by decide)
          have hk1160 : u1146 4 0 = u1134 4 0 := hf1150 4 0 (by decide) (by decide) (by decide)
          have hk1161 : u1134 4 0 = g 4 0 := hf1137 4 0 (by decide)
          have hk1162 : u1146 5 0 = u1134 5 0 := hf1150 5 0 (by decide) (by decide) (by decide)
          have hk1163 : u1146 6 0 = u1134 6 0 := hf1150 6 0 (by decide) (by decide) (by decide)
          have hk1164 : u1134 6 0 = g 6 0 := hf1137 6 0 (by decide)
          have hk1165 : u1146 7 0 = u1134 7 0 := hf1150 7 0 (by decide) (by decide) (by decide)
          have hk1166 : u1134 7 0 = g 7 0 := hf1137 7 0 (by decide)
          have hk1167 : u1146 33 0 = u1134 33 0 := hf1150 33 0 (by decide) (by decide) (by decide)
          have hk1168 : u1134 33 0 = g 33 0 := hf1137 33 0 (by decide)
          have hk1169 : u1146 34 0 = u1134 34 0 := hf1150 34 0 (by decide) (by decide) (by decide)
          have hk1170 : u1134 34 0 = g 34 0 := hf1137 34 0 (by decide)
          have hk1171 : u1146 35 0 = u1134 35 0 := hf1150 35 0 (by decide) (by decide) (by decide)
          have hk1172 : u1134 35 0 = g 35 0 := hf1137 35 0 (by decide)
          have hk1173 : u1146 36 0 = u1134 36 0 := hf1150 36 0 (by decide) (by decide) (by decide)
          have hk1174 : u1134 36 0 = g 36 0 := hf1137 36 0 (by decide)
          have hk1175 : u1146 101 0 = u1134 101 0 := hf1150 101 0 (by decide) (by decide) (by decide)
          have hk1176 : u1134 101 0 = g 101 0 := hf1137 101 0 (by decide)
          have hk1177 : u1146 104 0 = u1134 104 0 := hf1150 104 0 (by decide) (by decide) (by decide)
          have hk1178 : u1134 104 0 = g 104 0 := hf1137 104 0 (by decide)
          have hk1179 : u1146 111 0 = u1134 111 0 := hf1150 111 0 (by decide) (by decide) (by decide)
          have hk1180 : u1134 111 0 = g 111 0 := hf1137 111 0 (by decide)
          have hk1181 : u1146 114 0 = u1134 114 0 := hf1150 114 0 (by decide) (by decide) (by decide)
          have hk1182 : u1134 114 0 = g 114 0 := hf1137 114 0 (by decide)
          have hk1183 : u1146 122 0 = u1134 122 0 := hf1150 122 0 (by decide) (by decide) (by decide)
          have hk1184 : u1134 122 0 = g 122 0 := hf1137 122 0 (by decide)
          have hk1185 : u1146 126 0 = u1134 126 0 := hf1150 126 0 (by decide) (by decide) (by decide)
          exact ih x1151 Γ u1146 (kc) (ks) _ _ ls (by omega) (by omega) (by omega) (by omega) (by omega) (by omega) (by omega) (by omega) (by omega) (by omega) (by omega) (by omega) (by (repeat (first | with_reducible assumption | (refine IJ_c (by decide) (by decide) (by decide) ?_) | (refine IJ_take (by omega) (by omega) ?_) | (refine IJ_how (by omega) ?_) | (refine IJ_by (by omega) ?_)))) hU t_q1 t_q12 t_q25 (by omega) (by omega) hG hS (lv_sub hl [0, 1, 2, 3, 4] rfl)
        · skip
          refine lv_tableIn (tgt := 793) (off := 753) hx hb dL_law_40 (by omega) (by omega) (by rw [q89]; rfl) (by decide) ?_
          refine lv_aload_n hx hb dL_law_793 rfl (lv_at hl 3 rfl) ?_
          refine cI (va_runV (C := RX8) (As := []) (rest := []) ⟨hx, hb, hml, hown, hA⟩ (k_X8_year l dC dI dA sz X Γ hU g q1 t_q1   (by omega) (by omega) (by omega)) ⟨callB_of 0 hA (al_A wd_3_228) rfl rfl rfl (hA _ wd_1_1) (hA _ wd_3_225) (by decide +kernel) ⟨Nat.le_of_ble_eq_true rfl, Nat.le_of_ble_eq_true rfl⟩, hA _ wd_3_226, hA _ wd_3_227⟩ ⟨bl, recv_X8 hE hG t_q1, fun U hU9 hW9 => ⟨rfl, by rw [hU9]; exact hG, hE.go hS hU9 hW9⟩⟩ rfl rfl hl.1 rfl (lv_room (Nat.le_of_ble_eq_true rfl)) dL_law_794 ⟨(Nat.le_trans (show kc + 0 ≤ 300000 by omega) (Nat.le_of_ble_eq_true rfl)), (Nat.le_trans (show ks + 0 ≤ 300000 by omega) (Nat.le_of_ble_eq_true rfl))⟩) hS (fun x1188 u1186 H locs w1187 hG hS => ?_)
          obtain ⟨hf1189, w1187⟩ := w1187
          have hj1190 : IJ u1186 := IJ_cg (hf1189 126 0 (by decide) (by decide)) (fun j => hf1189 132 j (by decide) (by decide)) (fun j => hf1189 134 j (by decide) (by decide)) (by (repeat (first | with_reducible assumption | (refine IJ_c (by decide) (by decide) (by decide) ?_) | (refine IJ_take (by omega) (by omega) ?_) | (refine IJ_how (by omega) ?_) | (refine IJ_by (by omega) ?_))))
          refine lv_pop hx hb dL_law_797 rfl ?_
          refine lv_aload_n hx hb dL_law_798 rfl (lv_at hl 2 rfl) ?_
          have hk1191 : u1186 126 0 = g 126 0 := hf1189 126 0 (by decide) (by decide)
          have hk1192 : u1186 111 0 = g 111 0 := hf1189 111 0 (by decide) (by decide)
          refine cI (va_runV (C := RX9) (As := []) (rest := []) ⟨hx, hb, hml, hown, hA⟩ (k_X9_year l dC dI dA sz X Γ hU u1186 q12 t_q12   (by omega) (by (repeat (first | with_reducible assumption | (refine IJ_c (by decide) (by decide) (by decide) ?_) | (refine IJ_take (by omega) (by omega) ?_) | (refine IJ_how (by omega) ?_) | (refine IJ_by (by omega) ?_)))) (by omega)) ⟨callB_of 0 hA (al_A wd_5_201) rfl rfl rfl (hA _ wd_1_7) (hA _ wd_5_198) (by decide +kernel) ⟨Nat.le_of_ble_eq_true rfl, Nat.le_of_ble_eq_true rfl⟩, hA _ wd_5_199, hA _ wd_5_200⟩ ⟨bl, recv_X9 hE hG t_q12, fun U hU9 hW9 => ⟨rfl, by rw [hU9]; exact hG, hE.go hS hU9 hW9⟩⟩ rfl rfl hl.1 rfl (lv_room (Nat.le_of_ble_eq_true rfl)) dL_law_799 ⟨(Nat.le_trans (show kc + 0 ≤ 300000 by omega) (Nat.le_of_ble_eq_true rfl)), (Nat.le_trans (show ks + 0 ≤ 300000 by omega) (Nat.le_of_ble_eq_true rfl))⟩) hS (fun x1195 u1193 H locs w1194 hG hS => ?_)
          obtain ⟨hf1197, w1194, hq1196⟩ := w1194
          refine lv_pop hx hb dL_law_802 rfl ?_
          refine lv_goto (tgt := 1047) hx hb dL_law_803 (by decide) ?_
          obtain ⟨x1198, h1199⟩ : ∃ y : Int32, y = i + Int32.ofInt (6) := ⟨_, rfl⟩
          try have h1200 : x1198.toInt = i.toInt + (6) := ty_inc h1199 (by decide) (by omega) (by omega)
          refine lv_iinc (v := x1198) (lv' := [(4, .int x1198), (3, .ref q25), (2, .ref q12), (1, .ref q1), (0, .ref b)]) hx hb dL_law_1047 hl (k := 0) rfl h1199.symm (by decide) rfl (fun ls hl => ?_)
          refine lv_goto (tgt := 23) hx hb dL_law_1050 (by decide) ?_
          have hk1201 : u1193 1 0 = u1186 1 0 := hf1197 1 0 (by decide) (by decide) (by decide) (by decide) (by decide)
          have hk1202 : u1186 1 0 = g 1 0 := hf1189 1 0 (by decide) (by decide)
          have hk1203 : u1193 2 0 = u1186 2 0 := hf1197 2 0 (by decide) (by decide) (by decide) (by decide) (by decide)
          have hk1204 : u1186 2 0 = g 2 0 := hf1189 2 0 (by decide) (by decide)
          have hk1205 : u1193 3 0 = u1186 3 0 := hf1197 3 0 (by decide) (by decide) (by decide) (by decide) (by decide)
          have hk1206 : u1186 3 0 = g 3 0 := hf1189 3 0 (by decide) (by decide)
          have hk1207 : u1193 4 0 = u1186 4 0 := hf1197 4 0 (by decide) (by decide) (by decide) (by decide) (by decide)
          have hk1208 : u1193 5 0 = u1186 5 0 := hf1197 5 0 (by decide) (by decide) (by decide) (by decide) (by decide)
          have hk1209 : u1193 6 0 = u1186 6 0 := hf1197 6 0 (by decide) (by decide) (by decide) (by decide) (by decide)
          have hk1210 : u1186 6 0 = g 6 0 := hf1189 6 0 (by decide) (by decide)
          have hk1211 : u1193 7 0 = u1186 7 0 := hf1197 7 0 (by decide) (by decide) (by decide) (by decide) (by decide)
          have hk1212 : u1186 7 0 = g 7 0 := hf1189 7 0 (by decide) (by decide)
          have hk1213 : u1193 33 0 = u1186 33 0 := hf1197 33 0 (by decide) (by decide) (by decide) (by decide) (by decide)
          have hk1214 : u1186 33 0 = g 33 0 := hf1189 33 0 (by decide) (by decide)
          have hk1215 : u1193 34 0 = u1186 34 0 := hf1197 34 0 (by decide) (by decide) (by decide) (by decide) (by decide)
          have hk1216 : u1186 34 0 = g 34 0 := hf1189 34 0 (by decide) (by decide)
          have hk1217 : u1193 35 0 = u1186 35 0 := hf1197 35 0 (by decide) (by decide) (by decide) (by decide) (by decide)
          have hk1218 : u1186 35 0 = g 35 0 := hf1189 35 0 (by decide) (by decide)
          have hk1219 : u1193 36 0 = u1186 36 0 := hf1197 36 0 (by decide) (by decide) (by decide) (by decide) (by decide)
          have hk1220 : u1186 36 0 = g 36 0 := hf1189 36 0 (by decide) (by decide)
          have hk1221 : u1193 101 0 = u1186 101 0 := hf1197 101 0 (by decide) (by decide) (by decide) (by decide) (by decide)
          have hk1222 : u1186 101 0 = g 101 0 := hf1189 101 0 (by decide) (by decide)
          have hk1223 : u1193 104 0 = u1186 104 0 := hf1197 104 0 (by decide) (by decide) (by decide) (by decide) (by decide)
          have hk1224 : u1186 104 0 = g 104 0 := hf1189 104 0 (by decide) (by decide)
          have hk1225 : u1193 114 0 = u1186 114 0 := hf1197 114 0 (by decide) (by decide) (by decide) (by decide) (by decide)
          have hk1226 : u1186 114 0 = g 114 0 := hf1189 114 0 (by decide) (by decide)
          have hk1227 : u1193 122 0 = u1186 122 0 := hf1197 122 0 (by decide) (by decide) (by decide) (by decide) (by decide)
          have hk1228 : u1186 122 0 = g 122 0 := hf1189 122 0 (by decide) (by decide)
          have hk1229 : u1193 126 0 = u1186 126 0 := hf1197 126 0 (by decide) (by decide) (by decide) (by decide) (by decide)
          exact ih x1198 Γ u1193 (kc) (ks) _ _ ls (by omega) (by omega) (by omega) (by omega) (by omega) (by omega) (by omega) (by omega) (by omega) (by omega) (by omega) (by omega) (by (repeat (first | with_reducible assumption | (refine IJ_c (by decide) (by decide) (by decide) ?_) | (refine IJ_take (by omega) (by omega) ?_) | (refine IJ_how (by omega) ?_) | (refine IJ_by (by omega) ?_)))) hU t_q1 t_q12 t_q25 (by omega) (by omega) hG hS (lv_sub hl [0, 1, 2, 3, 4] rfl)
        · skip
          refine lv_tableIn (tgt := 806) (off := 766) hx hb dL_law_40 (by omega) (by omega) (by rw [q90]; rfl) (by decide) ?_
          refine lv_aload_n hx hb dL_law_806 rfl (lv_at hl 3 rfl) ?_
          refine lv_aload_n hx hb dL_law_807 rfl (lv_at hl 4 rfl) ?_
          refine lv_iload hx hb dL_law_808 (lv_at hl 0 rfl) ?_
          refine ty_iconst hx hb (1) dL_law_810 (by decide) (fun x1230 h1231 => ?_)
          refine ty_iadd hx hb dL_law_811 (fun x1232 h1233 => ?_)
          try have h1234 : x1232.toInt = i.toInt + x1230.toInt := ty_add h1233 (by omega) (by omega)
          refine va_sld hx hb hXs hbl hbA hS (i := x1232) (ty_ix (by omega)) dL_law_812 ?_
          refine lv_topi (fun x1235 s1236 => ?_)
          refine lv_aload_n hx hb dL_law_813 rfl (lv_at hl 4 rfl) ?_
          refine lv_iload hx hb dL_law_814 (lv_at hl 0 rfl) ?_
          refine ty_iconst hx hb (2) dL_law_816 (by decide) (fun x1237 h1238 => ?_)
          refine ty_iadd hx hb dL_law_817 (fun x1239 h1240 => ?_)
          try have h1241 : x1239.toInt = i.toInt + x1237.toInt := ty_add h1240 (by omega) (by omega)
          refine va_sld hx hb hXs hbl hbA hS (i := x1239) (ty_ix (by omega)) dL_law_818 ?_
          refine lv_topi (fun x1242 s1243 => ?_)
          refine lv_aload_n hx hb dL_law_819 rfl (lv_at hl 4 rfl) ?_
          refine lv_iload hx hb dL_law_820 (lv_at hl 0 rfl) ?_
          refine ty_iconst hx hb (3) dL_law_822 (by decide) (fun x1244 h1245 => ?_)
          refine ty_iadd hx hb dL_law_823 (fun x1246 h1247 => ?_)
          try have h1248 : x1246.toInt = i.toInt + x1244.toInt := ty_add h1247 (by omega) (by omega)
          refine va_sld hx hb hXs hbl hbA hS (i := x1246) (ty_ix (by omega)) dL_law_824 ?_
          refine lv_topi (fun x1249 s1250 => ?_)
          refine ty_if_eq (tgt := 832) hx hb dL_law_825 (by decide) (fun c1251 => ?_) (fun c1251 => ?_)
          · skip
            refine ty_iconst hx hb (0) dL_law_832 (by decide) (fun x1252 h1253 => ?_)
            refine cI (va_runV (C := RX8) (As := [.int x1235, .int x1242, .int x1252]) (rest := []) ⟨hx, hb, hml, hown, hA⟩ (k_X8_dies l dC dI dA sz X Γ hU g q1 t_q1 x1235 x1242 x1252   (by omega) (by omega) (by omega)) ⟨callB_of 3 hA (al_A wd_3_236) rfl rfl rfl (hA _ wd_1_1) (hA _ wd_3_233) (by decide +kernel) ⟨Nat.le_of_ble_eq_true rfl, Nat.le_of_ble_eq_true rfl⟩, hA _ wd_3_234, hA _ wd_3_235⟩ ⟨bl, recv_X8 hE hG t_q1, fun U hU9 hW9 => ⟨rfl, by rw [hU9]; exact hG, hE.go hS hU9 hW9⟩⟩ rfl rfl hl.1 rfl (lv_room (Nat.le_of_ble_eq_true rfl)) dL_law_833 ⟨(Nat.le_trans (show kc + 0 ≤ 300000 by omega) (Nat.le_of_ble_eq_true rfl)), (Nat.le_trans (show ks + 0 ≤ 300000 by omega) (Nat.le_of_ble_eq_true rfl))⟩) hS (fun x1256 u1254 H locs w1255 hG hS => ?_)
            have eu1257 := w1255
            rw [eu1257] at hG
            refine lv_pop hx hb dL_law_836 rfl ?_
            refine lv_aload_n hx hb dL_law_837 rfl (lv_at hl 2 rfl) ?_
            refine lv_aload_n hx hb dL_law_838 rfl (lv_at hl 4 rfl) ?_
            refine lv_iload hx hb dL_law_839 (lv_at hl 0 rfl) ?_
            refine ty_iconst hx hb (1) dL_law_841 (by decide) (fun x1258 h1259 => ?_)
            refine ty_iadd hx hb dL_law_842 (fun x1260 h1261 => ?_)
            try have h1262 : x1260.toInt = i.toInt + x1258.toInt := ty_add h1261 (by omega) (by omega)
            refine va_sld hx hb hXs hbl hbA hS (i := x1260) (ty_ix (by omega)) dL_law_843 ?_
            rw [lw_same (j := x1260) s1236 (by omega)]
            refine lv_aload_n hx hb dL_law_844 rfl (lv_at hl 4 rfl) ?_
            refine lv_iload hx hb dL_law_845 (lv_at hl 0 rfl) ?_
            refine ty_iconst hx hb (2) dL_law_847 (by decide) (fun x1263 h1264 => ?_)
            refine ty_iadd hx hb dL_law_848 (fun x1265 h1266 => ?_)
            try have h1267 : x1265.toInt = i.toInt + x1263.toInt := ty_add h1266 (by omega) (by omega)
            refine va_sld hx hb hXs hbl hbA hS (i := x1265) (ty_ix (by omega)) dL_law_849 ?_
            rw [lw_same (j := x1265) s1243 (by omega)]
            refine lv_aload_n hx hb dL_law_850 rfl (lv_at hl 4 rfl) ?_
            refine lv_iload hx hb dL_law_851 (lv_at hl 0 rfl) ?_
            refine ty_iconst hx hb (3) dL_law_853 (by decide) (fun x1268 h1269 => ?_)
            refine ty_iadd hx hb dL_law_854 (fun x1270 h1271 => ?_)
            try have h1272 : x1270.toInt = i.toInt + x1268.toInt := ty_add h1271 (by omega) (by omega)
            refine va_sld hx hb hXs hbl hbA hS (i := x1270) (ty_ix (by omega)) dL_law_855 ?_
            rw [lw_same (j := x1270) s1250 (by omega)]
            refine ty_if_eq (tgt := 863) hx hb dL_law_856 (by decide) (fun c1273 => ?_) (fun c1273 => ?_)
            · skip
              refine ty_iconst hx hb (0) dL_law_863 (by decide) (fun x1274 h1275 => ?_)
              refine cI (va_runV (C := RX9) (As := [.int x1235, .int x1242, .int x1274]) (rest := []) ⟨hx, hb, hml, hown, hA⟩ (k_X9_dies l dC dI dA sz X Γ hU g q12 t_q12 x1235 x1242 x1274   (by omega) (by omega) (by omega) (by (repeat (first | with_reducible assumption | (refine IJ_c (by decide) (by decide) (by decide) ?_) | (refine IJ_take (by omega) (by omega) ?_) | (refine IJ_how (by omega) ?_) | (refine IJ_by (by omega) ?_))))) ⟨callB_of 3 hA (al_A wd_5_205) rfl rfl rfl (hA _ wd_1_7) (hA _ wd_5_202) (by decide +kernel) ⟨Nat.le_of_ble_eq_true rfl, Nat.le_of_ble_eq_true rfl⟩, hA _ wd_5_203, hA _ wd_5_204⟩ ⟨bl, recv_X9 hE hG t_q12, fun U hU9 hW9 => ⟨rfl, by rw [hU9]; exact hG, hE.go hS hU9 hW9⟩⟩ rfl rfl hl.1 rfl (lv_room (Nat.le_of_ble_eq_true rfl)) dL_law_864 ⟨(Nat.le_trans (show kc + 0 ≤ 300000 by omega) (Nat.le_of_ble_eq_true rfl)), (Nat.le_trans (show ks + 0 ≤ 300000 by omega) (Nat.le_of_ble_eq_true rfl))⟩) hS (fun x1278 u1276 H locs w1277 hG hS => ?_)
              obtain ⟨hf1280, hq1279⟩ := w1277
              refine lv_pop hx hb dL_law_867 rfl ?_
              refine lv_goto (tgt := 1047) hx hb dL_law_868 (by decide) ?_
              obtain ⟨x1281, h1282⟩ : ∃ y : Int32, y = i + Int32.ofInt (6) := ⟨_, rfl⟩
              try have h1283 : x1281.toInt = i.toInt + (6) := ty_inc h1282 (by decide) (by omega) (by omega)
              refine lv_iinc (v := x1281) (lv' := [(4, .int x1281), (3, .ref q25), (2, .ref q12), (1, .ref q1), (0, .ref b)]) hx hb dL_law_1047 hl (k := 0) rfl h1282.symm (by decide) rfl (fun ls hl => ?_)
              refine lv_goto (tgt := 23) hx hb dL_law_1050 (by decide) ?_
              have hk1284 : u1276 1 0 = g 1 0 := hf1280 1 0 (by decide) (by decide) (by decide) (by decide) (by decide) (by decide)
              have hk1285 : u1276 2 0 = g 2 0 := hf1280 2 0 (by decide) (by decide) (by decide) (by decide) (by decide) (by decide)
              have hk1286 : u1276 3 0 = g 3 0 := hf1280 3 0 (by decide) (by decide) (by decide) (by decide) (by decide) (by decide)
              have hk1287 : u1276 4 0 = g 4 0 := hf1280 4 0 (by decide) (by decide) (by decide) (by decide) (by decide) (by decide)
              have hk1288 : u1276 5 0 = g 5 0 := hf1280 5 0 (by decide) (by decide) (by decide) (by decide) (by decide) (by decide)
              have hk1289 : u1276 6 0 = g 6 0 := hf1280 6 0 (by decide) (by decide) (by decide) (by decide) (by decide) (by decide)
              have hk1290 : u1276 7 0 = g 7 0 := hf1280 7 0 (by decide) (by decide) (by decide) (by decide) (by decide) (by decide)
              have hk1291 : u1276 33 0 = g 33 0 := hf1280 33 0 (by decide) (by decide) (by decide) (by decide) (by decide) (by decide)
              have hk1292 : u1276 34 0 = g 34 0 := hf1280 34 0 (by decide) (by decide) (by decide) (by decide) (by decide) (by decide)
              have hk1293 : u1276 35 0 = g 35 0 := hf1280 35 0 (by decide) (by decide) (by decide) (by decide) (by decide) (by decide)
              have hk1294 : u1276 36 0 = g 36 0 := hf1280 36 0 (by decide) (by decide) (by decide) (by decide) (by decide) (by decide)
              have hk1295 : u1276 101 0 = g 101 0 := hf1280 101 0 (by decide) (by decide) (by decide) (by decide) (by decide) (by decide)
              have hk1296 : u1276 104 0 = g 104 0 := hf1280 104 0 (by decide) (by decide) (by decide) (by decide) (by decide) (by decide)
              have hk1297 : u1276 111 0 = g 111 0 := hf1280 111 0 (by decide) (by decide) (by decide) (by decide) (by decide) (by decide)
              have hk1298 : u1276 112 0 = g 112 0 := hf1280 112 0 (by decide) (by decide) (by decide) (by decide) (by decide) (by decide)
              have hk1299 : u1276 114 0 = g 114 0 := hf1280 114 0 (by decide) (by decide) (by decide) (by decide) (by decide) (by decide)
              have hk1300 : u1276 122 0 = g 122 0 := hf1280 122 0 (by decide) (by decide) (by decide) (by decide) (by decide) (by decide)
              have hk1301 : u1276 126 0 = g 126 0 := hf1280 126 0 (by decide) (by decide) (by decide) (by decide) (by decide) (by decide)
              exact ih x1281 Γ u1276 (kc) (ks) _ _ ls (by omega) (by omega) (by omega) (by omega) (by omega) (by omega) (by omega) (by omega) (by omega) (by omega) (by omega) (by omega) (by (repeat (first | with_reducible assumption | (refine IJ_c (by decide) (by decide) (by decide) ?_) | (refine IJ_take (by omega) (by omega) ?_) | (refine IJ_how (by omega) ?_) | (refine IJ_by (by omega) ?_)))) hU t_q1 t_q12 t_q25 (by omega) (by omega) hG hS (lv_sub hl [0, 1, 2, 3, 4] rfl)
            · exfalso; omega
          · skip
            refine ty_iconst hx hb (1) dL_law_828 (by decide) (fun x1302 h1303 => ?_)
            refine lv_goto (tgt := 833) hx hb dL_law_829 (by decide) ?_
            refine cI (va_runV (C := RX8) (As := [.int x1235, .int x1242, .int x1302]) (rest := []) ⟨hx, hb, hml, hown, hA⟩ (k_X8_dies l dC dI dA sz X Γ hU g q1 t_q1 x1235 x1242 x1302   (by omega) (by omega) (by omega)) ⟨callB_of 3 hA (al_A wd_3_236) rfl rfl rfl (hA _ wd_1_1) (hA _ wd_3_233) (by decide +kernel) ⟨Nat.le_of_ble_eq_true rfl, Nat.le_of_ble_eq_true rfl⟩, hA _ wd_3_234, hA _ wd_3_235⟩ ⟨bl, recv_X8 hE hG t_q1, fun U hU9 hW9 => ⟨rfl, by rw [hU9]; exact hG, hE.go hS hU9 hW9⟩⟩ rfl rfl hl.1 rfl (lv_room (Nat.le_of_ble_eq_true rfl)) dL_law_833 ⟨(Nat.le_trans (show kc + 0 ≤ 300000 by omega) (Nat.le_of_ble_eq_true rfl)), (Nat.le_trans (show ks + 0 ≤ 300000 by omega) (Nat.le_of_ble_eq_true rfl))⟩) hS (fun x1306 u1304 H locs w1305 hG hS => ?_)
            have eu1307 := w1305
            rw [eu1307] at hG
            refine lv_pop hx hb dL_law_836 rfl ?_
            refine lv_aload_n hx hb dL_law_837 rfl (lv_at hl 2 rfl) ?_
            refine lv_aload_n hx hb dL_law_838 rfl (lv_at hl 4 rfl) ?_
            refine lv_iload hx hb dL_law_839 (lv_at hl 0 rfl) ?_
            refine ty_iconst hx hb (1) dL_law_841 (by decide) (fun x1308 h1309 => ?_)
            refine ty_iadd hx hb dL_law_842 (fun x1310 h1311 => ?_)
            try have h1312 : x1310.toInt = i.toInt + x1308.toInt := ty_add h1311 (by omega) (by omega)
            refine va_sld hx hb hXs hbl hbA hS (i := x1310) (ty_ix (by omega)) dL_law_843 ?_
            rw [lw_same (j := x1310) s1236 (by omega)]
            refine lv_aload_n hx hb dL_law_844 rfl (lv_at hl 4 rfl) ?_
            refine lv_iload hx hb dL_law_845 (lv_at hl 0 rfl) ?_
            refine ty_iconst hx hb (2) dL_law_847 (by decide) (fun x1313 h1314 => ?_)
            refine ty_iadd hx hb dL_law_848 (fun x1315 h1316 => ?_)
            try have h1317 : x1315.toInt = i.toInt + x1313.toInt := ty_add h1316 (by omega) (by omega)
            refine va_sld hx hb hXs hbl hbA hS (i := x1315) (ty_ix (by omega)) dL_law_849 ?_
            rw [lw_same (j := x1315) s1243 (by omega)]
            refine lv_aload_n hx hb dL_law_850 rfl (lv_at hl 4 rfl) ?_
            refine lv_iload hx hb dL_law_851 (lv_at hl 0 rfl) ?_
            refine ty_iconst hx hb (3) dL_law_853 (by decide) (fun x1318 h1319 => ?_)
            refine ty_iadd hx hb dL_law_854 (fun x1320 h1321 => ?_)
            try have h1322 : x1320.toInt = i.toInt + x1318.toInt := ty_add h1321 (by omega) (by omega)
            refine va_sld hx hb hXs hbl hbA hS (i := x1320) (ty_ix (by omega)) dL_law_855 ?_
            rw [lw_same (j := x1320) s1250 (by omega)]
            refine ty_if_eq (tgt := 863) hx hb dL_law_856 (by decide) (fun c1323 => ?_) (fun c1323 => ?_)
            · skip
              refine ty_iconst hx hb (0) dL_law_863 (by decide) (fun x1324 h1325 => ?_)
              refine cI (va_runV (C := RX9) (As := [.int x1235, .int x1242, .int x1324]) (rest := []) ⟨hx, hb, hml, hown, hA⟩ (k_X9_dies l dC dI dA sz X Γ hU g q12 t_q12 x1235 x1242 x1324   (by omega) (by omega) (by omega) (by (repeat (first | with_reducible assumption | (refine IJ_c (by decide) (by decide) (by decide) ?_) | (refine IJ_take (by omega) (by omega) ?_) | (refine IJ_how (by omega) ?_) | (refine IJ_by (by omega) ?_))))) ⟨callB_of 3 hA (al_A wd_5_205) rfl rfl rfl (hA _ wd_1_7) (hA _ wd_5_202) (by decide +kernel) ⟨Nat.le_of_ble_eq_true rfl, Nat.le_of_ble_eq_true rfl⟩, hA _ wd_5_203, hA _ wd_5_204⟩ ⟨bl, recv_X9 hE hG t_q12, fun U hU9 hW9 => ⟨rfl, by rw [hU9]; exact hG, hE.go hS hU9 hW9⟩⟩ rfl rfl hl.1 rfl (lv_room (Nat.le_of_ble_eq_true rfl)) dL_law_864 ⟨(Nat.le_trans (show kc + 0 ≤ 300000 by omega) (Nat.le_of_ble_eq_true rfl)), (Nat.le_trans (show ks + 0 ≤ 300000 by omega) (Nat.le_of_ble_eq_true rfl))⟩) hS (fun x1328 u1326 H locs w1327 hG hS => ?_)
              obtain ⟨hf1330, hq1329⟩ := w1327
              refine lv_pop hx hb dL_law_867 rfl ?_
              refine lv_goto (tgt := 1047) hx hb dL_law_868 (by decide) ?_
              obtain ⟨x1331, h1332⟩ : ∃ y : Int32, y = i + Int32.ofInt (6) := ⟨_, rfl⟩
              try have h1333 : x1331.toInt = i.toInt + (6) := ty_inc h1332 (by decide) (by omega) (by omega)
              refine lv_iinc (v := x1331) (lv' := [(4, .int x1331), (3, .ref q25), (2, .ref q12), (1, .ref q1), (0, .ref b)]) hx hb dL_law_1047 hl (k := 0) rfl h1332.symm (by decide) rfl (fun ls hl => ?_)
              refine lv_goto (tgt := 23) hx hb dL_law_1050 (by decide) ?_
              have hk1334 : u1326 1 0 = g 1 0 := hf1330 1 0 (by decide) (by decide) (by decide) (by decide) (by decide) (by decide)
              have hk1335 : u1326 2 0 = g 2 0 := hf1330 2 0 (by decide) (by decide) (by decide) (by decide) (by decide) (by decide)
              have hk1336 : u1326 3 0 = g 3 0 := hf1330 3 0 (by decide) (by decide) (by decide) (by decide) (by decide) (by decide)
              have hk1337 : u1326 4 0 = g 4 0 := hf1330 4 0 (by decide) (by decide) (by decide) (by decide) (by decide) (by decide)
              have hk1338 : u1326 5 0 = g 5 0 := hf1330 5 0 (by decide) (by decide) (by decide) (by decide) (by decide) (by decide)
              have hk1339 : u1326 6 0 = g 6 0 := hf1330 6 0 (by decide) (by decide) (by decide) (by decide) (by decide) (by decide)
              have hk1340 : u1326 7 0 = g 7 0 := hf1330 7 0 (by decide) (by decide) (by decide) (by decide) (by decide) (by decide)
              have hk1341 : u1326 33 0 = g 33 0 := hf1330 33 0 (by decide) (by decide) (by decide) (by decide) (by decide) (by decide)
              have hk1342 : u1326 34 0 = g 34 0 := hf1330 34 0 (by decide) (by decide) (by decide) (by decide) (by decide) (by decide)
              have hk1343 : u1326 35 0 = g 35 0 := hf1330 35 0 (by decide) (by decide) (by decide) (by decide) (by decide) (by decide)
              have hk1344 : u1326 36 0 = g 36 0 := hf1330 36 0 (by decide) (by decide) (by decide) (by decide) (by decide) (by decide)
              have hk1345 : u1326 101 0 = g 101 0 := hf1330 101 0 (by decide) (by decide) (by decide) (by decide) (by decide) (by decide)
              have hk1346 : u1326 104 0 = g 104 0 := hf1330 104 0 (by decide) (by decide) (by decide) (by decide) (by decide) (by decide)
              have hk1347 : u1326 111 0 = g 111 0 := hf1330 111 0 (by decide) (by decide) (by decide) (by decide) (by decide) (by decide)
              have hk1348 : u1326 112 0 = g 112 0 := hf1330 112 0 (by decide) (by decide) (by decide) (by decide) (by decide) (by decide)
              have hk1349 : u1326 114 0 = g 114 0 := hf1330 114 0 (by decide) (by decide) (by decide) (by decide) (by decide) (by decide)
              have hk1350 : u1326 122 0 = g 122 0 := hf1330 122 0 (by decide) (by decide) (by decide) (by decide) (by decide) (by decide)
              have hk1351 : u1326 126 0 = g 126 0 := hf1330 126 0 (by decide) (by decide) (by decide) (by decide) (by decide) (by decide)
              exact ih x1331 Γ u1326 (kc) (ks) _ _ ls (by omega) (by omega) (by omega) (by omega) (by omega) (by omega) (by omega) (by omega) (by omega) (by omega) (by omega) (by omega) (by (repeat (first | with_reducible assumption | (refine IJ_c (by decide) (by decide) (by decide) ?_) | (refine IJ_take (by omega) (by omega) ?_) | (refine IJ_how (by omega) ?_) | (refine IJ_by (by omega) ?_)))) hU t_q1 t_q12 t_q25 (by omega) (by omega) hG hS (lv_sub hl [0, 1, 2, 3, 4] rfl)
            · skip
              refine ty_iconst hx hb (1) dL_law_859 (by decide) (fun x1352 h1353 => ?_)
              refine lv_goto (tgt := 864) hx hb dL_law_860 (by decide) ?_
              refine cI (va_runV (C := RX9) (As := [.int x1235, .int x1242, .int x1352]) (rest := []) ⟨hx, hb, hml, hown, hA⟩ (k_X9_dies l dC dI dA sz X Γ hU g q12 t_q12 x1235 x1242 x1352   (by omega) (by omega) (by omega) (by (repeat (first | with_reducible assumption | (refine IJ_c (by decide) (by decide) (by decide) ?_) | (refine IJ_take (by omega) (by omega) ?_) | (refine IJ_how (by omega) ?_) | (refine IJ_by (by omega) ?_))))) ⟨callB_of 3 hA (al_A wd_5_205) rfl rfl rfl (hA _ wd_1_7) (hA _ wd_5_202) (by decide +kernel) ⟨Nat.le_of_ble_eq_true rfl, Nat.le_of_ble_eq_true rfl⟩, hA _ wd_5_203, hA _ wd_5_204⟩ ⟨bl, recv_X9 hE hG t_q12, fun U hU9 hW9 => ⟨rfl, by rw [hU9]; exact hG, hE.go hS hU9 hW9⟩⟩ rfl rfl hl.1 rfl (lv_room (Nat.le_of_ble_eq_true rfl)) dL_law_864 ⟨(Nat.le_trans (show kc + 0 ≤ 300000 by omega) (Nat.le_of_ble_eq_true rfl)), (Nat.le_trans (show ks + 0 ≤ 300000 by omega) (Nat.le_of_ble_eq_true rfl))⟩) hS (fun x1356 u1354 H locs w1355 hG hS => ?_)
              obtain ⟨hf1358, hq1357⟩ := w1355
              refine lv_pop hx hb dL_law_867 rfl ?_
              refine lv_goto (tgt := 1047) hx hb dL_law_868 (by decide) ?_
              obtain ⟨x1359, h1360⟩ : ∃ y : Int32, y = i + Int32.ofInt (6) := ⟨_, rfl⟩
              try have h1361 : x1359.toInt = i.toInt + (6) := ty_inc h1360 (by decide) (by omega) (by omega)
              refine lv_iinc (v := x1359) (lv' := [(4, .int x1359), (3, .ref q25), (2, .ref q12), (1, .ref q1), (0, .ref b)]) hx hb dL_law_1047 hl (k := 0) rfl h1360.symm (by decide) rfl (fun ls hl => ?_)
              refine lv_goto (tgt := 23) hx hb dL_law_1050 (by decide) ?_
              have hk1362 : u1354 1 0 = g 1 0 := hf1358 1 0 (by decide) (by decide) (by decide) (by decide) (by decide) (by decide)
              have hk1363 : u1354 2 0 = g 2 0 := hf1358 2 0 (by decide) (by decide) (by decide) (by decide) (by decide) (by decide)
              have hk1364 : u1354 3 0 = g 3 0 := hf1358 3 0 (by decide) (by decide) (by decide) (by decide) (by decide) (by decide)
              have hk1365 : u1354 4 0 = g 4 0 := hf1358 4 0 (by decide) (by decide) (by decide) (by decide) (by decide) (by decide)
              have hk1366 : u1354 5 0 = g 5 0 := hf1358 5 0 (by decide) (by decide) (by decide) (by decide) (by decide) (by decide)
              have hk1367 : u1354 6 0 = g 6 0 := hf1358 6 0 (by decide) (by decide) (by decide) (by decide) (by decide) (by decide)
              have hk1368 : u1354 7 0 = g 7 0 := hf1358 7 0 (by decide) (by decide) (by decide) (by decide) (by decide) (by decide)
              have hk1369 : u1354 33 0 = g 33 0 := hf1358 33 0 (by decide) (by decide) (by decide) (by decide) (by decide) (by decide)
              have hk1370 : u1354 34 0 = g 34 0 := hf1358 34 0 (by decide) (by decide) (by decide) (by decide) (by decide) (by decide)
              have hk1371 : u1354 35 0 = g 35 0 := hf1358 35 0 (by decide) (by decide) (by decide) (by decide) (by decide) (by decide)
              have hk1372 : u1354 36 0 = g 36 0 := hf1358 36 0 (by decide) (by decide) (by decide) (by decide) (by decide) (by decide)
              have hk1373 : u1354 101 0 = g 101 0 := hf1358 101 0 (by decide) (by decide) (by decide) (by decide) (by decide) (by decide)
              have hk1374 : u1354 104 0 = g 104 0 := hf1358 104 0 (by decide) (by decide) (by decide) (by decide) (by decide) (by decide)
              have hk1375 : u1354 111 0 = g 111 0 := hf1358 111 0 (by decide) (by decide) (by decide) (by decide) (by decide) (by decide)
              have hk1376 : u1354 112 0 = g 112 0 := hf1358 112 0 (by decide) (by decide) (by decide) (by decide) (by decide) (by decide)
              have hk1377 : u1354 114 0 = g 114 0 := hf1358 114 0 (by decide) (by decide) (by decide) (by decide) (by decide) (by decide)
              have hk1378 : u1354 122 0 = g 122 0 := hf1358 122 0 (by decide) (by decide) (by decide) (by decide) (by decide) (by decide)
              have hk1379 : u1354 126 0 = g 126 0 := hf1358 126 0 (by decide) (by decide) (by decide) (by decide) (by decide) (by decide)
              exact ih x1359 Γ u1354 (kc) (ks) _ _ ls (by omega) (by omega) (by omega) (by omega) (by omega) (by omega) (by omega) (by omega) (by omega) (by omega) (by omega) (by omega) (by (repeat (first | with_reducible assumption | (refine IJ_c (by decide) (by decide) (by decide) ?_) | (refine IJ_take (by omega) (by omega) ?_) | (refine IJ_how (by omega) ?_) | (refine IJ_by (by omega) ?_)))) hU t_q1 t_q12 t_q25 (by omega) (by omega) hG hS (lv_sub hl [0, 1, 2, 3, 4] rfl)
        · skip
          refine lv_tableIn (tgt := 871) (off := 831) hx hb dL_law_40 (by omega) (by omega) (by rw [q91]; rfl) (by decide) ?_
          refine lv_aload_n hx hb dL_law_871 rfl (lv_at hl 3 rfl) ?_
          refine lv_aload_n hx hb dL_law_872 rfl (lv_at hl 4 rfl) ?_
          refine lv_iload hx hb dL_law_873 (lv_at hl 0 rfl) ?_
          refine ty_iconst hx hb (1) dL_law_875 (by decide) (fun x1380 h1381 => ?_)
          refine ty_iadd hx hb dL_law_876 (fun x1382 h1383 => ?_)
          try have h1384 : x1382.toInt = i.toInt + x1380.toInt := ty_add h1383 (by omega) (by omega)
          refine va_sld hx hb hXs hbl hbA hS (i := x1382) (ty_ix (by omega)) dL_law_877 ?_
          refine lv_topi (fun x1385 s1386 => ?_)
          refine lv_aload_n hx hb dL_law_878 rfl (lv_at hl 4 rfl) ?_
          refine lv_iload hx hb dL_law_879 (lv_at hl 0 rfl) ?_
          refine ty_iconst hx hb (2) dL_law_881 (by decide) (fun x1387 h1388 => ?_)
          refine ty_iadd hx hb dL_law_882 (fun x1389 h1390 => ?_)
          try have h1391 : x1389.toInt = i.toInt + x1387.toInt := ty_add h1390 (by omega) (by omega)
          refine va_sld hx hb hXs hbl hbA hS (i := x1389) (ty_ix (by omega)) dL_law_883 ?_
          refine lv_topi (fun x1392 s1393 => ?_)
          refine cI (va_runV (C := RX8) (As := [.int x1385, .int x1392]) (rest := []) ⟨hx, hb, hml, hown, hA⟩ (k_X8_fees l dC dI dA sz X Γ hU g q1 t_q1 x1385 x1392   (by omega)) ⟨callB_of 2 hA (al_A wd_4_4) rfl rfl rfl (hA _ wd_1_1) (hA _ wd_4_1) (by decide +kernel) ⟨Nat.le_of_ble_eq_true rfl, Nat.le_of_ble_eq_true rfl⟩, hA _ wd_4_2, hA _ wd_4_3⟩ ⟨bl, recv_X8 hE hG t_q1, fun U hU9 hW9 => ⟨rfl, by rw [hU9]; exact hG, hE.go hS hU9 hW9⟩⟩ rfl rfl hl.1 rfl (lv_room (Nat.le_of_ble_eq_true rfl)) dL_law_884 ⟨(Nat.le_trans (show kc + 0 ≤ 300000 by omega) (Nat.le_of_ble_eq_true rfl)), (Nat.le_trans (show ks + 0 ≤ 300000 by omega) (Nat.le_of_ble_eq_true rfl))⟩) hS (fun x1396 u1394 H locs w1395 hG hS => ?_)
          have hf1397 := w1395
          have hj1398 : IJ u1394 := IJ_cg (hf1397 126 0 (by decide) (by decide) (by decide)) (fun j => hf1397 132 j (by decide) (by decide) (by decide)) (fun j => hf1397 134 j (by decide) (by decide) (by decide)) (by (repeat (first | with_reducible assumption | (refine IJ_c (by decide) (by decide) (by decide) ?_) | (refine IJ_take (by omega) (by omega) ?_) | (refine IJ_how (by omega) ?_) | (refine IJ_by (by omega) ?_))))
          refine lv_pop hx hb dL_law_887 rfl ?_
          refine lv_aload_n hx hb dL_law_888 rfl (lv_at hl 2 rfl) ?_
          refine lv_aload_n hx hb dL_law_889 rfl (lv_at hl 4 rfl) ?_
          refine lv_iload hx hb dL_law_890 (lv_at hl 0 rfl) ?_
          refine ty_iconst hx hb (1) dL_law_892 (by decide) (fun x1399 h1400 => ?_)
          refine ty_iadd hx hb dL_law_893 (fun x1401 h1402 => ?_)
          try have h1403 : x1401.toInt = i.toInt + x1399.toInt := ty_add h1402 (by omega) (by omega)
          refine va_sld hx hb hXs hbl hbA hS (i := x1401) (ty_ix (by omega)) dL_law_894 ?_
          rw [lw_same (j := x1401) s1386 (by omega)]
          refine lv_aload_n hx hb dL_law_895 rfl (lv_at hl 4 rfl) ?_
          refine lv_iload hx hb dL_law_896 (lv_at hl 0 rfl) ?_
          refine ty_iconst hx hb (2) dL_law_898 (by decide) (fun x1404 h1405 => ?_)
          refine ty_iadd hx hb dL_law_899 (fun x1406 h1407 => ?_)
          try have h1408 : x1406.toInt = i.toInt + x1404.toInt := ty_add h1407 (by omega) (by omega)
          refine va_sld hx hb hXs hbl hbA hS (i := x1406) (ty_ix (by omega)) dL_law_900 ?_
          rw [lw_same (j := x1406) s1393 (by omega)]
          have hk1409 : u1394 104 0 = g 104 0 := hf1397 104 0 (by decide) (by decide) (by decide)
          refine cI (va_runV (C := RX9) (As := [.int x1385, .int x1392]) (rest := []) ⟨hx, hb, hml, hown, hA⟩ (k_X9_fees l dC dI dA sz X Γ hU u1394 q12 t_q12 x1385 x1392   (by omega)) ⟨callB_of 2 hA (al_A wd_5_213) rfl rfl rfl (hA _ wd_1_7) (hA _ wd_5_210) (by decide +kernel) ⟨Nat.le_of_ble_eq_true rfl, Nat.le_of_ble_eq_true rfl⟩, hA _ wd_5_211, hA _ wd_5_212⟩ ⟨bl, recv_X9 hE hG t_q12, fun U hU9 hW9 => ⟨rfl, by rw [hU9]; exact hG, hE.go hS hU9 hW9⟩⟩ rfl rfl hl.1 rfl (lv_room (Nat.le_of_ble_eq_true rfl)) dL_law_901 ⟨(Nat.le_trans (show kc + 0 ≤ 300000 by omega) (Nat.le_of_ble_eq_true rfl)), (Nat.le_trans (show ks + 0 ≤ 300000 by omega) (Nat.le_of_ble_eq_true rfl))⟩) hS (fun x1412 u1410 H locs w1411 hG hS => ?_)
          have hf1413 := w1411
          have hj1414 : IJ u1410 := IJ_cg (hf1413 126 0 (by decide) (by decide)) (fun j => hf1413 132 j (by decide) (by decide)) (fun j => hf1413 134 j (by decide) (by decide)) (by (repeat (first | with_reducible assumption | (refine IJ_c (by decide) (by decide) (by decide) ?_) | (refine IJ_take (by omega) (by omega) ?_) | (refine IJ_how (by omega) ?_) | (refine IJ_by (by omega) ?_))))
          refine lv_pop hx hb dL_law_904 rfl ?_
          refine lv_goto (tgt := 1047) hx hb dL_law_905 (by decide) ?_
          obtain ⟨x1415, h1416⟩ : ∃ y : Int32, y = i + Int32.ofInt (6) := ⟨_, rfl⟩
          try have h1417 : x1415.toInt = i.toInt + (6) := ty_inc h1416 (by decide) (by omega) (by omega)
          refine lv_iinc (v := x1415) (lv' := [(4, .int x1415), (3, .ref q25), (2, .ref q12), (1, .ref q1), (0, .ref b)]) hx hb dL_law_1047 hl (k := 0) rfl h1416.symm (by decide) rfl (fun ls hl => ?_)
          refine lv_goto (tgt := 23) hx hb dL_law_1050 (by decide) ?_
          have hk1418 : u1410 1 0 = u1394 1 0 := hf1413 1 0 (by decide) (by decide)
          have hk1419 : u1394 1 0 = g 1 0 := hf1397 1 0 (by decide) (by decide) (by decide)
          have hk1420 : u1410 2 0 = u1394 2 0 := hf1413 2 0 (by decide) (by decide)
          have hk1421 : u1394 2 0 = g 2 0 := hf1397 2 0 (by decide) (by decide) (by decide)
          have hk1422 : u1410 3 0 = u1394 3 0 := hf1413 3 0 (by decide) (by decide)
          have hk1423 : u1394 3 0 = g 3 0 := hf1397 3 0 (by decide) (by decide) (by decide)
          have hk1424 : u1410 4 0 = u1394 4 0 := hf1413 4 0 (by decide) (by decide)
          have hk1425 : u1394 4 0 = g 4 0 := hf1397 4 0 (by decide) (by decide) (by decide)
          have hk1426 : u1410 5 0 = u1394 5 0 := hf1413 5 0 (by decide) (by decide)
          have hk1427 : u1394 5 0 = g 5 0 := hf1397 5 0 (by decide) (by decide) (by decide)
          have hk1428 : u1410 6 0 = u1394 6 0 := hf1413 6 0 (by decide) (by decide)
          have hk1429 : u1394 6 0 = g 6 0 := hf1397 6 0 (by decide) (by decide) (by decide)
          have hk1430 : u1410 7 0 = u1394 7 0 := hf1413 7 0 (by decide) (by decide)
          have hk1431 : u1394 7 0 = g 7 0 := hf1397 7 0 (by decide) (by decide) (by decide)
          have hk1432 : u1410 33 0 = u1394 33 0 := hf1413 33 0 (by decide) (by decide)
          have hk1433 : u1394 33 0 = g 33 0 := hf1397 33 0 (by decide) (by decide) (by decide)
          have hk1434 : u1410 34 0 = u1394 34 0 := hf1413 34 0 (by decide) (by decide)
          have hk1435 : u1394 34 0 = g 34 0 := hf1397 34 0 (by decide) (by decide) (by decide)
          have hk1436 : u1410 35 0 = u1394 35 0 := hf1413 35 0 (by decide) (by decide)
          have hk1437 : u1394 35 0 = g 35 0 := hf1397 35 0 (by decide) (by decide) (by decide)
          have hk1438 : u1410 36 0 = u1394 36 0 := hf1413 36 0 (by decide) (by decide)
          have hk1439 : u1394 36 0 = g 36 0 := hf1397 36 0 (by decide) (by decide) (by decide)
          have hk1440 : u1410 101 0 = u1394 101 0 := hf1413 101 0 (by decide) (by decide)
          have hk1441 : u1394 101 0 = g 101 0 := hf1397 101 0 (by decide) (by decide) (by decide)
          have hk1442 : u1410 104 0 = u1394 104 0 := hf1413 104 0 (by decide) (by decide)
          have hk1443 : u1410 111 0 = u1394 111 0 := hf1413 111 0 (by decide) (by decide)
          have hk1444 : u1394 111 0 = g 111 0 := hf1397 111 0 (by decide) (by decide) (by decide)
          have hk1445 : u1410 112 0 = u1394 112 0 := hf1413 112 0 (by decide) (by decide)
          have hk1446 : u1394 112 0 = g 112 0 := hf1397 112 0 (by decide) (by decide) (by decide)
          have hk1447 : u1410 114 0 = u1394 114 0 := hf1413 114 0 (by decide) (by decide)
          have hk1448 : u1394 114 0 = g 114 0 := hf1397 114 0 (by decide) (by decide) (by decide)
          have hk1449 : u1410 122 0 = u1394 122 0 := hf1413 122 0 (by decide) (by decide)
          have hk1450 : u1394 122 0 = g 122 0 := hf1397 122 0 (by decide) (by decide) (by decide)
          have hk1451 : u1410 126 0 = u1394 126 0 := hf1413 126 0 (by decide) (by decide)
          have hk1452 : u1394 126 0 = g 126 0 := hf1397 126 0 (by decide) (by decide) (by decide)
          exact ih x1415 Γ u1410 (kc) (ks) _ _ ls (by omega) (by omega) (by omega) (by omega) (by omega) (by omega) (by omega) (by omega) (by omega) (by omega) (by omega) (by omega) (by (repeat (first | with_reducible assumption | (refine IJ_c (by decide) (by decide) (by decide) ?_) | (refine IJ_take (by omega) (by omega) ?_) | (refine IJ_how (by omega) ?_) | (refine IJ_by (by omega) ?_)))) hU t_q1 t_q12 t_q25 (by omega) (by omega) hG hS (lv_sub hl [0, 1, 2, 3, 4] rfl)
        · skip
          refine lv_tableIn (tgt := 908) (off := 868) hx hb dL_law_40 (by omega) (by omega) (by rw [q92]; rfl) (by decide) ?_
          refine lv_aload_n hx hb dL_law_908 rfl (lv_at hl 3 rfl) ?_
          refine lv_aload_n hx hb dL_law_909 rfl (lv_at hl 4 rfl) ?_
          refine lv_iload hx hb dL_law_910 (lv_at hl 0 rfl) ?_
          refine ty_iconst hx hb (1) dL_law_912 (by decide) (fun x1453 h1454 => ?_)
          refine ty_iadd hx hb dL_law_913 (fun x1455 h1456 => ?_)
          try have h1457 : x1455.toInt = i.toInt + x1453.toInt := ty_add h1456 (by omega) (by omega)
          refine va_sld hx hb hXs hbl hbA hS (i := x1455) (ty_ix (by omega)) dL_law_914 ?_
          refine lv_topi (fun x1458 s1459 => ?_)
          refine lv_aload_n hx hb dL_law_915 rfl (lv_at hl 4 rfl) ?_
          refine lv_iload hx hb dL_law_916 (lv_at hl 0 rfl) ?_
          refine ty_iconst hx hb (2) dL_law_918 (by decide) (fun x1460 h1461 => ?_)
          refine ty_iadd hx hb dL_law_919 (fun x1462 h1463 => ?_)
          try have h1464 : x1462.toInt = i.toInt + x1460.toInt := ty_add h1463 (by omega) (by omega)
          refine va_sld hx hb hXs hbl hbA hS (i := x1462) (ty_ix (by omega)) dL_law_920 ?_
          refine lv_topi (fun x1465 s1466 => ?_)
          refine cI (va_runV (C := RX8) (As := [.int x1458, .int x1465]) (rest := []) ⟨hx, hb, hml, hown, hA⟩ (k_X8_party l dC dI dA sz X Γ hU g q1 t_q1 x1458 x1465   (by omega)) ⟨callB_of 2 hA (al_A wd_4_33) rfl rfl rfl (hA _ wd_1_1) (hA _ wd_4_30) (by decide +kernel) ⟨Nat.le_of_ble_eq_true rfl, Nat.le_of_ble_eq_true rfl⟩, hA _ wd_4_31, hA _ wd_4_32⟩ ⟨bl, recv_X8 hE hG t_q1, fun U hU9 hW9 => ⟨rfl, by rw [hU9]; exact hG, hE.go hS hU9 hW9⟩⟩ rfl rfl hl.1 rfl (lv_room (Nat.le_of_ble_eq_true rfl)) dL_law_921 ⟨(Nat.le_trans (show kc + 0 ≤ 300000 by omega) (Nat.le_of_ble_eq_true rfl)), (Nat.le_trans (show ks + 0 ≤ 300000 by omega) (Nat.le_of_ble_eq_true rfl))⟩) hS (fun x1469 u1467 H locs w1468 hG hS => ?_)
          have eu1470 := w1468
          rw [eu1470] at hG
          refine lv_pop hx hb dL_law_924 rfl ?_
          refine lv_aload_n hx hb dL_law_925 rfl (lv_at hl 2 rfl) ?_
          refine lv_aload_n hx hb dL_law_926 rfl (lv_at hl 4 rfl) ?_
          refine lv_iload hx hb dL_law_927 (lv_at hl 0 rfl) ?_
          refine ty_iconst hx hb (1) dL_law_929 (by decide) (fun x1471 h1472 => ?_)
          refine ty_iadd hx hb dL_law_930 (fun x1473 h1474 => ?_)
          try have h1475 : x1473.toInt = i.toInt + x1471.toInt := ty_add h1474 (by omega) (by omega)
          refine va_sld hx hb hXs hbl hbA hS (i := x1473) (ty_ix (by omega)) dL_law_931 ?_
          rw [lw_same (j := x1473) s1459 (by omega)]
          refine lv_aload_n hx hb dL_law_932 rfl (lv_at hl 4 rfl) ?_
          refine lv_iload hx hb dL_law_933 (lv_at hl 0 rfl) ?_
          refine ty_iconst hx hb (2) dL_law_935 (by decide) (fun x1476 h1477 => ?_)
          refine ty_iadd hx hb dL_law_936 (fun x1478 h1479 => ?_)
          try have h1480 : x1478.toInt = i.toInt + x1476.toInt := ty_add h1479 (by omega) (by omega)
          refine va_sld hx hb hXs hbl hbA hS (i := x1478) (ty_ix (by omega)) dL_law_937 ?_
          rw [lw_same (j := x1478) s1466 (by omega)]
          refine cI (va_runV (C := RX9) (As := [.int x1458, .int x1465]) (rest := []) ⟨hx, hb, hml, hown, hA⟩ (k_X9_party l dC dI dA sz X Γ hU g q12 t_q12 x1458 x1465   (by omega) (by omega)) ⟨callB_of 2 hA (al_A wd_5_226) rfl rfl rfl (hA _ wd_1_7) (hA _ wd_5_223) (by decide +kernel) ⟨Nat.le_of_ble_eq_true rfl, Nat.le_of_ble_eq_true rfl⟩, hA _ wd_5_224, hA _ wd_5_225⟩ ⟨bl, recv_X9 hE hG t_q12, fun U hU9 hW9 => ⟨rfl, by rw [hU9]; exact hG, hE.go hS hU9 hW9⟩⟩ rfl rfl hl.1 rfl (lv_room (Nat.le_of_ble_eq_true rfl)) dL_law_938 ⟨(Nat.le_trans (show kc + 0 ≤ 300000 by omega) (Nat.le_of_ble_eq_true rfl)), (Nat.le_trans (show ks + 0 ≤ 300000 by omega) (Nat.le_of_ble_eq_true rfl))⟩) hS (fun x1483 u1481 H locs w1482 hG hS => ?_)
          have hf1484 := w1482
          have hj1485 : IJ u1481 := IJ_cg (hf1484 126 0 (by decide)) (fun j => hf1484 132 j (by decide)) (fun j => hf1484 134 j (by decide)) (by (repeat (first | with_reducible assumption | (refine IJ_c (by decide) (by decide) (by decide) ?_) | (refine IJ_take (by omega) (by omega) ?_) | (refine IJ_how (by omega) ?_) | (refine IJ_by (by omega) ?_))))
          refine lv_pop hx hb dL_law_941 rfl ?_
          refine lv_goto (tgt := 1047) hx hb dL_law_942 (by decide) ?_
          obtain ⟨x1486, h1487⟩ : ∃ y : Int32, y = i + Int32.ofInt (6) := ⟨_, rfl⟩
          try have h1488 : x1486.toInt = i.toInt + (6) := ty_inc h1487 (by decide) (by omega) (by omega)
          refine lv_iinc (v := x1486) (lv' := [(4, .int x1486), (3, .ref q25), (2, .ref q12), (1, .ref q1), (0, .ref b)]) hx hb dL_law_1047 hl (k := 0) rfl h1487.symm (by decide) rfl (fun ls hl => ?_)
          refine lv_goto (tgt := 23) hx hb dL_law_1050 (by decide) ?_
          have hk1489 : u1481 1 0 = g 1 0 := hf1484 1 0 (by decide)
          have hk1490 : u1481 2 0 = g 2 0 := hf1484 2 0 (by decide)
          have hk1491 : u1481 3 0 = g 3 0 := hf1484 3 0 (by decide)
          have hk1492 : u1481 4 0 = g 4 0 := hf1484 4 0 (by decide)
          have hk1493 : u1481 5 0 = g 5 0 := hf1484 5 0 (by decide)
          have hk1494 : u1481 6 0 = g 6 0 := hf1484 6 0 (by decide)
          have hk1495 : u1481 7 0 = g 7 0 := hf1484 7 0 (by decide)
          have hk1496 : u1481 33 0 = g 33 0 := hf1484 33 0 (by decide)
          have hk1497 : u1481 34 0 = g 34 0 := hf1484 34 0 (by decide)
          have hk1498 : u1481 35 0 = g 35 0 := hf1484 35 0 (by decide)
          have hk1499 : u1481 36 0 = g 36 0 := hf1484 36 0 (by decide)
          have hk1500 : u1481 101 0 = g 101 0 := hf1484 101 0 (by decide)
          have hk1501 : u1481 104 0 = g 104 0 := hf1484 104 0 (by decide)
          have hk1502 : u1481 111 0 = g 111 0 := hf1484 111 0 (by decide)
          have hk1503 : u1481 112 0 = g 112 0 := hf1484 112 0 (by decide)
          have hk1504 : u1481 114 0 = g 114 0 := hf1484 114 0 (by decide)
          have hk1505 : u1481 122 0 = g 122 0 := hf1484 122 0 (by decide)
          have hk1506 : u1481 126 0 = g 126 0 := hf1484 126 0 (by decide)
          exact ih x1486 Γ u1481 (kc) (ks) _ _ ls (by omega) (by omega) (by omega) (by omega) (by omega) (by omega) (by omega) (by omega) (by omega) (by omega) (by omega) (by omega) (by (repeat (first | with_reducible assumption | (refine IJ_c (by decide) (by decide) (by decide) ?_) | (refine IJ_take (by omega) (by omega) ?_) | (refine IJ_how (by omega) ?_) | (refine IJ_by (by omega) ?_)))) hU t_q1 t_q12 t_q25 (by omega) (by omega) hG hS (lv_sub hl [0, 1, 2, 3, 4] rfl)
        · skip
          refine lv_tableIn (tgt := 945) (off := 905) hx hb dL_law_40 (by omega) (by omega) (by rw [q93]; rfl) (by decide) ?_
          refine lv_aload_n hx hb dL_law_945 rfl (lv_at hl 3 rfl) ?_
          refine lv_aload_n hx hb dL_law_946 rfl (lv_at hl 4 rfl) ?_
          refine lv_iload hx hb dL_law_947 (lv_at hl 0 rfl) ?_
          refine ty_iconst hx hb (1) dL_law_949 (by decide) (fun x1507 h1508 => ?_)
          refine ty_iadd hx hb dL_law_950 (fun x1509 h1510 => ?_)
          try have h1511 : x1509.toInt = i.toInt + x1507.toInt := ty_add h1510 (by omega) (by omega)
          refine va_sld hx hb hXs hbl hbA hS (i := x1509) (ty_ix (by omega)) dL_law_951 ?_
          refine lv_topi (fun x1512 s1513 => ?_)
          refine lv_aload_n hx hb dL_law_952 rfl (lv_at hl 4 rfl) ?_
          refine lv_iload hx hb dL_law_953 (lv_at hl 0 rfl) ?_
          refine ty_iconst hx hb (2) dL_law_955 (by decide) (fun x1514 h1515 => ?_)
          refine ty_iadd hx hb dL_law_956 (fun x1516 h1517 => ?_)
          try have h1518 : x1516.toInt = i.toInt + x1514.toInt := ty_add h1517 (by omega) (by omega)
          refine va_sld hx hb hXs hbl hbA hS (i := x1516) (ty_ix (by omega)) dL_law_957 ?_
          refine lv_topi (fun x1519 s1520 => ?_)
          refine lv_aload_n hx hb dL_law_958 rfl (lv_at hl 1 rfl) ?_
          refine vx_calli (vx_runSX (As := [.ref q1, .int x1512, .int x1519, .ref q25]) (rest := []) ⟨hx, hb, hml, hown, hA⟩ (k_L_of l hl9 dC dI dA sz X Γ hU g q1 t_q1 x1512 x1519 q25 t_q25 (by omega)) (vx_cwSW 4 hA (al_s4 (al wt_4_52 rfl) wd_4_50 wd_4_51 wd_1_0) rfl rfl rfl (by decide +kernel) ⟨Nat.le_of_ble_eq_true rfl, Nat.le_of_ble_eq_true rfl⟩) ⟨bl, fun U hU9 hW9 => ⟨rfl, by rw [hU9]; exact hG, hE.go hS hU9 hW9⟩⟩ rfl rfl hl.1 rfl (lv_room (Nat.le_of_ble_eq_true rfl)) dL_law_959 ⟨(Nat.le_trans (show kc + 1 ≤ 300000 by omega) (Nat.le_of_ble_eq_true rfl)), (Nat.le_trans (show ks + 6 ≤ 300000 by omega) (Nat.le_of_ble_eq_true rfl))⟩) hS (fun _ _ h => h) (fun _ h => h) (fun _ _ h => h) (fun E ce q9 u t H1 locs1 ht _ hp hB _ _ hS hce hcv hcl => hp.elim) (fun x1521 u1522 t9 H locs ht9 _ w1523 hB _ _ hS => ?_)
          have hG : ty_ok (dC, dI) vwCl Γ (TP dA Γ u1522) sz X H := by rw [← ht9]; exact hB
          rw [show u1522 = g from w1523] at hG
          clear hB
          refine lv_istore (lv' := [(5, .int x1521), (4, .int i), (3, .ref q25), (2, .ref q12), (1, .ref q1), (0, .ref b)]) hx hb dL_law_962 hl (by decide) rfl (fun ls hl => ?_)
          refine lv_aload_n hx hb dL_law_964 rfl (lv_at hl 3 rfl) ?_
          refine lv_aload_n hx hb dL_law_965 rfl (lv_at hl 5 rfl) ?_
          refine lv_iload hx hb dL_law_966 (lv_at hl 1 rfl) ?_
          refine ty_iconst hx hb (1) dL_law_968 (by decide) (fun x1524 h1525 => ?_)
          refine ty_iadd hx hb dL_law_969 (fun x1526 h1527 => ?_)
          try have h1528 : x1526.toInt = i.toInt + x1524.toInt := ty_add h1527 (by omega) (by omega)
          refine va_sld hx hb hXs hbl hbA hS (i := x1526) (ty_ix (by omega)) dL_law_970 ?_
          rw [lw_same (j := x1526) s1513 (by omega)]
          refine lv_aload_n hx hb dL_law_971 rfl (lv_at hl 5 rfl) ?_
          refine lv_iload hx hb dL_law_972 (lv_at hl 1 rfl) ?_
          refine ty_iconst hx hb (2) dL_law_974 (by decide) (fun x1529 h1530 => ?_)
          refine ty_iadd hx hb dL_law_975 (fun x1531 h1532 => ?_)
          try have h1533 : x1531.toInt = i.toInt + x1529.toInt := ty_add h1532 (by omega) (by omega)
          refine va_sld hx hb hXs hbl hbA hS (i := x1531) (ty_ix (by omega)) dL_law_976 ?_
          rw [lw_same (j := x1531) s1520 (by omega)]
          refine cI (va_runV (C := RX9) (As := [.int x1512, .int x1519]) (rest := []) ⟨hx, hb, hml, hown, hA⟩ (k_X9_of l dC dI dA sz X Γ hU g q12 t_q12 x1512 x1519   (by omega)) ⟨callB_of 2 hA (al_A wd_5_230) rfl rfl rfl (hA _ wd_1_7) (hA _ wd_5_227) (by decide +kernel) ⟨Nat.le_of_ble_eq_true rfl, Nat.le_of_ble_eq_true rfl⟩, hA _ wd_5_228, hA _ wd_5_229⟩ ⟨bl, recv_X9 hE hG t_q12, fun U hU9 hW9 => ⟨rfl, by rw [hU9]; exact hG, hE.go hS hU9 hW9⟩⟩ rfl rfl hl.1 rfl (lv_room (Nat.le_of_ble_eq_true rfl)) dL_law_977 ⟨(Nat.le_trans (show (kc + 1) + 0 ≤ 300000 by omega) (Nat.le_of_ble_eq_true rfl)), (Nat.le_trans (show (ks + 6) + 0 ≤ 300000 by omega) (Nat.le_of_ble_eq_true rfl))⟩) hS (fun x1536 u1534 H locs w1535 hG hS => ?_)
          have hf1537 := w1535
          have hj1538 : IJ u1534 := IJ_cg (hf1537 126 0 (by decide)) (fun j => hf1537 132 j (by decide)) (fun j => hf1537 134 j (by decide)) (by (repeat (first | with_reducible assumption | (refine IJ_c (by decide) (by decide) (by decide) ?_) | (refine IJ_take (by omega) (by omega) ?_) | (refine IJ_how (by omega) ?_) | (refine IJ_by (by omega) ?_))))
          refine lv_istore (lv' := [(6, .int x1536), (5, .int x1521), (4, .int i), (3, .ref q25), (2, .ref q12), (1, .ref q1), (0, .ref b)]) hx hb dL_law_980 hl (by decide) rfl (fun ls hl => ?_)
          refine lv_goto (tgt := 1047) hx hb dL_law_982 (by decide) ?_
          obtain ⟨x1539, h1540⟩ : ∃ y : Int32, y = i + Int32.ofInt (6) := ⟨_, rfl⟩
          try have h1541 : x1539.toInt = i.toInt + (6) := ty_inc h1540 (by decide) (by omega) (by omega)
          refine lv_iinc (v := x1539) (lv' := [(4, .int x1539), (6, .int x1536), (5, .int x1521), (3, .ref q25), (2, .ref q12), (1, .ref q1), (0, .ref b)]) hx hb dL_law_1047 hl (k := 2) rfl h1540.symm (by decide) rfl (fun ls hl => ?_)
          refine lv_goto (tgt := 23) hx hb dL_law_1050 (by decide) ?_
          have hk1542 : u1534 1 0 = g 1 0 := hf1537 1 0 (by decide)
          have hk1543 : u1534 2 0 = g 2 0 := hf1537 2 0 (by decide)
          have hk1544 : u1534 3 0 = g 3 0 := hf1537 3 0 (by decide)
          have hk1545 : u1534 4 0 = g 4 0 := hf1537 4 0 (by decide)
          have hk1546 : u1534 5 0 = g 5 0 := hf1537 5 0 (by decide)
          have hk1547 : u1534 6 0 = g 6 0 := hf1537 6 0 (by decide)
          have hk1548 : u1534 7 0 = g 7 0 := hf1537 7 0 (by decide)
          have hk1549 : u1534 33 0 = g 33 0 := hf1537 33 0 (by decide)
          have hk1550 : u1534 34 0 = g 34 0 := hf1537 34 0 (by decide)
          have hk1551 : u1534 35 0 = g 35 0 := hf1537 35 0 (by decide)
          have hk1552 : u1534 36 0 = g 36 0 := hf1537 36 0 (by decide)
          have hk1553 : u1534 101 0 = g 101 0 := hf1537 101 0 (by decide)
          have hk1554 : u1534 104 0 = g 104 0 := hf1537 104 0 (by decide)
          have hk1555 : u1534 111 0 = g 111 0 := hf1537 111 0 (by decide)
          have hk1556 : u1534 112 0 = g 112 0 := hf1537 112 0 (by decide)
          have hk1557 : u1534 114 0 = g 114 0 := hf1537 114 0 (by decide)
          have hk1558 : u1534 122 0 = g 122 0 := hf1537 122 0 (by decide)
          have hk1559 : u1534 126 0 = g 126 0 := hf1537 126 0 (by decide)
          exact ih x1539 Γ u1534 ((kc + 1)) ((ks + 6)) _ _ ls (by omega) (by omega) (by omega) (by omega) (by omega) (by omega) (by omega) (by omega) (by omega) (by omega) (by omega) (by omega) (by (repeat (first | with_reducible assumption | (refine IJ_c (by decide) (by decide) (by decide) ?_) | (refine IJ_take (by omega) (by omega) ?_) | (refine IJ_how (by omega) ?_) | (refine IJ_by (by omega) ?_)))) hU t_q1 t_q12 t_q25 (by omega) (by omega) hG hS (lv_sub hl [0, 3, 4, 5, 6] rfl)
        · skip
          refine lv_tableIn (tgt := 985) (off := 945) hx hb dL_law_40 (by omega) (by omega) (by rw [q94]; rfl) (by decide) ?_
          refine lv_aload_n hx hb dL_law_985 rfl (lv_at hl 3 rfl) ?_
          refine lv_aload_n hx hb dL_law_986 rfl (lv_at hl 4 rfl) ?_
          refine lv_iload hx hb dL_law_987 (lv_at hl 0 rfl) ?_
          refine ty_iconst hx hb (1) dL_law_989 (by decide) (fun x1560 h1561 => ?_)
          refine ty_iadd hx hb dL_law_990 (fun x1562 h1563 => ?_)
          try have h1564 : x1562.toInt = i.toInt + x1560.toInt := ty_add h1563 (by omega) (by omega)
          refine va_sld hx hb hXs hbl hbA hS (i := x1562) (ty_ix (by omega)) dL_law_991 ?_
          refine lv_topi (fun x1565 s1566 => ?_)
          refine lv_aload_n hx hb dL_law_992 rfl (lv_at hl 4 rfl) ?_
          refine lv_iload hx hb dL_law_993 (lv_at hl 0 rfl) ?_
          refine ty_iconst hx hb (2) dL_law_995 (by decide) (fun x1567 h1568 => ?_)
          refine ty_iadd hx hb dL_law_996 (fun x1569 h1570 => ?_)
          try have h1571 : x1569.toInt = i.toInt + x1567.toInt := ty_add h1570 (by omega) (by omega)
          refine va_sld hx hb hXs hbl hbA hS (i := x1569) (ty_ix (by omega)) dL_law_997 ?_
          refine lv_topi (fun x1572 s1573 => ?_)
          refine cI (va_runV (C := RX8) (As := [.int x1565, .int x1572]) (rest := []) ⟨hx, hb, hml, hown, hA⟩ (k_X8_ownerOf l dC dI dA sz X Γ hU g q1 t_q1 x1565 x1572   (by omega)) ⟨callB_of 2 hA (al_A wd_4_41) rfl rfl rfl (hA _ wd_1_1) (hA _ wd_4_38) (by decide +kernel) ⟨Nat.le_of_ble_eq_true rfl, Nat.le_of_ble_eq_true rfl⟩, hA _ wd_4_39, hA _ wd_4_40⟩ ⟨bl, recv_X8 hE hG t_q1, fun U hU9 hW9 => ⟨rfl, by rw [hU9]; exact hG, hE.go hS hU9 hW9⟩⟩ rfl rfl hl.1 rfl (lv_room (Nat.le_of_ble_eq_true rfl)) dL_law_998 ⟨(Nat.le_trans (show kc + 0 ≤ 300000 by omega) (Nat.le_of_ble_eq_true rfl)), (Nat.le_trans (show ks + 0 ≤ 300000 by omega) (Nat.le_of_ble_eq_true rfl))⟩) hS (fun x1576 u1574 H locs w1575 hG hS => ?_)
          have eu1577 := w1575
          rw [eu1577] at hG
          refine lv_pop hx hb dL_law_1001 rfl ?_
          refine lv_aload_n hx hb dL_law_1002 rfl (lv_at hl 2 rfl) ?_
          refine lv_aload_n hx hb dL_law_1003 rfl (lv_at hl 4 rfl) ?_
          refine lv_iload hx hb dL_law_1004 (lv_at hl 0 rfl) ?_
          refine ty_iconst hx hb (1) dL_law_1006 (by decide) (fun x1578 h1579 => ?_)
          refine ty_iadd hx hb dL_law_1007 (fun x1580 h1581 => ?_)
          try have h1582 : x1580.toInt = i.toInt + x1578.toInt := ty_add h1581 (by omega) (by omega)
          refine va_sld hx hb hXs hbl hbA hS (i := x1580) (ty_ix (by omega)) dL_law_1008 ?_
          rw [lw_same (j := x1580) s1566 (by omega)]
          refine lv_aload_n hx hb dL_law_1009 rfl (lv_at hl 4 rfl) ?_
          refine lv_iload hx hb dL_law_1010 (lv_at hl 0 rfl) ?_
          refine ty_iconst hx hb (2) dL_law_1012 (by decide) (fun x1583 h1584 => ?_)
          refine ty_iadd hx hb dL_law_1013 (fun x1585 h1586 => ?_)
          try have h1587 : x1585.toInt = i.toInt + x1583.toInt := ty_add h1586 (by omega) (by omega)
          refine va_sld hx hb hXs hbl hbA hS (i := x1585) (ty_ix (by omega)) dL_law_1014 ?_
          rw [lw_same (j := x1585) s1573 (by omega)]
          refine cI (va_runV (C := RX9) (As := [.int x1565, .int x1572]) (rest := []) ⟨hx, hb, hml, hown, hA⟩ (k_X9_ownerOf l dC dI dA sz X Γ hU g q12 t_q12 x1565 x1572   (by omega)) ⟨callB_of 2 hA (al_A wd_5_234) rfl rfl rfl (hA _ wd_1_7) (hA _ wd_5_231) (by decide +kernel) ⟨Nat.le_of_ble_eq_true rfl, Nat.le_of_ble_eq_true rfl⟩, hA _ wd_5_232, hA _ wd_5_233⟩ ⟨bl, recv_X9 hE hG t_q12, fun U hU9 hW9 => ⟨rfl, by rw [hU9]; exact hG, hE.go hS hU9 hW9⟩⟩ rfl rfl hl.1 rfl (lv_room (Nat.le_of_ble_eq_true rfl)) dL_law_1015 ⟨(Nat.le_trans (show kc + 0 ≤ 300000 by omega) (Nat.le_of_ble_eq_true rfl)), (Nat.le_trans (show ks + 0 ≤ 300000 by omega) (Nat.le_of_ble_eq_true rfl))⟩) hS (fun x1590 u1588 H locs w1589 hG hS => ?_)
          have hf1591 := w1589
          have hj1592 : IJ u1588 := IJ_cg (hf1591 126 0 (by decide)) (fun j => hf1591 132 j (by decide)) (fun j => hf1591 134 j (by decide)) (by (repeat (first | with_reducible assumption | (refine IJ_c (by decide) (by decide) (by decide) ?_) | (refine IJ_take (by omega) (by omega) ?_) | (refine IJ_how (by omega) ?_) | (refine IJ_by (by omega) ?_))))
          refine lv_pop hx hb dL_law_1018 rfl ?_
          refine lv_goto (tgt := 1047) hx hb dL_law_1019 (by decide) ?_
          obtain ⟨x1593, h1594⟩ : ∃ y : Int32, y = i + Int32.ofInt (6) := ⟨_, rfl⟩
          try have h1595 : x1593.toInt = i.toInt + (6) := ty_inc h1594 (by decide) (by omega) (by omega)
          refine lv_iinc (v := x1593) (lv' := [(4, .int x1593), (3, .ref q25), (2, .ref q12), (1, .ref q1), (0, .ref b)]) hx hb dL_law_1047 hl (k := 0) rfl h1594.symm (by decide) rfl (fun ls hl => ?_)
          refine lv_goto (tgt := 23) hx hb dL_law_1050 (by decide) ?_
          have hk1596 : u1588 1 0 = g 1 0 := hf1591 1 0 (by decide)
          have hk1597 : u1588 2 0 = g 2 0 := hf1591 2 0 (by decide)
          have hk1598 : u1588 3 0 = g 3 0 := hf1591 3 0 (by decide)
          have hk1599 : u1588 4 0 = g 4 0 := hf1591 4 0 (by decide)
          have hk1600 : u1588 5 0 = g 5 0 := hf1591 5 0 (by decide)
          have hk1601 : u1588 6 0 = g 6 0 := hf1591 6 0 (by decide)
          have hk1602 : u1588 7 0 = g 7 0 := hf1591 7 0 (by decide)
          have hk1603 : u1588 33 0 = g 33 0 := hf1591 33 0 (by decide)
          have hk1604 : u1588 34 0 = g 34 0 := hf1591 34 0 (by decide)
          have hk1605 : u1588 35 0 = g 35 0 := hf1591 35 0 (by decide)
          have hk1606 : u1588 36 0 = g 36 0 := hf1591 36 0 (by decide)
          have hk1607 : u1588 101 0 = g 101 0 := hf1591 101 0 (by decide)
          have hk1608 : u1588 104 0 = g 104 0 := hf1591 104 0 (by decide)
          have hk1609 : u1588 111 0 = g 111 0 := hf1591 111 0 (by decide)
          have hk1610 : u1588 112 0 = g 112 0 := hf1591 112 0 (by decide)
          have hk1611 : u1588 114 0 = g 114 0 := hf1591 114 0 (by decide)
          have hk1612 : u1588 122 0 = g 122 0 := hf1591 122 0 (by decide)
          have hk1613 : u1588 126 0 = g 126 0 := hf1591 126 0 (by decide)
          exact ih x1593 Γ u1588 (kc) (ks) _ _ ls (by omega) (by omega) (by omega) (by omega) (by omega) (by omega) (by omega) (by omega) (by omega) (by omega) (by omega) (by omega) (by (repeat (first | with_reducible assumption | (refine IJ_c (by decide) (by decide) (by decide) ?_) | (refine IJ_take (by omega) (by omega) ?_) | (refine IJ_how (by omega) ?_) | (refine IJ_by (by omega) ?_)))) hU t_q1 t_q12 t_q25 (by omega) (by omega) hG hS (lv_sub hl [0, 1, 2, 3, 4] rfl)
        · skip
          refine lv_tableIn (tgt := 1022) (off := 982) hx hb dL_law_40 (by omega) (by omega) (by rw [q95]; rfl) (by decide) ?_
          refine lv_aload_n hx hb dL_law_1022 rfl (lv_at hl 3 rfl) ?_
          refine lv_aload_n hx hb dL_law_1023 rfl (lv_at hl 4 rfl) ?_
          refine lv_iload hx hb dL_law_1024 (lv_at hl 0 rfl) ?_
          refine ty_iconst hx hb (1) dL_law_1026 (by decide) (fun x1614 h1615 => ?_)
          refine ty_iadd hx hb dL_law_1027 (fun x1616 h1617 => ?_)
          try have h1618 : x1616.toInt = i.toInt + x1614.toInt := ty_add h1617 (by omega) (by omega)
          refine va_sld hx hb hXs hbl hbA hS (i := x1616) (ty_ix (by omega)) dL_law_1028 ?_
          refine lv_topi (fun x1619 s1620 => ?_)
          refine cI (va_runV (C := RX8) (As := [.int x1619]) (rest := []) ⟨hx, hb, hml, hown, hA⟩ (k_X8_count l dC dI dA sz X Γ hU g q1 t_q1 x1619   (by omega) (by omega)) ⟨callB_of 1 hA (al_A wd_4_45) rfl rfl rfl (hA _ wd_1_1) (hA _ wd_4_42) (by decide +kernel) ⟨Nat.le_of_ble_eq_true rfl, Nat.le_of_ble_eq_true rfl⟩, hA _ wd_4_43, hA _ wd_4_44⟩ ⟨bl, recv_X8 hE hG t_q1, fun U hU9 hW9 => ⟨rfl, by rw [hU9]; exact hG, hE.go hS hU9 hW9⟩⟩ rfl rfl hl.1 rfl (lv_room (Nat.le_of_ble_eq_true rfl)) dL_law_1029 ⟨(Nat.le_trans (show kc + 0 ≤ 300000 by omega) (Nat.le_of_ble_eq_true rfl)), (Nat.le_trans (show ks + 0 ≤ 300000 by omega) (Nat.le_of_ble_eq_true rfl))⟩) hS (fun x1623 u1621 H locs w1622 hG hS => ?_)
          have eu1624 := w1622
          rw [eu1624] at hG
          refine lv_pop hx hb dL_law_1032 rfl ?_
          refine lv_aload_n hx hb dL_law_1033 rfl (lv_at hl 2 rfl) ?_
          refine lv_aload_n hx hb dL_law_1034 rfl (lv_at hl 4 rfl) ?_
          refine lv_iload hx hb dL_law_1035 (lv_at hl 0 rfl) ?_
          refine ty_iconst hx hb (1) dL_law_1037 (by decide) (fun x1625 h1626 => ?_)
          refine ty_iadd hx hb dL_law_1038 (fun x1627 h1628 => ?_)
          try have h1629 : x1627.toInt = i.toInt + x1625.toInt := ty_add h1628 (by omega) (by omega)
          refine va_sld hx hb hXs hbl hbA hS (i := x1627) (ty_ix (by omega)) dL_law_1039 ?_
          rw [lw_same (j := x1627) s1620 (by omega)]
          refine cI (va_runV (C := RX9) (As := [.int x1619]) (rest := []) ⟨hx, hb, hml, hown, hA⟩ (k_X9_count l dC dI dA sz X Γ hU g q12 t_q12 x1619   (by omega) (by omega) (by omega)) ⟨callB_of 1 hA (al_A wd_5_238) rfl rfl rfl (hA _ wd_1_7) (hA _ wd_5_235) (by decide +kernel) ⟨Nat.le_of_ble_eq_true rfl, Nat.le_of_ble_eq_true rfl⟩, hA _ wd_5_236, hA _ wd_5_237⟩ ⟨bl, recv_X9 hE hG t_q12, fun U hU9 hW9 => ⟨rfl, by rw [hU9]; exact hG, hE.go hS hU9 hW9⟩⟩ rfl rfl hl.1 rfl (lv_room (Nat.le_of_ble_eq_true rfl)) dL_law_1040 ⟨(Nat.le_trans (show kc + 0 ≤ 300000 by omega) (Nat.le_of_ble_eq_true rfl)), (Nat.le_trans (show ks + 0 ≤ 300000 by omega) (Nat.le_of_ble_eq_true rfl))⟩) hS (fun x1632 u1630 H locs w1631 hG hS => ?_)
          have hf1633 := w1631
          have hj1634 : IJ u1630 := IJ_cg (hf1633 126 0 (by decide)) (fun j => hf1633 132 j (by decide)) (fun j => hf1633 134 j (by decide)) (by (repeat (first | with_reducible assumption | (refine IJ_c (by decide) (by decide) (by decide) ?_) | (refine IJ_take (by omega) (by omega) ?_) | (refine IJ_how (by omega) ?_) | (refine IJ_by (by omega) ?_))))
          refine lv_pop hx hb dL_law_1043 rfl ?_
          refine lv_goto (tgt := 1047) hx hb dL_law_1044 (by decide) ?_
          obtain ⟨x1635, h1636⟩ : ∃ y : Int32, y = i + Int32.ofInt (6) := ⟨_, rfl⟩
          try have h1637 : x1635.toInt = i.toInt + (6) := ty_inc h1636 (by decide) (by omega) (by omega)
          refine lv_iinc (v := x1635) (lv' := [(4, .int x1635), (3, .ref q25), (2, .ref q12), (1, .ref q1), (0, .ref b)]) hx hb dL_law_1047 hl (k := 0) rfl h1636.symm (by decide) rfl (fun ls hl => ?_)
          refine lv_goto (tgt := 23) hx hb dL_law_1050 (by decide) ?_
          have hk1638 : u1630 1 0 = g 1 0 := hf1633 1 0 (by decide)
          have hk1639 : u1630 2 0 = g 2 0 := hf1633 2 0 (by decide)
          have hk1640 : u1630 3 0 = g 3 0 := hf1633 3 0 (by decide)
          have hk1641 : u1630 4 0 = g 4 0 := hf1633 4 0 (by decide)
          have hk1642 : u1630 5 0 = g 5 0 := hf1633 5 0 (by decide)
          have hk1643 : u1630 6 0 = g 6 0 := hf1633 6 0 (by decide)
          have hk1644 : u1630 7 0 = g 7 0 := hf1633 7 0 (by decide)
          have hk1645 : u1630 33 0 = g 33 0 := hf1633 33 0 (by decide)
          have hk1646 : u1630 34 0 = g 34 0 := hf1633 34 0 (by decide)
          have hk1647 : u1630 35 0 = g 35 0 := hf1633 35 0 (by decide)
          have hk1648 : u1630 36 0 = g 36 0 := hf1633 36 0 (by decide)
          have hk1649 : u1630 101 0 = g 101 0 := hf1633 101 0 (by decide)
          have hk1650 : u1630 104 0 = g 104 0 := hf1633 104 0 (by decide)
          have hk1651 : u1630 111 0 = g 111 0 := hf1633 111 0 (by decide)
          have hk1652 : u1630 112 0 = g 112 0 := hf1633 112 0 (by decide)
          have hk1653 : u1630 114 0 = g 114 0 := hf1633 114 0 (by decide)
          have hk1654 : u1630 122 0 = g 122 0 := hf1633 122 0 (by decide)
          have hk1655 : u1630 126 0 = g 126 0 := hf1633 126 0 (by decide)
          exact ih x1635 Γ u1630 (kc) (ks) _ _ ls (by omega) (by omega) (by omega) (by omega) (by omega) (by omega) (by omega) (by omega) (by omega) (by omega) (by omega) (by omega) (by (repeat (first | with_reducible assumption | (refine IJ_c (by decide) (by decide) (by decide) ?_) | (refine IJ_take (by omega) (by omega) ?_) | (refine IJ_how (by omega) ?_) | (refine IJ_by (by omega) ?_)))) hU t_q1 t_q12 t_q25 (by omega) (by omega) hG hS (lv_sub hl [0, 1, 2, 3, 4] rfl)
set_option maxHeartbeats 40000000 in
set_option maxRecDepth 100000 in
/-- the law, from its entry -/
theorem whole_start {p : Program} {e : Env} {s : State} {m : MethodId} {below : List Frame} {meth : Method} {c : Code} (l : Launch) (hl9 : l.stackTraces = false) {b L : Nat} {xs : Nat → Int32} (hLN : L ≤ 3072) (C0 : lw_At p s m meth c b L xs) : W p l e room_1 s m #[Value.ref b] below meth c s.heap [] 0 0 (lw_Z below #[Value.ref b] s) (entryFrame m ([Value.ref b] : List Value).toArray 7) := by
  obtain ⟨hx, hb, hr, hml, hown, hts, hXs, hbl, hlocks, hgv⟩ := C0
  have hA : ∀ w ∈ AL, w.before #[Value.ref b] s = true := fun w h => hts w (al_in h)
  obtain ⟨dC, dI, dA, hE⟩ := en_start hts hgv
  obtain ⟨sz, hsz⟩ : ∃ z, z = s.heap.size := ⟨_, rfl⟩
  rw [← hsz] at hE
  have hbA : ¬ ty_A sz b := by rw [hsz]; exact Nat.not_le.mpr hbl
  obtain ⟨X, eX⟩ : ∃ z : va_W, z = [] := ⟨_, rfl⟩
  obtain ⟨Γ, eΓ⟩ : ∃ z : ty_G, z = fun _ => (0, 0) := ⟨_, rfl⟩
  obtain ⟨g, eg⟩ : ∃ z : gh, z = lw_g := ⟨_, rfl⟩
  have hU : Un Γ := by rw [eΓ]; exact ⟨fun a b _ h => absurd (show sg 0 = true from h) (by decide), fun a b _ h => absurd (show sg2 0 = true from h) (by decide)⟩
  have hL0 : tyIn Γ [] := by rw [eΓ]; exact fun a h => absurd rfl h
  have hG : ty_ok (dC, dI) vwCl Γ (TP dA Γ g) sz X s.heap := by rw [eΓ, eX, hsz]; exact ⟨Nat.le_refl _, fun a h => absurd rfl h, List.nodup_nil, fun _ h => nomatch h⟩
  have zg : ∀ c j : Nat, c = 19 ∨ c = 33 ∨ c = 34 ∨ c = 35 ∨ c = 36 → g c j = 0 := by rw [eg]; intro c j h; rcases h with rfl | rfl | rfl | rfl | rfl <;> rfl
  have zz : g 1 0 = 0 ∧ g 2 0 = 0 ∧ g 3 0 = 0 ∧ g 4 0 = 0 ∧ g 5 0 = 0 ∧ g 7 0 = 0 ∧ g 8 0 = 0 ∧ g 30 0 = 0 ∧ g 31 0 = 0 ∧ g 32 0 = 0 ∧ g 6 0 = 0 ∧ g 9 0 = 0 ∧ g 16 0 = 0 ∧ g 15 0 = 0 ∧ g 17 0 = 0 ∧ g 18 0 = 0 ∧ g 33 0 = 0 ∧ g 34 0 = 0 ∧ g 35 0 = 0 ∧ g 36 0 = 0 ∧ g 13 0 = 0 ∧ g 10 0 = 0 ∧ g 11 0 = 0 ∧ g 10 1 = 0 ∧ g 11 1 = 0 ∧ g 14 0 = -1 ∧ g 12 0 = 1 := by rw [eg]; exact ⟨rfl, rfl, rfl, rfl, rfl, rfl, rfl, rfl, rfl, rfl, rfl, rfl, rfl, rfl, rfl, rfl, rfl, rfl, rfl, rfl, rfl, rfl, rfl, rfl, rfl, rfl, rfl⟩
  have z100 : ∀ c j : Nat, 100 ≤ c ∧ c ≠ 121 → g c j = 0 := by rw [eg]; intro c j h; simp only [lw_g]; rw [if_neg (by omega), if_neg (by omega)]
  have zm : g 101 0 = 0 ∧ g 104 0 = 0 ∧ g 126 0 = 0 ∧ g 122 0 = 0 ∧ g 111 0 = 0 ∧ g 112 0 = 0 ∧ g 114 0 = 0 ∧ g 121 0 = -1 := by rw [eg]; exact ⟨rfl, rfl, rfl, rfl, rfl, rfl, rfl, rfl⟩
  clear eΓ eX eg
  have hS : va_S (ty_A sz) s.heap s.heap [] := va_S.rf
  have hl := lv_entry ([.ref b]) (n := 7) (Nat.le_of_ble_eq_true rfl)
  rw [lg_entry_eq]
  generalize (lg_sl ([.ref b]) ++ List.replicate (7 - (lg_sl ([.ref b])).length) Slot.unset).toArray = ls at hl ⊢
  have hl : lv_has ls 7 [(0, .ref b)] := hl
  refine new_X8 hx hb hA hE hG hS hown wd_1_22 wd_1_23 wd_1_1 (Nat.le_of_ble_eq_true rfl) (Nat.le_of_ble_eq_true rfl) dL_law_0 (fun q1 H z_q1 s_q1 e_q1 hG hS => ?_)
  clear z_q1 s_q1 e_q1
  refine lv_dup hx hb dL_law_3 rfl ?_
  refine cVB (va_runI (As := []) (rest := [.ref q1]) ⟨hx, hb, hml, hown, hA⟩ (k_X8_init l dC dI dA sz X Γ hU g q1  hL0 (fun c j h => zg c j (by omega)) (by omega) (by omega)) ⟨callB_of 0 hA (al_A wd_1_26) rfl rfl rfl (hA _ wd_1_1) (hA _ wd_1_24) (by decide +kernel) ⟨Nat.le_of_ble_eq_true rfl, Nat.le_of_ble_eq_true rfl⟩, rfl, hA _ wd_1_25⟩ ⟨bl, fun U hU9 hW9 => ⟨rfl, by rw [hU9]; exact hG, hE.go hS hU9 hW9⟩⟩ rfl rfl hl.1 rfl (lv_room (Nat.le_of_ble_eq_true rfl)) dL_law_4 ⟨Nat.le_of_ble_eq_true rfl, Nat.le_of_ble_eq_true rfl⟩) hS (fun u2 H locs w3 hG hS => ?_)
  obtain ⟨Γ4, g5⟩ := u2
  dsimp only at w3 hG
  obtain ⟨hx6, hU, hL7, t_q1, eu10⟩ := w3
  rw [eu10] at hG
  replace t_q1 : ty Γ4 q1 1 := t_q1
  have hL7 : tyIn Γ4 ((1, 0) :: ((9, 0) :: ((24, 0) :: ((23, 0) :: ((23, 0) :: ((8, 0) :: ((22, 0) :: ((22, 0) :: ((21, 0) :: ((20, 0) :: ((19, 0) :: ((6, 1) :: ((26, 1) :: ((17, 1) :: ((16, 1) :: ((6, 0) :: ((26, 0) :: ((17, 0) :: ((16, 0) :: ((7, 0) :: ((18, 0) :: ((12, 0) :: ((11, 0) :: ((10, 0) :: [])))))))))))))))))))))))) := hL7
  have hX11 : ext Γ Γ4 := ext.trans ext.rf hx6
  refine lv_astore_n (lv' := [(1, .ref q1), (0, .ref b)]) hx hb dL_law_7 rfl hl (by decide) rfl (fun ls hl => ?_)
  refine new_X9 hx hb hA hE hG hS hown wd_4_124 wd_4_125 wd_1_7 (Nat.le_of_ble_eq_true rfl) (Nat.le_of_ble_eq_true rfl) dL_law_8 (fun q12 H z_q12 s_q12 e_q12 hG hS => ?_)
  clear z_q12 s_q12 e_q12
  refine lv_dup hx hb dL_law_11 rfl ?_
  refine cVB (va_runI (As := []) (rest := [.ref q12]) ⟨hx, hb, hml, hown, hA⟩ (k_X9_init l dC dI dA sz X Γ4 hU g q12  ((1, 0) :: ((9, 0) :: ((24, 0) :: ((23, 0) :: ((23, 0) :: ((8, 0) :: ((22, 0) :: ((22, 0) :: ((21, 0) :: ((20, 0) :: ((19, 0) :: ((6, 1) :: ((26, 1) :: ((17, 1) :: ((16, 1) :: ((6, 0) :: ((26, 0) :: ((17, 0) :: ((16, 0) :: ((7, 0) :: ((18, 0) :: ((12, 0) :: ((11, 0) :: ((10, 0) :: [])))))))))))))))))))))))) hL7 (by decide)  (fun c j h => z100 c j h) (by omega)) ⟨callB_of 0 hA (al_A wd_4_128) rfl rfl rfl (hA _ wd_1_7) (hA _ wd_4_126) (by decide +kernel) ⟨Nat.le_of_ble_eq_true rfl, Nat.le_of_ble_eq_true rfl⟩, rfl, hA _ wd_4_127⟩ ⟨bl, fun U hU9 hW9 => ⟨rfl, by rw [hU9]; exact hG, hE.go hS hU9 hW9⟩⟩ rfl rfl hl.1 rfl (lv_room (Nat.le_of_ble_eq_true rfl)) dL_law_12 ⟨Nat.le_of_ble_eq_true rfl, Nat.le_of_ble_eq_true rfl⟩) hS (fun u13 H locs w14 hG hS => ?_)
  obtain ⟨Γ15, g16⟩ := u13
  dsimp only at w14 hG
  obtain ⟨hx17, hU, hL18, t_q12, hf19⟩ := w14
  replace t_q12 : ty Γ15 q12 30 := t_q12
  have hL18 : tyIn Γ15 ((30, 0) :: ((146, 0) :: ((145, 0) :: ((144, 0) :: ((140, 0) :: ((139, 0) :: ((138, 0) :: ((136, 0) :: ((135, 0) :: ((134, 0) :: ((133, 0) :: ((132, 0) :: ((131, 0) :: ((130, 0) :: ((129, 0) :: ((128, 0) :: ((127, 0) :: ((125, 0) :: ((123, 0) :: ((113, 0) :: ((110, 0) :: ((109, 0) :: ((108, 0) :: ((107, 0) :: ((106, 0) :: ((105, 0) :: ((103, 0) :: ((102, 0) :: ((1, 0) :: ((9, 0) :: ((24, 0) :: ((23, 0) :: ((23, 0) :: ((8, 0) :: ((22, 0) :: ((22, 0) :: ((21, 0) :: ((20, 0) :: ((19, 0) :: ((6, 1) :: ((26, 1) :: ((17, 1) :: ((16, 1) :: ((6, 0) :: ((26, 0) :: ((17, 0) :: ((16, 0) :: ((7, 0) :: ((18, 0) :: ((12, 0) :: ((11, 0) :: ((10, 0) :: [])))))))))))))))))))))))))))))))))))))))))))))))))))) := hL18
  have hX22 : ext Γ Γ15 := ext.trans hX11 hx17
  replace t_q1 : ty Γ15 q1 1 := hx17.one t_q1 (by decide)
  refine lv_astore_n (lv' := [(2, .ref q12), (1, .ref q1), (0, .ref b)]) hx hb dL_law_15 rfl hl (by decide) rfl (fun ls hl => ?_)
  refine ty_iconst hx hb (1) dL_law_16 (by decide) (fun x23 h24 => ?_)
  refine new_J hx hb hA hE hG hS wd_5_239 (N := 1) (by omega) (by decide) (Nat.le_of_ble_eq_true rfl) (Nat.le_of_ble_eq_true rfl) (25, 0) (fun Γ' => by rw [TP_25 rfl]; exact ⟨_, rfl⟩) dL_law_17 (fun q25 H z_q25 s_q25 e_q25 hG hS => ?_)
  obtain ⟨Γ26, eΓ26⟩ : ∃ z, z = va_up Γ15 q25 (25, 0) := ⟨_, rfl⟩
  rw [← eΓ26] at hG
  have hx27 : ext Γ15 Γ26 := by rw [eΓ26]; exact ext.up z_q25
  have hU : Un Γ26 := by rw [eΓ26]; exact Un.up0 hU rfl rfl
  have hL28 : tyIn Γ26 ((25, 0) :: ((30, 0) :: ((146, 0) :: ((145, 0) :: ((144, 0) :: ((140, 0) :: ((139, 0) :: ((138, 0) :: ((136, 0) :: ((135, 0) :: ((134, 0) :: ((133, 0) :: ((132, 0) :: ((131, 0) :: ((130, 0) :: ((129, 0) :: ((128, 0) :: ((127, 0) :: ((125, 0) :: ((123, 0) :: ((113, 0) :: ((110, 0) :: ((109, 0) :: ((108, 0) :: ((107, 0) :: ((106, 0) :: ((105, 0) :: ((103, 0) :: ((102, 0) :: ((1, 0) :: ((9, 0) :: ((24, 0) :: ((23, 0) :: ((23, 0) :: ((8, 0) :: ((22, 0) :: ((22, 0) :: ((21, 0) :: ((20, 0) :: ((19, 0) :: ((6, 1) :: ((26, 1) :: ((17, 1) :: ((16, 1) :: ((6, 0) :: ((26, 0) :: ((17, 0) :: ((16, 0) :: ((7, 0) :: ((18, 0) :: ((12, 0) :: ((11, 0) :: ((10, 0) :: []))))))))))))))))))))))))))))))))))))))))))))))))))))) := by rw [eΓ26]; exact hL18.up
  have hX29 : ext Γ Γ26 := ext.trans hX22 hx27
  replace t_q12 : ty Γ26 q12 30 := hx27.one t_q12 (by decide)
  replace t_q1 : ty Γ26 q1 1 := hx27.one t_q1 (by decide)
  have t_q25 : ty Γ26 q25 25 := by rw [eΓ26]; unfold ty; rw [va_up_self]
  clear z_q25 s_q25 e_q25
  refine lv_astore_n (lv' := [(3, .ref q25), (2, .ref q12), (1, .ref q1), (0, .ref b)]) hx hb dL_law_19 rfl hl (by decide) rfl (fun ls hl => ?_)
  refine ty_iconst hx hb (0) dL_law_20 (by decide) (fun x30 h31 => ?_)
  refine lv_istore (lv' := [(4, .int x30), (3, .ref q25), (2, .ref q12), (1, .ref q1), (0, .ref b)]) hx hb dL_law_21 hl (by decide) rfl (fun ls hl => ?_)
  have hk32 : g16 1 0 = g 1 0 := hf19 1 0 (by decide)
  have hk33 : g16 2 0 = g 2 0 := hf19 2 0 (by decide)
  have hk34 : g16 3 0 = g 3 0 := hf19 3 0 (by decide)
  have hk35 : g16 4 0 = g 4 0 := hf19 4 0 (by decide)
  have hk36 : g16 5 0 = g 5 0 := hf19 5 0 (by decide)
  have hk37 : g16 6 0 = g 6 0 := hf19 6 0 (by decide)
  have hk38 : g16 7 0 = g 7 0 := hf19 7 0 (by decide)
  have hk39 : g16 33 0 = g 33 0 := hf19 33 0 (by decide)
  have hk40 : g16 34 0 = g 34 0 := hf19 34 0 (by decide)
  have hk41 : g16 35 0 = g 35 0 := hf19 35 0 (by decide)
  have hk42 : g16 36 0 = g 36 0 := hf19 36 0 (by decide)
  have hk43 : g16 101 0 = g 101 0 := hf19 101 0 (by decide)
  have hk44 : g16 104 0 = g 104 0 := hf19 104 0 (by decide)
  have hk45 : g16 111 0 = g 111 0 := hf19 111 0 (by decide)
  have hk46 : g16 112 0 = g 112 0 := hf19 112 0 (by decide)
  have hk47 : g16 114 0 = g 114 0 := hf19 114 0 (by decide)
  have hk48 : g16 122 0 = g 122 0 := hf19 122 0 (by decide)
  have hk49 : g16 126 0 = g 126 0 := hf19 126 0 (by decide)
  have hj50 : IJ g16 := IJ_zero (fun j => by rw [hf19 132 j (by decide)]; exact z100 132 j (by decide)) (by rw [hf19 126 0 (by decide)]; exact z100 126 0 (by decide))
  exact law_loop l hl9 hLN hx hb hr hml hown hA hXs hbl hlocks hE hsz hbA X q1 q12 q25 ((3073 - x30.toInt) + 1).toNat x30 Γ26 g16 ((((((0 + 1) + 24) + 1) + 27) + 1)) ((((((0 + 13) + 6604) + 47) + 3734) + 1)) _ _ ls (by omega) (by omega) (by omega) (by omega) (by omega) (by omega) (by omega) (by omega) (by omega) (by omega) (by omega) (by omega) hj50 hU t_q1 t_q12 t_q25 (Nat.le_trans (Nat.le_of_ble_eq_true rfl : (((((0 + 1) + 24) + 1) + 27) + 1) ≤ 300) (Nat.le_add_right _ _)) (Nat.le_trans (Nat.le_of_ble_eq_true rfl : (((((0 + 13) + 6604) + 47) + 3734) + 1) ≤ 30000) (Nat.le_add_right _ _)) hG hS (lv_sub hl [0, 1, 2, 3, 4] rfl)
