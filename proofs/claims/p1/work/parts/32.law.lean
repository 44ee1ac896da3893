theorem al_s4 {d x1 x2 x3 : Cond} (h : d ∈ AL) (h1 : x1 ∈ AL) (h2 : x2 ∈ AL) (h3 : x3 ∈ AL) : GoodIn AL ([x1, x2, x3] ++ (d :: AL)) := fun w hw => (fun q => al_A q w List.mem_cons_self) ((List.mem_append.mp hw).elim (fun k => by simp only [List.mem_cons, List.not_mem_nil, or_false] at k; rcases k with e | e | e <;> (rw [e]; assumption)) (fun k => (List.mem_cons.mp k).elim (fun e => e ▸ h) id))
set_option maxHeartbeats 40000000 in
set_option maxRecDepth 100000 in
/-- the law, from its entry -/
theorem whole_start {p : Program} {e : Env} {s : State} {m : MethodId} {below : List Frame} {meth : Method} {c : Code} (l : Launch) (hl9 : l.stackTraces = false) {b L : Nat} {xs : Nat → Int32} (hLN : L ≤ 6) (C0 : lw_At p s m meth c b L xs) : W p l e room_1 s m #[Value.ref b] below meth c s.heap [] 0 0 (lw_Z below #[Value.ref b] s) (entryFrame m ([Value.ref b] : List Value).toArray 7) := by
  obtain ⟨hx, hb, hr, hml, hown, hts, hXs, hbl, hlocks, hgv⟩ := C0
  have hA : ∀ w ∈ AL, w.before #[Value.ref b] s = true := fun w h => hts w (al_in h)
  obtain ⟨dC, dI, dA, hE⟩ := en_start hts hgv
  obtain ⟨sz, hsz⟩ : ∃ z, z = s.heap.size := ⟨_, rfl⟩
  rw [← hsz] at hE
  have hbA : ¬ ty_A sz b := by rw [hsz]; exact Nat.not_le.mpr hbl
  obtain ⟨X, eX⟩ : ∃ z : va_W, z = [] := ⟨_, rfl⟩
  obtain ⟨Γ, eΓ⟩ : ∃ z : ty_G, z = fun _ => (0, 0) := ⟨_, rfl⟩
  obtain ⟨g, eg⟩ : ∃ z : gh, z = lw_g := ⟨_, rfl⟩
  have hU : Un Γ := by rw [eΓ]; exact ⟨fun a b _ h => absurd (show sg 0 = true from h) (by decide), fun a b _ h => absurd (show sg2 0 = true from h) (by decide)⟩
  have hL0 : tyIn Γ [] := by rw [eΓ]; exact fun a h => absurd rfl h
  have hG : ty_ok (dC, dI) vwCl Γ (TP dA Γ g) sz X s.heap := by rw [eΓ, eX, hsz]; exact ⟨Nat.le_refl _, fun a h => absurd rfl h, List.nodup_nil, fun _ h => nomatch h⟩
  have zg : ∀ c j : Nat, c = 19 ∨ c = 33 ∨ c = 34 ∨ c = 35 ∨ c = 36 → g c j = 0 := by rw [eg]; intro c j h; rcases h with rfl | rfl | rfl | rfl | rfl <;> rfl
  have zz : g 1 0 = 0 ∧ g 2 0 = 0 ∧ g 3 0 = 0 ∧ g 4 0 = 0 ∧ g 5 0 = 0 ∧ g 7 0 = 0 ∧ g 8 0 = 0 ∧ g 30 0 = 0 ∧ g 31 0 = 0 ∧ g 32 0 = 0 ∧ g 6 0 = 0 ∧ g 9 0 = 0 ∧ g 16 0 = 0 ∧ g 15 0 = 0 ∧ g 17 0 = 0 ∧ g 18 0 = 0 ∧ g 33 0 = 0 ∧ g 34 0 = 0 ∧ g 35 0 = 0 ∧ g 36 0 = 0 ∧ g 13 0 = 0 ∧ g 10 0 = 0 ∧ g 11 0 = 0 ∧ g 10 1 = 0 ∧ g 11 1 = 0 ∧ g 14 0 = -1 ∧ g 12 0 = 1 := by rw [eg]; exact ⟨rfl, rfl, rfl, rfl, rfl, rfl, rfl, rfl, rfl, rfl, rfl, rfl, rfl, rfl, rfl, rfl, rfl, rfl, rfl, rfl, rfl, rfl, rfl, rfl, rfl, rfl, rfl⟩
  have z100 : ∀ c j : Nat, 100 ≤ c ∧ c ≠ 121 → g c j = 0 := by rw [eg]; intro c j h; simp only [lw_g]; rw [if_neg (by omega), if_neg (by omega)]
  have zm : g 101 0 = 0 ∧ g 104 0 = 0 ∧ g 126 0 = 0 ∧ g 122 0 = 0 ∧ g 111 0 = 0 ∧ g 112 0 = 0 ∧ g 114 0 = 0 ∧ g 121 0 = -1 := by rw [eg]; exact ⟨rfl, rfl, rfl, rfl, rfl, rfl, rfl, rfl⟩
  clear eΓ eX eg
  have hS : va_S (ty_A sz) s.heap s.heap [] := va_S.rf
  have hl := lv_entry ([.ref b]) (n := 7) (Nat.le_of_ble_eq_true rfl)
  rw [lg_entry_eq]
  generalize (lg_sl ([.ref b]) ++ List.replicate (7 - (lg_sl ([.ref b])).length) Slot.unset).toArray = ls at hl ⊢
  have hl : lv_has ls 7 [(0, .ref b)] := hl
  refine new_X8 hx hb hA hE hG hS hown wd_1_22 wd_1_23 wd_1_1 (Nat.le_of_ble_eq_true rfl) (Nat.le_of_ble_eq_true rfl) dL_law_0 (fun q1 H z_q1 s_q1 e_q1 hG hS => ?_)
  clear z_q1 s_q1 e_q1
  refine lv_dup hx hb dL_law_3 rfl ?_
  refine cVB (va_runI (As := []) (rest := [.ref q1]) ⟨hx, hb, hml, hown, hA⟩ (k_X8_init l dC dI dA sz X Γ hU g q1  hL0 (fun c j h => zg c j (by omega)) (by omega) (by omega)) ⟨callB_of 0 hA (al_A wd_1_26) rfl rfl rfl (hA _ wd_1_1) (hA _ wd_1_24) (by decide +kernel) ⟨Nat.le_of_ble_eq_true rfl, Nat.le_of_ble_eq_true rfl⟩, rfl, hA _ wd_1_25⟩ ⟨bl, fun U hU9 hW9 => ⟨rfl, by rw [hU9]; exact hG, hE.go hS hU9 hW9⟩⟩ rfl rfl hl.1 rfl (lv_room (Nat.le_of_ble_eq_true rfl)) dL_law_4 ⟨Nat.le_of_ble_eq_true rfl, Nat.le_of_ble_eq_true rfl⟩) hS (fun u2 H locs w3 hG hS => ?_)
  obtain ⟨Γ4, g5⟩ := u2
  dsimp only at w3 hG
  obtain ⟨hx6, hU, hL7, t_q1, eu10⟩ := w3
  rw [eu10] at hG
  replace t_q1 : ty Γ4 q1 1 := t_q1
  have hL7 : tyIn Γ4 ((1, 0) :: ((9, 0) :: ((24, 0) :: ((23, 0) :: ((23, 0) :: ((8, 0) :: ((22, 0) :: ((22, 0) :: ((21, 0) :: ((20, 0) :: ((19, 0) :: ((6, 1) :: ((26, 1) :: ((17, 1) :: ((16, 1) :: ((6, 0) :: ((26, 0) :: ((17, 0) :: ((16, 0) :: ((7, 0) :: ((18, 0) :: ((12, 0) :: ((11, 0) :: ((10, 0) :: [])))))))))))))))))))))))) := hL7
  have hX11 : ext Γ Γ4 := ext.trans ext.rf hx6
  refine lv_astore_n (lv' := [(1, .ref q1), (0, .ref b)]) hx hb dL_law_7 rfl hl (by decide) rfl (fun ls hl => ?_)
  refine new_X9 hx hb hA hE hG hS hown wd_4_128 wd_4_129 wd_1_7 (Nat.le_of_ble_eq_true rfl) (Nat.le_of_ble_eq_true rfl) dL_law_8 (fun q12 H z_q12 s_q12 e_q12 hG hS => ?_)
  clear z_q12 s_q12 e_q12
  refine lv_dup hx hb dL_law_11 rfl ?_
  refine cVB (va_runI (As := []) (rest := [.ref q12]) ⟨hx, hb, hml, hown, hA⟩ (k_X9_init l dC dI dA sz X Γ4 hU g q12  ((1, 0) :: ((9, 0) :: ((24, 0) :: ((23, 0) :: ((23, 0) :: ((8, 0) :: ((22, 0) :: ((22, 0) :: ((21, 0) :: ((20, 0) :: ((19, 0) :: ((6, 1) :: ((26, 1) :: ((17, 1) :: ((16, 1) :: ((6, 0) :: ((26, 0) :: ((17, 0) :: ((16, 0) :: ((7, 0) :: ((18, 0) :: ((12, 0) :: ((11, 0) :: ((10, 0) :: [])))))))))))))))))))))))) hL7 (by decide)  (fun c j h => z100 c j h) (by omega)) ⟨callB_of 0 hA (al_A wd_4_132) rfl rfl rfl (hA _ wd_1_7) (hA _ wd_4_130) (by decide +kernel) ⟨Nat.le_of_ble_eq_true rfl, Nat.le_of_ble_eq_true rfl⟩, rfl, hA _ wd_4_131⟩ ⟨bl, fun U hU9 hW9 => ⟨rfl, by rw [hU9]; exact hG, hE.go hS hU9 hW9⟩⟩ rfl rfl hl.1 rfl (lv_room (Nat.le_of_ble_eq_true rfl)) dL_law_12 ⟨Nat.le_of_ble_eq_true rfl, Nat.le_of_ble_eq_true rfl⟩) hS (fun u13 H locs w14 hG hS => ?_)
  obtain ⟨Γ15, g16⟩ := u13
  dsimp only at w14 hG
  obtain ⟨hx17, hU, hL18, t_q12, hf19⟩ := w14
  replace t_q12 : ty Γ15 q12 30 := t_q12
  have hL18 : tyIn Γ15 ((30, 0) :: ((146, 0) :: ((145, 0) :: ((144, 0) :: ((140, 0) :: ((139, 0) :: ((138, 0) :: ((136, 0) :: ((135, 0) :: ((134, 0) :: ((133, 0) :: ((132, 0) :: ((131, 0) :: ((130, 0) :: ((129, 0) :: ((128, 0) :: ((127, 0) :: ((125, 0) :: ((123, 0) :: ((113, 0) :: ((110, 0) :: ((109, 0) :: ((108, 0) :: ((107, 0) :: ((106, 0) :: ((105, 0) :: ((103, 0) :: ((102, 0) :: ((1, 0) :: ((9, 0) :: ((24, 0) :: ((23, 0) :: ((23, 0) :: ((8, 0) :: ((22, 0) :: ((22, 0) :: ((21, 0) :: ((20, 0) :: ((19, 0) :: ((6, 1) :: ((26, 1) :: ((17, 1) :: ((16, 1) :: ((6, 0) :: ((26, 0) :: ((17, 0) :: ((16, 0) :: ((7, 0) :: ((18, 0) :: ((12, 0) :: ((11, 0) :: ((10, 0) :: [])))))))))))))))))))))))))))))))))))))))))))))))))))) := hL18
  have hX22 : ext Γ Γ15 := ext.trans hX11 hx17
  replace t_q1 : ty Γ15 q1 1 := hx17.one t_q1 (by decide)
  refine lv_astore_n (lv' := [(2, .ref q12), (1, .ref q1), (0, .ref b)]) hx hb dL_law_15 rfl hl (by decide) rfl (fun ls hl => ?_)
  refine ty_iconst hx hb (1) dL_law_16 (by decide) (fun x23 h24 => ?_)
  refine new_J hx hb hA hE hG hS wd_6_3 (N := 1) (by omega) (by decide) (Nat.le_of_ble_eq_true rfl) (Nat.le_of_ble_eq_true rfl) (25, 0) (fun Γ' => by rw [TP_25 rfl]; exact ⟨_, rfl⟩) dL_law_17 (fun q25 H z_q25 s_q25 e_q25 hG hS => ?_)
  obtain ⟨Γ26, eΓ26⟩ : ∃ z, z = va_up Γ15 q25 (25, 0) := ⟨_, rfl⟩
  rw [← eΓ26] at hG
  have hx27 : ext Γ15 Γ26 := by rw [eΓ26]; exact ext.up z_q25
  have hU : Un Γ26 := by rw [eΓ26]; exact Un.up0 hU rfl rfl
  have hL28 : tyIn Γ26 ((25, 0) :: ((30, 0) :: ((146, 0) :: ((145, 0) :: ((144, 0) :: ((140, 0) :: ((139, 0) :: ((138, 0) :: ((136, 0) :: ((135, 0) :: ((134, 0) :: ((133, 0) :: ((132, 0) :: ((131, 0) :: ((130, 0) :: ((129, 0) :: ((128, 0) :: ((127, 0) :: ((125, 0) :: ((123, 0) :: ((113, 0) :: ((110, 0) :: ((109, 0) :: ((108, 0) :: ((107, 0) :: ((106, 0) :: ((105, 0) :: ((103, 0) :: ((102, 0) :: ((1, 0) :: ((9, 0) :: ((24, 0) :: ((23, 0) :: ((23, 0) :: ((8, 0) :: ((22, 0) :: ((22, 0) :: ((21, 0) :: ((20, 0) :: ((19, 0) :: ((6, 1) :: ((26, 1) :: ((17, 1) :: ((16, 1) :: ((6, 0) :: ((26, 0) :: ((17, 0) :: ((16, 0) :: ((7, 0) :: ((18, 0) :: ((12, 0) :: ((11, 0) :: ((10, 0) :: []))))))))))))))))))))))))))))))))))))))))))))))))))))) := by rw [eΓ26]; exact hL18.up
  have hX29 : ext Γ Γ26 := ext.trans hX22 hx27
  replace t_q12 : ty Γ26 q12 30 := hx27.one t_q12 (by decide)
  replace t_q1 : ty Γ26 q1 1 := hx27.one t_q1 (by decide)
  have t_q25 : ty Γ26 q25 25 := by rw [eΓ26]; unfold ty; rw [va_up_self]
  clear z_q25 s_q25 e_q25
  refine lv_astore_n (lv' := [(3, .ref q25), (2, .ref q12), (1, .ref q1), (0, .ref b)]) hx hb dL_law_19 rfl hl (by decide) rfl (fun ls hl => ?_)
  refine ty_iconst hx hb (0) dL_law_20 (by decide) (fun x30 h31 => ?_)
  refine lv_istore (lv' := [(4, .int x30), (3, .ref q25), (2, .ref q12), (1, .ref q1), (0, .ref b)]) hx hb dL_law_21 hl (by decide) rfl (fun ls hl => ?_)
  refine lv_iload hx hb dL_law_23 (lv_at hl 0 rfl) ?_
  refine lv_aload_n hx hb dL_law_25 rfl (lv_at hl 4 rfl) ?_
  refine va_slen hx hb hXs hbl hbA hS dL_law_26 ?_
  refine lv_topi (fun x32 h33 => ?_)
  have h34 := lw_len h33 hLN
  refine ty_bipush hx hb (6) dL_law_27 (by decide) (fun x35 h36 => ?_)
  refine ty_isub hx hb dL_law_29 (fun x37 h38 => ?_)
  try have h39 : x37.toInt = x32.toInt - x35.toInt := ty_sub h38 (by omega) (by omega)
  refine ty_icmp_gt (tgt := 1081) hx hb dL_law_30 (by decide) (fun c40 => ?_) (fun c40 => ?_)
  · skip
    refine ty_iconst hx hb (1) dL_law_1081 (by decide) (fun x41 h42 => ?_)
    obtain rfl : x41 = 1 := ty_eq32.mpr (by rw [Int32.toInt_one]; omega)
    refine va_forget (fun q hq => hsz ▸ hS.2.2 q hq) ?_
    refine W.widen (k := 600002) (n := 7302232) (Nat.le_of_ble_eq_true rfl) (Nat.le_of_ble_eq_true rfl) ?_
    exact lw_ret hx hb hr hlocks dL_law_1082
  · skip
    refine lv_aload_n hx hb dL_law_33 rfl (lv_at hl 4 rfl) ?_
    refine lv_iload hx hb dL_law_34 (lv_at hl 0 rfl) ?_
    refine va_sld hx hb hXs hbl hbA hS (i := x30) (ty_ix (by omega)) dL_law_36 ?_
    refine lv_topi (fun x43 s44 => ?_)
    refine ty_bipush hx hb (31) dL_law_37 (by decide) (fun x45 h46 => ?_)
    refine ty_iand hx hb dL_law_39 (fun x47 h48 => ?_)
    by_cases c49 : x47.toInt < 0 ∨ 23 < x47.toInt
    · skip
      refine lv_tableOut (tgt := 1075) hx hb dL_law_40 c49 (by decide) ?_
      obtain ⟨x50, h51⟩ : ∃ y : Int32, y = x30 + Int32.ofInt (6) := ⟨_, rfl⟩
      try have h52 : x50.toInt = x30.toInt + (6) := ty_inc h51 (by decide) (by omega) (by omega)
      refine lv_iinc (v := x50) (lv' := [(4, .int x50), (3, .ref q25), (2, .ref q12), (1, .ref q1), (0, .ref b)]) hx hb dL_law_1075 hl (k := 0) rfl h51.symm (by decide) rfl (fun ls hl => ?_)
      refine lv_goto (tgt := 23) hx hb dL_law_1078 (by decide) ?_
      refine lv_iload hx hb dL_law_23 (lv_at hl 0 rfl) ?_
      refine lv_aload_n hx hb dL_law_25 rfl (lv_at hl 4 rfl) ?_
      refine va_slen hx hb hXs hbl hbA hS dL_law_26 ?_
      refine lv_topi (fun x53 h54 => ?_)
      have h55 := lw_len h54 hLN
      refine ty_bipush hx hb (6) dL_law_27 (by decide) (fun x56 h57 => ?_)
      refine ty_isub hx hb dL_law_29 (fun x58 h59 => ?_)
      try have h60 : x58.toInt = x53.toInt - x56.toInt := ty_sub h59 (by omega) (by omega)
      refine ty_icmp_gt (tgt := 1081) hx hb dL_law_30 (by decide) (fun c61 => ?_) (fun c61 => ?_)
      · skip
        refine ty_iconst hx hb (1) dL_law_1081 (by decide) (fun x62 h63 => ?_)
        obtain rfl : x62 = 1 := ty_eq32.mpr (by rw [Int32.toInt_one]; omega)
        refine va_forget (fun q hq => hsz ▸ hS.2.2 q hq) ?_
        refine W.widen (k := 600002) (n := 7302232) (Nat.le_of_ble_eq_true rfl) (Nat.le_of_ble_eq_true rfl) ?_
        exact lw_ret hx hb hr hlocks dL_law_1082
      · exfalso; omega
    · skip
      rcases (show x47.toInt = 0 ∨ x47.toInt = 1 ∨ x47.toInt = 2 ∨ x47.toInt = 3 ∨ x47.toInt = 4 ∨ x47.toInt = 5 ∨ x47.toInt = 6 ∨ x47.toInt = 7 ∨ x47.toInt = 8 ∨ x47.toInt = 9 ∨ x47.toInt = 10 ∨ x47.toInt = 11 ∨ x47.toInt = 12 ∨ x47.toInt = 13 ∨ x47.toInt = 14 ∨ x47.toInt = 15 ∨ x47.toInt = 16 ∨ x47.toInt = 17 ∨ x47.toInt = 18 ∨ x47.toInt = 19 ∨ x47.toInt = 20 ∨ x47.toInt = 21 ∨ x47.toInt = 22 ∨ x47.toInt = 23 by omega) with q64 | q65 | q66 | q67 | q68 | q69 | q70 | q71 | q72 | q73 | q74 | q75 | q76 | q77 | q78 | q79 | q80 | q81 | q82 | q83 | q84 | q85 | q86 | q87
      · skip
        refine lv_tableIn (tgt := 152) (off := 112) hx hb dL_law_40 (by omega) (by omega) (by rw [q64]; rfl) (by decide) ?_
        refine lv_aload_n hx hb dL_law_152 rfl (lv_at hl 3 rfl) ?_
        refine lv_aload_n hx hb dL_law_153 rfl (lv_at hl 4 rfl) ?_
        refine lv_iload hx hb dL_law_154 (lv_at hl 0 rfl) ?_
        refine ty_iconst hx hb (1) dL_law_156 (by decide) (fun x88 h89 => ?_)
        refine ty_iadd hx hb dL_law_157 (fun x90 h91 => ?_)
        try have h92 : x90.toInt = x30.toInt + x88.toInt := ty_add h91 (by omega) (by omega)
        refine va_sld hx hb hXs hbl hbA hS (i := x90) (ty_ix (by omega)) dL_law_158 ?_
        refine lv_topi (fun x93 s94 => ?_)
        refine lv_aload_n hx hb dL_law_159 rfl (lv_at hl 4 rfl) ?_
        refine lv_iload hx hb dL_law_160 (lv_at hl 0 rfl) ?_
        refine ty_iconst hx hb (2) dL_law_162 (by decide) (fun x95 h96 => ?_)
        refine ty_iadd hx hb dL_law_163 (fun x97 h98 => ?_)
        try have h99 : x97.toInt = x30.toInt + x95.toInt := ty_add h98 (by omega) (by omega)
        refine va_sld hx hb hXs hbl hbA hS (i := x97) (ty_ix (by omega)) dL_law_164 ?_
        refine lv_topi (fun x100 s101 => ?_)
        have hk102 : g16 1 0 = g 1 0 := hf19 1 0 (by decide)
        have hk103 : g16 33 0 = g 33 0 := hf19 33 0 (by decide)
        refine cIB (va_runV (C := RX8) (As := [.int x93, .int x100]) (rest := []) ⟨hx, hb, hml, hown, hA⟩ (k_X8_flat l dC dI dA sz X Γ26 hU g16 q1 t_q1 x93 x100   (by omega)) ⟨callB_of 2 hA (al_A wd_1_200) rfl rfl rfl (hA _ wd_1_1) (hA _ wd_1_197) (by decide +kernel) ⟨Nat.le_of_ble_eq_true rfl, Nat.le_of_ble_eq_true rfl⟩, hA _ wd_1_198, hA _ wd_1_199⟩ ⟨bl, recv_X8 hE hG t_q1, fun U hU9 hW9 => ⟨rfl, by rw [hU9]; exact hG, hE.go hS hU9 hW9⟩⟩ rfl rfl hl.1 rfl (lv_room (Nat.le_of_ble_eq_true rfl)) dL_law_165 ⟨Nat.le_of_ble_eq_true rfl, Nat.le_of_ble_eq_true rfl⟩) hS (fun x106 u104 H locs w105 hG hS => ?_)
        obtain ⟨Γ107, g108⟩ := u104
        dsimp only at w105 hG
        obtain ⟨hx109, hU, hf110, w111⟩ := w105
        have hX113 : ext Γ Γ107 := ext.trans hX29 hx109
        replace t_q25 : ty Γ107 q25 25 := hx109.one t_q25 (by decide)
        replace t_q12 : ty Γ107 q12 30 := hx109.one t_q12 (by decide)
        replace t_q1 : ty Γ107 q1 1 := hx109.one t_q1 (by decide)
        refine lv_aload_n hx hb dL_law_168 rfl (lv_at hl 2 rfl) ?_
        refine lv_aload_n hx hb dL_law_169 rfl (lv_at hl 4 rfl) ?_
        refine lv_iload hx hb dL_law_170 (lv_at hl 0 rfl) ?_
        refine ty_iconst hx hb (1) dL_law_172 (by decide) (fun x114 h115 => ?_)
        refine ty_iadd hx hb dL_law_173 (fun x116 h117 => ?_)
        try have h118 : x116.toInt = x30.toInt + x114.toInt := ty_add h117 (by omega) (by omega)
        refine va_sld hx hb hXs hbl hbA hS (i := x116) (ty_ix (by omega)) dL_law_174 ?_
        rw [lw_same (j := x116) s94 (by omega)]
        refine lv_aload_n hx hb dL_law_175 rfl (lv_at hl 4 rfl) ?_
        refine lv_iload hx hb dL_law_176 (lv_at hl 0 rfl) ?_
        refine ty_iconst hx hb (2) dL_law_178 (by decide) (fun x119 h120 => ?_)
        refine ty_iadd hx hb dL_law_179 (fun x121 h122 => ?_)
        try have h123 : x121.toInt = x30.toInt + x119.toInt := ty_add h122 (by omega) (by omega)
        refine va_sld hx hb hXs hbl hbA hS (i := x121) (ty_ix (by omega)) dL_law_180 ?_
        rw [lw_same (j := x121) s101 (by omega)]
        have hk124 : g108 101 0 = g16 101 0 := hf110 101 0 (by decide) (by decide)
        have hk125 : g16 101 0 = g 101 0 := hf19 101 0 (by decide)
        refine cI (va_runV (C := RX9) (As := [.int x93, .int x100]) (rest := [.int x106]) ⟨hx, hb, hml, hown, hA⟩ (k_X9_flat l dC dI dA sz X Γ107 hU g108 q12 t_q12 x93 x100   (by omega)) ⟨callB_of 2 hA (al_A wd_5_39) rfl rfl rfl (hA _ wd_1_7) (hA _ wd_5_36) (by decide +kernel) ⟨Nat.le_of_ble_eq_true rfl, Nat.le_of_ble_eq_true rfl⟩, hA _ wd_5_37, hA _ wd_5_38⟩ ⟨bl, recv_X9 hE hG t_q12, fun U hU9 hW9 => ⟨rfl, by rw [hU9]; exact hG, hE.go hS hU9 hW9⟩⟩ rfl rfl hl.1 rfl (lv_room (Nat.le_of_ble_eq_true rfl)) dL_law_181 ⟨Nat.le_of_ble_eq_true rfl, Nat.le_of_ble_eq_true rfl⟩) hS (fun x128 u126 H locs w127 hG hS => ?_)
        obtain ⟨hf129, w127⟩ := w127
        refine ty_icmp_eq (tgt := 1075) hx hb dL_law_184 (by decide) (fun c130 => ?_) (fun c130 => ?_)
        · skip
          obtain ⟨x131, h132⟩ : ∃ y : Int32, y = x30 + Int32.ofInt (6) := ⟨_, rfl⟩
          try have h133 : x131.toInt = x30.toInt + (6) := ty_inc h132 (by decide) (by omega) (by omega)
          refine lv_iinc (v := x131) (lv' := [(4, .int x131), (3, .ref q25), (2, .ref q12), (1, .ref q1), (0, .ref b)]) hx hb dL_law_1075 hl (k := 0) rfl h132.symm (by decide) rfl (fun ls hl => ?_)
          refine lv_goto (tgt := 23) hx hb dL_law_1078 (by decide) ?_
          refine lv_iload hx hb dL_law_23 (lv_at hl 0 rfl) ?_
          refine lv_aload_n hx hb dL_law_25 rfl (lv_at hl 4 rfl) ?_
          refine va_slen hx hb hXs hbl hbA hS dL_law_26 ?_
          refine lv_topi (fun x134 h135 => ?_)
          have h136 := lw_len h135 hLN
          refine ty_bipush hx hb (6) dL_law_27 (by decide) (fun x137 h138 => ?_)
          refine ty_isub hx hb dL_law_29 (fun x139 h140 => ?_)
          try have h141 : x139.toInt = x134.toInt - x137.toInt := ty_sub h140 (by omega) (by omega)
          refine ty_icmp_gt (tgt := 1081) hx hb dL_law_30 (by decide) (fun c142 => ?_) (fun c142 => ?_)
          · skip
            refine ty_iconst hx hb (1) dL_law_1081 (by decide) (fun x143 h144 => ?_)
            obtain rfl : x143 = 1 := ty_eq32.mpr (by rw [Int32.toInt_one]; omega)
            refine va_forget (fun q hq => hsz ▸ hS.2.2 q hq) ?_
            refine W.widen (k := 600002) (n := 7302232) (Nat.le_of_ble_eq_true rfl) (Nat.le_of_ble_eq_true rfl) ?_
            exact lw_ret hx hb hr hlocks dL_law_1082
          · exfalso; omega
        · exfalso; omega
      · skip
        refine lv_tableIn (tgt := 189) (off := 149) hx hb dL_law_40 (by omega) (by omega) (by rw [q65]; rfl) (by decide) ?_
        refine lv_aload_n hx hb dL_law_189 rfl (lv_at hl 3 rfl) ?_
        refine lv_aload_n hx hb dL_law_190 rfl (lv_at hl 4 rfl) ?_
        refine lv_iload hx hb dL_law_191 (lv_at hl 0 rfl) ?_
        refine ty_iconst hx hb (1) dL_law_193 (by decide) (fun x145 h146 => ?_)
        refine ty_iadd hx hb dL_law_194 (fun x147 h148 => ?_)
        try have h149 : x147.toInt = x30.toInt + x145.toInt := ty_add h148 (by omega) (by omega)
        refine va_sld hx hb hXs hbl hbA hS (i := x147) (ty_ix (by omega)) dL_law_195 ?_
        refine lv_topi (fun x150 s151 => ?_)
        have hk152 : g16 2 0 = g 2 0 := hf19 2 0 (by decide)
        have hk153 : g16 34 0 = g 34 0 := hf19 34 0 (by decide)
        refine cIB (va_runV (C := RX8) (As := [.int x150]) (rest := []) ⟨hx, hb, hml, hown, hA⟩ (k_X8_owner l dC dI dA sz X Γ26 hU g16 q1 t_q1 x150   (by omega)) ⟨callB_of 1 hA (al_A wd_2_0) rfl rfl rfl (hA _ wd_1_1) (hA _ wd_1_237) (by decide +kernel) ⟨Nat.le_of_ble_eq_true rfl, Nat.le_of_ble_eq_true rfl⟩, hA _ wd_1_238, hA _ wd_1_239⟩ ⟨bl, recv_X8 hE hG t_q1, fun U hU9 hW9 => ⟨rfl, by rw [hU9]; exact hG, hE.go hS hU9 hW9⟩⟩ rfl rfl hl.1 rfl (lv_room (Nat.le_of_ble_eq_true rfl)) dL_law_196 ⟨Nat.le_of_ble_eq_true rfl, Nat.le_of_ble_eq_true rfl⟩) hS (fun x156 u154 H locs w155 hG hS => ?_)
        obtain ⟨Γ157, g158⟩ := u154
        dsimp only at w155 hG
        obtain ⟨hx159, hU, hf160, w161⟩ := w155
        have hX163 : ext Γ Γ157 := ext.trans hX29 hx159
        replace t_q25 : ty Γ157 q25 25 := hx159.one t_q25 (by decide)
        replace t_q12 : ty Γ157 q12 30 := hx159.one t_q12 (by decide)
        replace t_q1 : ty Γ157 q1 1 := hx159.one t_q1 (by decide)
        refine lv_aload_n hx hb dL_law_199 rfl (lv_at hl 2 rfl) ?_
        refine lv_aload_n hx hb dL_law_200 rfl (lv_at hl 4 rfl) ?_
        refine lv_iload hx hb dL_law_201 (lv_at hl 0 rfl) ?_
        refine ty_iconst hx hb (1) dL_law_203 (by decide) (fun x164 h165 => ?_)
        refine ty_iadd hx hb dL_law_204 (fun x166 h167 => ?_)
        try have h168 : x166.toInt = x30.toInt + x164.toInt := ty_add h167 (by omega) (by omega)
        refine va_sld hx hb hXs hbl hbA hS (i := x166) (ty_ix (by omega)) dL_law_205 ?_
        rw [lw_same (j := x166) s151 (by omega)]
        have hk169 : g158 104 0 = g16 104 0 := hf160 104 0 (by decide) (by decide)
        have hk170 : g16 104 0 = g 104 0 := hf19 104 0 (by decide)
        refine cI (va_runV (C := RX9) (As := [.int x150]) (rest := [.int x156]) ⟨hx, hb, hml, hown, hA⟩ (k_X9_owner l dC dI dA sz X Γ157 hU g158 q12 t_q12 x150   (by omega)) ⟨callB_of 1 hA (al_A wd_5_46) rfl rfl rfl (hA _ wd_1_7) (hA _ wd_5_43) (by decide +kernel) ⟨Nat.le_of_ble_eq_true rfl, Nat.le_of_ble_eq_true rfl⟩, hA _ wd_5_44, hA _ wd_5_45⟩ ⟨bl, recv_X9 hE hG t_q12, fun U hU9 hW9 => ⟨rfl, by rw [hU9]; exact hG, hE.go hS hU9 hW9⟩⟩ rfl rfl hl.1 rfl (lv_room (Nat.le_of_ble_eq_true rfl)) dL_law_206 ⟨Nat.le_of_ble_eq_true rfl, Nat.le_of_ble_eq_true rfl⟩) hS (fun x173 u171 H locs w172 hG hS => ?_)
        obtain ⟨hf174, w172⟩ := w172
        refine ty_icmp_eq (tgt := 1075) hx hb dL_law_209 (by decide) (fun c175 => ?_) (fun c175 => ?_)
        · skip
          obtain ⟨x176, h177⟩ : ∃ y : Int32, y = x30 + Int32.ofInt (6) := ⟨_, rfl⟩
          try have h178 : x176.toInt = x30.toInt + (6) := ty_inc h177 (by decide) (by omega) (by omega)
          refine lv_iinc (v := x176) (lv' := [(4, .int x176), (3, .ref q25), (2, .ref q12), (1, .ref q1), (0, .ref b)]) hx hb dL_law_1075 hl (k := 0) rfl h177.symm (by decide) rfl (fun ls hl => ?_)
          refine lv_goto (tgt := 23) hx hb dL_law_1078 (by decide) ?_
          refine lv_iload hx hb dL_law_23 (lv_at hl 0 rfl) ?_
          refine lv_aload_n hx hb dL_law_25 rfl (lv_at hl 4 rfl) ?_
          refine va_slen hx hb hXs hbl hbA hS dL_law_26 ?_
          refine lv_topi (fun x179 h180 => ?_)
          have h181 := lw_len h180 hLN
          refine ty_bipush hx hb (6) dL_law_27 (by decide) (fun x182 h183 => ?_)
          refine ty_isub hx hb dL_law_29 (fun x184 h185 => ?_)
          try have h186 : x184.toInt = x179.toInt - x182.toInt := ty_sub h185 (by omega) (by omega)
          refine ty_icmp_gt (tgt := 1081) hx hb dL_law_30 (by decide) (fun c187 => ?_) (fun c187 => ?_)
          · skip
            refine ty_iconst hx hb (1) dL_law_1081 (by decide) (fun x188 h189 => ?_)
            obtain rfl : x188 = 1 := ty_eq32.mpr (by rw [Int32.toInt_one]; omega)
            refine va_forget (fun q hq => hsz ▸ hS.2.2 q hq) ?_
            refine W.widen (k := 600002) (n := 7302232) (Nat.le_of_ble_eq_true rfl) (Nat.le_of_ble_eq_true rfl) ?_
            exact lw_ret hx hb hr hlocks dL_law_1082
          · exfalso; omega
        · exfalso; omega
      · skip
        refine lv_tableIn (tgt := 214) (off := 174) hx hb dL_law_40 (by omega) (by omega) (by rw [q66]; rfl) (by decide) ?_
        refine lv_aload_n hx hb dL_law_214 rfl (lv_at hl 3 rfl) ?_
        refine lv_aload_n hx hb dL_law_215 rfl (lv_at hl 4 rfl) ?_
        refine lv_iload hx hb dL_law_216 (lv_at hl 0 rfl) ?_
        refine ty_iconst hx hb (1) dL_law_218 (by decide) (fun x190 h191 => ?_)
        refine ty_iadd hx hb dL_law_219 (fun x192 h193 => ?_)
        try have h194 : x192.toInt = x30.toInt + x190.toInt := ty_add h193 (by omega) (by omega)
        refine va_sld hx hb hXs hbl hbA hS (i := x192) (ty_ix (by omega)) dL_law_220 ?_
        refine lv_topi (fun x195 s196 => ?_)
        refine lv_aload_n hx hb dL_law_221 rfl (lv_at hl 4 rfl) ?_
        refine lv_iload hx hb dL_law_222 (lv_at hl 0 rfl) ?_
        refine ty_iconst hx hb (2) dL_law_224 (by decide) (fun x197 h198 => ?_)
        refine ty_iadd hx hb dL_law_225 (fun x199 h200 => ?_)
        try have h201 : x199.toInt = x30.toInt + x197.toInt := ty_add h200 (by omega) (by omega)
        refine va_sld hx hb hXs hbl hbA hS (i := x199) (ty_ix (by omega)) dL_law_226 ?_
        refine lv_topi (fun x202 s203 => ?_)
        refine lv_aload_n hx hb dL_law_227 rfl (lv_at hl 4 rfl) ?_
        refine lv_iload hx hb dL_law_228 (lv_at hl 0 rfl) ?_
        refine ty_iconst hx hb (3) dL_law_230 (by decide) (fun x204 h205 => ?_)
        refine ty_iadd hx hb dL_law_231 (fun x206 h207 => ?_)
        try have h208 : x206.toInt = x30.toInt + x204.toInt := ty_add h207 (by omega) (by omega)
        refine va_sld hx hb hXs hbl hbA hS (i := x206) (ty_ix (by omega)) dL_law_232 ?_
        refine lv_topi (fun x209 s210 => ?_)
        have hk211 : g16 1 0 = g 1 0 := hf19 1 0 (by decide)
        have hk212 : g16 2 0 = g 2 0 := hf19 2 0 (by decide)
        refine cI (va_runV (C := RX8) (As := [.int x195, .int x202, .int x209]) (rest := []) ⟨hx, hb, hml, hown, hA⟩ (f_X8_own l dC dI dA sz X Γ26 hU g16 q1 t_q1 x195 x202 x209   (by omega) (by omega)) ⟨callB_of 3 hA (al_A wd_2_44) rfl rfl rfl (hA _ wd_1_1) (hA _ wd_2_41) (by decide +kernel) ⟨Nat.le_of_ble_eq_true rfl, Nat.le_of_ble_eq_true rfl⟩, hA _ wd_2_42, hA _ wd_2_43⟩ ⟨bl, recv_X8 hE hG t_q1, fun U hU9 hW9 => ⟨rfl, by rw [hU9]; exact hG, hE.go hS hU9 hW9⟩⟩ rfl rfl hl.1 rfl (lv_room (Nat.le_of_ble_eq_true rfl)) dL_law_233 ⟨Nat.le_of_ble_eq_true rfl, Nat.le_of_ble_eq_true rfl⟩) hS (fun x215 u213 H locs w214 hG hS => ?_)
        obtain ⟨eu216, w214⟩ := w214
        rw [eu216] at hG
        refine lv_aload_n hx hb dL_law_236 rfl (lv_at hl 2 rfl) ?_
        refine lv_aload_n hx hb dL_law_237 rfl (lv_at hl 4 rfl) ?_
        refine lv_iload hx hb dL_law_238 (lv_at hl 0 rfl) ?_
        refine ty_iconst hx hb (1) dL_law_240 (by decide) (fun x217 h218 => ?_)
        refine ty_iadd hx hb dL_law_241 (fun x219 h220 => ?_)
        try have h221 : x219.toInt = x30.toInt + x217.toInt := ty_add h220 (by omega) (by omega)
        refine va_sld hx hb hXs hbl hbA hS (i := x219) (ty_ix (by omega)) dL_law_242 ?_
        rw [lw_same (j := x219) s196 (by omega)]
        refine lv_aload_n hx hb dL_law_243 rfl (lv_at hl 4 rfl) ?_
        refine lv_iload hx hb dL_law_244 (lv_at hl 0 rfl) ?_
        refine ty_iconst hx hb (2) dL_law_246 (by decide) (fun x222 h223 => ?_)
        refine ty_iadd hx hb dL_law_247 (fun x224 h225 => ?_)
        try have h226 : x224.toInt = x30.toInt + x222.toInt := ty_add h225 (by omega) (by omega)
        refine va_sld hx hb hXs hbl hbA hS (i := x224) (ty_ix (by omega)) dL_law_248 ?_
        rw [lw_same (j := x224) s203 (by omega)]
        refine lv_aload_n hx hb dL_law_249 rfl (lv_at hl 4 rfl) ?_
        refine lv_iload hx hb dL_law_250 (lv_at hl 0 rfl) ?_
        refine ty_iconst hx hb (3) dL_law_252 (by decide) (fun x227 h228 => ?_)
        refine ty_iadd hx hb dL_law_253 (fun x229 h230 => ?_)
        try have h231 : x229.toInt = x30.toInt + x227.toInt := ty_add h230 (by omega) (by omega)
        refine va_sld hx hb hXs hbl hbA hS (i := x229) (ty_ix (by omega)) dL_law_254 ?_
        rw [lw_same (j := x229) s210 (by omega)]
        have hk232 : g16 101 0 = g 101 0 := hf19 101 0 (by decide)
        refine cI (va_runV (C := RX9) (As := [.int x195, .int x202, .int x209]) (rest := [.int x215]) ⟨hx, hb, hml, hown, hA⟩ (f_X9_own l dC dI dA sz X Γ26 hU g16 q12 t_q12 x195 x202 x209   (by omega)) ⟨callB_of 3 hA (al_A wd_5_50) rfl rfl rfl (hA _ wd_1_7) (hA _ wd_5_47) (by decide +kernel) ⟨Nat.le_of_ble_eq_true rfl, Nat.le_of_ble_eq_true rfl⟩, hA _ wd_5_48, hA _ wd_5_49⟩ ⟨bl, recv_X9 hE hG t_q12, fun U hU9 hW9 => ⟨rfl, by rw [hU9]; exact hG, hE.go hS hU9 hW9⟩⟩ rfl rfl hl.1 rfl (lv_room (Nat.le_of_ble_eq_true rfl)) dL_law_255 ⟨Nat.le_of_ble_eq_true rfl, Nat.le_of_ble_eq_true rfl⟩) hS (fun x235 u233 H locs w234 hG hS => ?_)
        obtain ⟨hf236, w234⟩ := w234
        refine ty_icmp_eq (tgt := 1075) hx hb dL_law_258 (by decide) (fun c237 => ?_) (fun c237 => ?_)
        · skip
          obtain ⟨x238, h239⟩ : ∃ y : Int32, y = x30 + Int32.ofInt (6) := ⟨_, rfl⟩
          try have h240 : x238.toInt = x30.toInt + (6) := ty_inc h239 (by decide) (by omega) (by omega)
          refine lv_iinc (v := x238) (lv' := [(4, .int x238), (3, .ref q25), (2, .ref q12), (1, .ref q1), (0, .ref b)]) hx hb dL_law_1075 hl (k := 0) rfl h239.symm (by decide) rfl (fun ls hl => ?_)
          refine lv_goto (tgt := 23) hx hb dL_law_1078 (by decide) ?_
          refine lv_iload hx hb dL_law_23 (lv_at hl 0 rfl) ?_
          refine lv_aload_n hx hb dL_law_25 rfl (lv_at hl 4 rfl) ?_
          refine va_slen hx hb hXs hbl hbA hS dL_law_26 ?_
          refine lv_topi (fun x241 h242 => ?_)
          have h243 := lw_len h242 hLN
          refine ty_bipush hx hb (6) dL_law_27 (by decide) (fun x244 h245 => ?_)
          refine ty_isub hx hb dL_law_29 (fun x246 h247 => ?_)
          try have h248 : x246.toInt = x241.toInt - x244.toInt := ty_sub h247 (by omega) (by omega)
          refine ty_icmp_gt (tgt := 1081) hx hb dL_law_30 (by decide) (fun c249 => ?_) (fun c249 => ?_)
          · skip
            refine ty_iconst hx hb (1) dL_law_1081 (by decide) (fun x250 h251 => ?_)
            obtain rfl : x250 = 1 := ty_eq32.mpr (by rw [Int32.toInt_one]; omega)
            refine va_forget (fun q hq => hsz ▸ hS.2.2 q hq) ?_
            refine W.widen (k := 600002) (n := 7302232) (Nat.le_of_ble_eq_true rfl) (Nat.le_of_ble_eq_true rfl) ?_
            exact lw_ret hx hb hr hlocks dL_law_1082
          · exfalso; omega
        · exfalso; omega
      · skip
        refine lv_tableIn (tgt := 263) (off := 223) hx hb dL_law_40 (by omega) (by omega) (by rw [q67]; rfl) (by decide) ?_
        refine lv_aload_n hx hb dL_law_263 rfl (lv_at hl 3 rfl) ?_
        refine lv_aload_n hx hb dL_law_264 rfl (lv_at hl 4 rfl) ?_
        refine lv_iload hx hb dL_law_265 (lv_at hl 0 rfl) ?_
        refine ty_iconst hx hb (1) dL_law_267 (by decide) (fun x252 h253 => ?_)
        refine ty_iadd hx hb dL_law_268 (fun x254 h255 => ?_)
        try have h256 : x254.toInt = x30.toInt + x252.toInt := ty_add h255 (by omega) (by omega)
        refine va_sld hx hb hXs hbl hbA hS (i := x254) (ty_ix (by omega)) dL_law_269 ?_
        refine lv_topi (fun x257 s258 => ?_)
        refine lv_aload_n hx hb dL_law_270 rfl (lv_at hl 4 rfl) ?_
        refine lv_iload hx hb dL_law_271 (lv_at hl 0 rfl) ?_
        refine ty_iconst hx hb (2) dL_law_273 (by decide) (fun x259 h260 => ?_)
        refine ty_iadd hx hb dL_law_274 (fun x261 h262 => ?_)
        try have h263 : x261.toInt = x30.toInt + x259.toInt := ty_add h262 (by omega) (by omega)
        refine va_sld hx hb hXs hbl hbA hS (i := x261) (ty_ix (by omega)) dL_law_275 ?_
        refine lv_topi (fun x264 s265 => ?_)
        refine lv_aload_n hx hb dL_law_276 rfl (lv_at hl 4 rfl) ?_
        refine lv_iload hx hb dL_law_277 (lv_at hl 0 rfl) ?_
        refine ty_iconst hx hb (3) dL_law_279 (by decide) (fun x266 h267 => ?_)
        refine ty_iadd hx hb dL_law_280 (fun x268 h269 => ?_)
        try have h270 : x268.toInt = x30.toInt + x266.toInt := ty_add h269 (by omega) (by omega)
        refine va_sld hx hb hXs hbl hbA hS (i := x268) (ty_ix (by omega)) dL_law_281 ?_
        refine lv_topi (fun x271 s272 => ?_)
        refine lv_aload_n hx hb dL_law_282 rfl (lv_at hl 4 rfl) ?_
        refine lv_iload hx hb dL_law_283 (lv_at hl 0 rfl) ?_
        refine ty_iconst hx hb (4) dL_law_285 (by decide) (fun x273 h274 => ?_)
        refine ty_iadd hx hb dL_law_286 (fun x275 h276 => ?_)
        try have h277 : x275.toInt = x30.toInt + x273.toInt := ty_add h276 (by omega) (by omega)
        refine va_sld hx hb hXs hbl hbA hS (i := x275) (ty_ix (by omega)) dL_law_287 ?_
        refine lv_topi (fun x278 s279 => ?_)
        refine lv_aload_n hx hb dL_law_288 rfl (lv_at hl 4 rfl) ?_
        refine lv_iload hx hb dL_law_289 (lv_at hl 0 rfl) ?_
        refine ty_iconst hx hb (5) dL_law_291 (by decide) (fun x280 h281 => ?_)
        refine ty_iadd hx hb dL_law_292 (fun x282 h283 => ?_)
        try have h284 : x282.toInt = x30.toInt + x280.toInt := ty_add h283 (by omega) (by omega)
        refine va_sld hx hb hXs hbl hbA hS (i := x282) (ty_ix (by omega)) dL_law_293 ?_
        refine lv_topi (fun x285 s286 => ?_)
        have hk287 : g16 6 0 = g 6 0 := hf19 6 0 (by decide)
        refine cI (va_runV (C := RX8) (As := [.int x257, .int x264, .int x271, .int x278, .int x285]) (rest := []) ⟨hx, hb, hml, hown, hA⟩ (k_X8_feed l dC dI dA sz X Γ26 hU g16 q1 t_q1 x257 x264 x271 x278 x285   (by omega)) ⟨callB_of 5 hA (al_A wd_2_76) rfl rfl rfl (hA _ wd_1_1) (hA _ wd_2_73) (by decide +kernel) ⟨Nat.le_of_ble_eq_true rfl, Nat.le_of_ble_eq_true rfl⟩, hA _ wd_2_74, hA _ wd_2_75⟩ ⟨bl, recv_X8 hE hG t_q1, fun U hU9 hW9 => ⟨rfl, by rw [hU9]; exact hG, hE.go hS hU9 hW9⟩⟩ rfl rfl hl.1 rfl (lv_room (Nat.le_of_ble_eq_true rfl)) dL_law_294 ⟨Nat.le_of_ble_eq_true rfl, Nat.le_of_ble_eq_true rfl⟩) hS (fun x290 u288 H locs w289 hG hS => ?_)
        obtain ⟨hf291, w289⟩ := w289
        refine lv_aload_n hx hb dL_law_297 rfl (lv_at hl 2 rfl) ?_
        refine lv_aload_n hx hb dL_law_298 rfl (lv_at hl 4 rfl) ?_
        refine lv_iload hx hb dL_law_299 (lv_at hl 0 rfl) ?_
        refine ty_iconst hx hb (1) dL_law_301 (by decide) (fun x292 h293 => ?_)
        refine ty_iadd hx hb dL_law_302 (fun x294 h295 => ?_)
        try have h296 : x294.toInt = x30.toInt + x292.toInt := ty_add h295 (by omega) (by omega)
        refine va_sld hx hb hXs hbl hbA hS (i := x294) (ty_ix (by omega)) dL_law_303 ?_
        rw [lw_same (j := x294) s258 (by omega)]
        refine lv_aload_n hx hb dL_law_304 rfl (lv_at hl 4 rfl) ?_
        refine lv_iload hx hb dL_law_305 (lv_at hl 0 rfl) ?_
        refine ty_iconst hx hb (2) dL_law_307 (by decide) (fun x297 h298 => ?_)
        refine ty_iadd hx hb dL_law_308 (fun x299 h300 => ?_)
        try have h301 : x299.toInt = x30.toInt + x297.toInt := ty_add h300 (by omega) (by omega)
        refine va_sld hx hb hXs hbl hbA hS (i := x299) (ty_ix (by omega)) dL_law_309 ?_
        rw [lw_same (j := x299) s265 (by omega)]
        refine lv_aload_n hx hb dL_law_310 rfl (lv_at hl 4 rfl) ?_
        refine lv_iload hx hb dL_law_311 (lv_at hl 0 rfl) ?_
        refine ty_iconst hx hb (3) dL_law_313 (by decide) (fun x302 h303 => ?_)
        refine ty_iadd hx hb dL_law_314 (fun x304 h305 => ?_)
        try have h306 : x304.toInt = x30.toInt + x302.toInt := ty_add h305 (by omega) (by omega)
        refine va_sld hx hb hXs hbl hbA hS (i := x304) (ty_ix (by omega)) dL_law_315 ?_
        rw [lw_same (j := x304) s272 (by omega)]
        refine lv_aload_n hx hb dL_law_316 rfl (lv_at hl 4 rfl) ?_
        refine lv_iload hx hb dL_law_317 (lv_at hl 0 rfl) ?_
        refine ty_iconst hx hb (4) dL_law_319 (by decide) (fun x307 h308 => ?_)
        refine ty_iadd hx hb dL_law_320 (fun x309 h310 => ?_)
        try have h311 : x309.toInt = x30.toInt + x307.toInt := ty_add h310 (by omega) (by omega)
        refine va_sld hx hb hXs hbl hbA hS (i := x309) (ty_ix (by omega)) dL_law_321 ?_
        rw [lw_same (j := x309) s279 (by omega)]
        refine lv_aload_n hx hb dL_law_322 rfl (lv_at hl 4 rfl) ?_
        refine lv_iload hx hb dL_law_323 (lv_at hl 0 rfl) ?_
        refine ty_iconst hx hb (5) dL_law_325 (by decide) (fun x312 h313 => ?_)
        refine ty_iadd hx hb dL_law_326 (fun x314 h315 => ?_)
        try have h316 : x314.toInt = x30.toInt + x312.toInt := ty_add h315 (by omega) (by omega)
        refine va_sld hx hb hXs hbl hbA hS (i := x314) (ty_ix (by omega)) dL_law_327 ?_
        rw [lw_same (j := x314) s286 (by omega)]
        have hk317 : u288 114 0 = g16 114 0 := hf291 114 0 (by decide) (by decide)
        have hk318 : g16 114 0 = g 114 0 := hf19 114 0 (by decide)
        refine cI (va_runV (C := RX9) (As := [.int x257, .int x264, .int x271, .int x278, .int x285]) (rest := [.int x290]) ⟨hx, hb, hml, hown, hA⟩ (k_X9_feed l dC dI dA sz X Γ26 hU u288 q12 t_q12 x257 x264 x271 x278 x285   (by omega)) ⟨callB_of 5 hA (al_A wd_5_66) rfl rfl rfl (hA _ wd_1_7) (hA _ wd_5_63) (by decide +kernel) ⟨Nat.le_of_ble_eq_true rfl, Nat.le_of_ble_eq_true rfl⟩, hA _ wd_5_64, hA _ wd_5_65⟩ ⟨bl, recv_X9 hE hG t_q12, fun U hU9 hW9 => ⟨rfl, by rw [hU9]; exact hG, hE.go hS hU9 hW9⟩⟩ rfl rfl hl.1 rfl (lv_room (Nat.le_of_ble_eq_true rfl)) dL_law_328 ⟨Nat.le_of_ble_eq_true rfl, Nat.le_of_ble_eq_true rfl⟩) hS (fun x321 u319 H locs w320 hG hS => ?_)
        obtain ⟨hf322, w320⟩ := w320
        refine ty_icmp_eq (tgt := 1075) hx hb dL_law_331 (by decide) (fun c323 => ?_) (fun c323 => ?_)
        · skip
          obtain ⟨x324, h325⟩ : ∃ y : Int32, y = x30 + Int32.ofInt (6) := ⟨_, rfl⟩
          try have h326 : x324.toInt = x30.toInt + (6) := ty_inc h325 (by decide) (by omega) (by omega)
          refine lv_iinc (v := x324) (lv' := [(4, .int x324), (3, .ref q25), (2, .ref q12), (1, .ref q1), (0, .ref b)]) hx hb dL_law_1075 hl (k := 0) rfl h325.symm (by decide) rfl (fun ls hl => ?_)
          refine lv_goto (tgt := 23) hx hb dL_law_1078 (by decide) ?_
          refine lv_iload hx hb dL_law_23 (lv_at hl 0 rfl) ?_
          refine lv_aload_n hx hb dL_law_25 rfl (lv_at hl 4 rfl) ?_
          refine va_slen hx hb hXs hbl hbA hS dL_law_26 ?_
          refine lv_topi (fun x327 h328 => ?_)
          have h329 := lw_len h328 hLN
          refine ty_bipush hx hb (6) dL_law_27 (by decide) (fun x330 h331 => ?_)
          refine ty_isub hx hb dL_law_29 (fun x332 h333 => ?_)
          try have h334 : x332.toInt = x327.toInt - x330.toInt := ty_sub h333 (by omega) (by omega)
          refine ty_icmp_gt (tgt := 1081) hx hb dL_law_30 (by decide) (fun c335 => ?_) (fun c335 => ?_)
          · skip
            refine ty_iconst hx hb (1) dL_law_1081 (by decide) (fun x336 h337 => ?_)
            obtain rfl : x336 = 1 := ty_eq32.mpr (by rw [Int32.toInt_one]; omega)
            refine va_forget (fun q hq => hsz ▸ hS.2.2 q hq) ?_
            refine W.widen (k := 600002) (n := 7302232) (Nat.le_of_ble_eq_true rfl) (Nat.le_of_ble_eq_true rfl) ?_
            exact lw_ret hx hb hr hlocks dL_law_1082
          · exfalso; omega
        · exfalso; omega
      · skip
        refine lv_tableIn (tgt := 336) (off := 296) hx hb dL_law_40 (by omega) (by omega) (by rw [q68]; rfl) (by decide) ?_
        refine lv_aload_n hx hb dL_law_336 rfl (lv_at hl 3 rfl) ?_
        refine lv_aload_n hx hb dL_law_337 rfl (lv_at hl 4 rfl) ?_
        refine lv_iload hx hb dL_law_338 (lv_at hl 0 rfl) ?_
        refine ty_iconst hx hb (1) dL_law_340 (by decide) (fun x338 h339 => ?_)
        refine ty_iadd hx hb dL_law_341 (fun x340 h341 => ?_)
        try have h342 : x340.toInt = x30.toInt + x338.toInt := ty_add h341 (by omega) (by omega)
        refine va_sld hx hb hXs hbl hbA hS (i := x340) (ty_ix (by omega)) dL_law_342 ?_
        refine lv_topi (fun x343 s344 => ?_)
        have hk345 : g16 6 0 = g 6 0 := hf19 6 0 (by decide)
        refine cI (va_runV (C := RX8) (As := [.int x343]) (rest := []) ⟨hx, hb, hml, hown, hA⟩ (k_X8_end l dC dI dA sz X Γ26 hU g16 q1 t_q1 x343   (by omega)) ⟨callB_of 1 hA (al_A wd_2_84) rfl rfl rfl (hA _ wd_1_1) (hA _ wd_2_81) (by decide +kernel) ⟨Nat.le_of_ble_eq_true rfl, Nat.le_of_ble_eq_true rfl⟩, hA _ wd_2_82, hA _ wd_2_83⟩ ⟨bl, recv_X8 hE hG t_q1, fun U hU9 hW9 => ⟨rfl, by rw [hU9]; exact hG, hE.go hS hU9 hW9⟩⟩ rfl rfl hl.1 rfl (lv_room (Nat.le_of_ble_eq_true rfl)) dL_law_343 ⟨Nat.le_of_ble_eq_true rfl, Nat.le_of_ble_eq_true rfl⟩) hS (fun x348 u346 H locs w347 hG hS => ?_)
        obtain ⟨hf349, w347⟩ := w347
        refine lv_aload_n hx hb dL_law_346 rfl (lv_at hl 2 rfl) ?_
        refine lv_aload_n hx hb dL_law_347 rfl (lv_at hl 4 rfl) ?_
        refine lv_iload hx hb dL_law_348 (lv_at hl 0 rfl) ?_
        refine ty_iconst hx hb (1) dL_law_350 (by decide) (fun x350 h351 => ?_)
        refine ty_iadd hx hb dL_law_351 (fun x352 h353 => ?_)
        try have h354 : x352.toInt = x30.toInt + x350.toInt := ty_add h353 (by omega) (by omega)
        refine va_sld hx hb hXs hbl hbA hS (i := x352) (ty_ix (by omega)) dL_law_352 ?_
        rw [lw_same (j := x352) s344 (by omega)]
        have hk355 : u346 114 0 = g16 114 0 := hf349 114 0 (by decide)
        have hk356 : g16 114 0 = g 114 0 := hf19 114 0 (by decide)
        refine cI (va_runV (C := RX9) (As := [.int x343]) (rest := [.int x348]) ⟨hx, hb, hml, hown, hA⟩ (k_X9_end l dC dI dA sz X Γ26 hU u346 q12 t_q12 x343   (by omega)) ⟨callB_of 1 hA (al_A wd_5_70) rfl rfl rfl (hA _ wd_1_7) (hA _ wd_5_67) (by decide +kernel) ⟨Nat.le_of_ble_eq_true rfl, Nat.le_of_ble_eq_true rfl⟩, hA _ wd_5_68, hA _ wd_5_69⟩ ⟨bl, recv_X9 hE hG t_q12, fun U hU9 hW9 => ⟨rfl, by rw [hU9]; exact hG, hE.go hS hU9 hW9⟩⟩ rfl rfl hl.1 rfl (lv_room (Nat.le_of_ble_eq_true rfl)) dL_law_353 ⟨Nat.le_of_ble_eq_true rfl, Nat.le_of_ble_eq_true rfl⟩) hS (fun x359 u357 H locs w358 hG hS => ?_)
        obtain ⟨hf360, w358⟩ := w358
        refine ty_icmp_eq (tgt := 1075) hx hb dL_law_356 (by decide) (fun c361 => ?_) (fun c361 => ?_)
        · skip
          obtain ⟨x362, h363⟩ : ∃ y : Int32, y = x30 + Int32.ofInt (6) := ⟨_, rfl⟩
          try have h364 : x362.toInt = x30.toInt + (6) := ty_inc h363 (by decide) (by omega) (by omega)
          refine lv_iinc (v := x362) (lv' := [(4, .int x362), (3, .ref q25), (2, .ref q12), (1, .ref q1), (0, .ref b)]) hx hb dL_law_1075 hl (k := 0) rfl h363.symm (by decide) rfl (fun ls hl => ?_)
          refine lv_goto (tgt := 23) hx hb dL_law_1078 (by decide) ?_
          refine lv_iload hx hb dL_law_23 (lv_at hl 0 rfl) ?_
          refine lv_aload_n hx hb dL_law_25 rfl (lv_at hl 4 rfl) ?_
          refine va_slen hx hb hXs hbl hbA hS dL_law_26 ?_
          refine lv_topi (fun x365 h366 => ?_)
          have h367 := lw_len h366 hLN
          refine ty_bipush hx hb (6) dL_law_27 (by decide) (fun x368 h369 => ?_)
          refine ty_isub hx hb dL_law_29 (fun x370 h371 => ?_)
          try have h372 : x370.toInt = x365.toInt - x368.toInt := ty_sub h371 (by omega) (by omega)
          refine ty_icmp_gt (tgt := 1081) hx hb dL_law_30 (by decide) (fun c373 => ?_) (fun c373 => ?_)
          · skip
            refine ty_iconst hx hb (1) dL_law_1081 (by decide) (fun x374 h375 => ?_)
            obtain rfl : x374 = 1 := ty_eq32.mpr (by rw [Int32.toInt_one]; omega)
            refine va_forget (fun q hq => hsz ▸ hS.2.2 q hq) ?_
            refine W.widen (k := 600002) (n := 7302232) (Nat.le_of_ble_eq_true rfl) (Nat.le_of_ble_eq_true rfl) ?_
            exact lw_ret hx hb hr hlocks dL_law_1082
          · exfalso; omega
        · exfalso; omega
      · skip
        refine lv_tableIn (tgt := 361) (off := 321) hx hb dL_law_40 (by omega) (by omega) (by rw [q69]; rfl) (by decide) ?_
        refine lv_aload_n hx hb dL_law_361 rfl (lv_at hl 3 rfl) ?_
        have hk376 : g16 6 0 = g 6 0 := hf19 6 0 (by decide)
        refine cI (va_runV (C := RX8) (As := []) (rest := []) ⟨hx, hb, hml, hown, hA⟩ (f_X8_rules l dC dI dA sz X Γ26 hU g16 q1 t_q1   (by omega)) ⟨callB_of 0 hA (al_A wd_2_88) rfl rfl rfl (hA _ wd_1_1) (hA _ wd_2_85) (by decide +kernel) ⟨Nat.le_of_ble_eq_true rfl, Nat.le_of_ble_eq_true rfl⟩, hA _ wd_2_86, hA _ wd_2_87⟩ ⟨bl, recv_X8 hE hG t_q1, fun U hU9 hW9 => ⟨rfl, by rw [hU9]; exact hG, hE.go hS hU9 hW9⟩⟩ rfl rfl hl.1 rfl (lv_room (Nat.le_of_ble_eq_true rfl)) dL_law_362 ⟨Nat.le_of_ble_eq_true rfl, Nat.le_of_ble_eq_true rfl⟩) hS (fun x379 u377 H locs w378 hG hS => ?_)
        obtain ⟨hf380, w378⟩ := w378
        refine lv_aload_n hx hb dL_law_365 rfl (lv_at hl 2 rfl) ?_
        have hk381 : u377 114 0 = g16 114 0 := hf380 114 0 (by decide) (by decide) (by decide) (by decide) (by decide) (by decide) (by decide) (by decide) (by decide) (by decide)
        have hk382 : g16 114 0 = g 114 0 := hf19 114 0 (by decide)
        refine cI (va_runV (C := RX9) (As := []) (rest := [.int x379]) ⟨hx, hb, hml, hown, hA⟩ (f_X9_rules l dC dI dA sz X Γ26 hU u377 q12 t_q12   (by omega)) ⟨callB_of 0 hA (al_A wd_5_74) rfl rfl rfl (hA _ wd_1_7) (hA _ wd_5_71) (by decide +kernel) ⟨Nat.le_of_ble_eq_true rfl, Nat.le_of_ble_eq_true rfl⟩, hA _ wd_5_72, hA _ wd_5_73⟩ ⟨bl, recv_X9 hE hG t_q12, fun U hU9 hW9 => ⟨rfl, by rw [hU9]; exact hG, hE.go hS hU9 hW9⟩⟩ rfl rfl hl.1 rfl (lv_room (Nat.le_of_ble_eq_true rfl)) dL_law_366 ⟨Nat.le_of_ble_eq_true rfl, Nat.le_of_ble_eq_true rfl⟩) hS (fun x385 u383 H locs w384 hG hS => ?_)
        obtain ⟨hf386, w384⟩ := w384
        refine ty_icmp_eq (tgt := 1075) hx hb dL_law_369 (by decide) (fun c387 => ?_) (fun c387 => ?_)
        · skip
          obtain ⟨x388, h389⟩ : ∃ y : Int32, y = x30 + Int32.ofInt (6) := ⟨_, rfl⟩
          try have h390 : x388.toInt = x30.toInt + (6) := ty_inc h389 (by decide) (by omega) (by omega)
          refine lv_iinc (v := x388) (lv' := [(4, .int x388), (3, .ref q25), (2, .ref q12), (1, .ref q1), (0, .ref b)]) hx hb dL_law_1075 hl (k := 0) rfl h389.symm (by decide) rfl (fun ls hl => ?_)
          refine lv_goto (tgt := 23) hx hb dL_law_1078 (by decide) ?_
          refine lv_iload hx hb dL_law_23 (lv_at hl 0 rfl) ?_
          refine lv_aload_n hx hb dL_law_25 rfl (lv_at hl 4 rfl) ?_
          refine va_slen hx hb hXs hbl hbA hS dL_law_26 ?_
          refine lv_topi (fun x391 h392 => ?_)
          have h393 := lw_len h392 hLN
          refine ty_bipush hx hb (6) dL_law_27 (by decide) (fun x394 h395 => ?_)
          refine ty_isub hx hb dL_law_29 (fun x396 h397 => ?_)
          try have h398 : x396.toInt = x391.toInt - x394.toInt := ty_sub h397 (by omega) (by omega)
          refine ty_icmp_gt (tgt := 1081) hx hb dL_law_30 (by decide) (fun c399 => ?_) (fun c399 => ?_)
          · skip
            refine ty_iconst hx hb (1) dL_law_1081 (by decide) (fun x400 h401 => ?_)
            obtain rfl : x400 = 1 := ty_eq32.mpr (by rw [Int32.toInt_one]; omega)
            refine va_forget (fun q hq => hsz ▸ hS.2.2 q hq) ?_
            refine W.widen (k := 600002) (n := 7302232) (Nat.le_of_ble_eq_true rfl) (Nat.le_of_ble_eq_true rfl) ?_
            exact lw_ret hx hb hr hlocks dL_law_1082
          · exfalso; omega
        · exfalso; omega
      · skip
        refine lv_tableIn (tgt := 374) (off := 334) hx hb dL_law_40 (by omega) (by omega) (by rw [q70]; rfl) (by decide) ?_
        refine lv_aload_n hx hb dL_law_374 rfl (lv_at hl 3 rfl) ?_
        have hk402 : g16 14 0 = g 14 0 := hf19 14 0 (by decide)
        refine cI (va_runV (C := RX8) (As := []) (rest := []) ⟨hx, hb, hml, hown, hA⟩ (k_X8_place l dC dI dA sz X Γ26 hU g16 q1 t_q1   ) ⟨callB_of 0 hA (al_A wd_2_225) rfl rfl rfl (hA _ wd_1_1) (hA _ wd_2_222) (by decide +kernel) ⟨Nat.le_of_ble_eq_true rfl, Nat.le_of_ble_eq_true rfl⟩, hA _ wd_2_223, hA _ wd_2_224⟩ ⟨bl, recv_X8 hE hG t_q1, fun U hU9 hW9 => ⟨rfl, by rw [hU9]; exact hG, hE.go hS hU9 hW9⟩⟩ rfl rfl hl.1 rfl (lv_room (Nat.le_of_ble_eq_true rfl)) dL_law_375 ⟨Nat.le_of_ble_eq_true rfl, Nat.le_of_ble_eq_true rfl⟩) hS (fun x405 u403 H locs w404 hG hS => ?_)
        obtain ⟨eu406, w404⟩ := w404
        rw [eu406] at hG
        refine lv_aload_n hx hb dL_law_378 rfl (lv_at hl 2 rfl) ?_
        have hk407 : g16 121 0 = g 121 0 := hf19 121 0 (by decide)
        refine cI (va_runV (C := RX9) (As := []) (rest := [.int x405]) ⟨hx, hb, hml, hown, hA⟩ (k_X9_place l dC dI dA sz X Γ26 hU g16 q12 t_q12   ) ⟨callB_of 0 hA (al_A wd_5_116) rfl rfl rfl (hA _ wd_1_7) (hA _ wd_5_113) (by decide +kernel) ⟨Nat.le_of_ble_eq_true rfl, Nat.le_of_ble_eq_true rfl⟩, hA _ wd_5_114, hA _ wd_5_115⟩ ⟨bl, recv_X9 hE hG t_q12, fun U hU9 hW9 => ⟨rfl, by rw [hU9]; exact hG, hE.go hS hU9 hW9⟩⟩ rfl rfl hl.1 rfl (lv_room (Nat.le_of_ble_eq_true rfl)) dL_law_379 ⟨Nat.le_of_ble_eq_true rfl, Nat.le_of_ble_eq_true rfl⟩) hS (fun x410 u408 H locs w409 hG hS => ?_)
        obtain ⟨hf411, w409⟩ := w409
        refine ty_icmp_eq (tgt := 1075) hx hb dL_law_382 (by decide) (fun c412 => ?_) (fun c412 => ?_)
        · skip
          obtain ⟨x413, h414⟩ : ∃ y : Int32, y = x30 + Int32.ofInt (6) := ⟨_, rfl⟩
          try have h415 : x413.toInt = x30.toInt + (6) := ty_inc h414 (by decide) (by omega) (by omega)
          refine lv_iinc (v := x413) (lv' := [(4, .int x413), (3, .ref q25), (2, .ref q12), (1, .ref q1), (0, .ref b)]) hx hb dL_law_1075 hl (k := 0) rfl h414.symm (by decide) rfl (fun ls hl => ?_)
          refine lv_goto (tgt := 23) hx hb dL_law_1078 (by decide) ?_
          refine lv_iload hx hb dL_law_23 (lv_at hl 0 rfl) ?_
          refine lv_aload_n hx hb dL_law_25 rfl (lv_at hl 4 rfl) ?_
          refine va_slen hx hb hXs hbl hbA hS dL_law_26 ?_
          refine lv_topi (fun x416 h417 => ?_)
          have h418 := lw_len h417 hLN
          refine ty_bipush hx hb (6) dL_law_27 (by decide) (fun x419 h420 => ?_)
          refine ty_isub hx hb dL_law_29 (fun x421 h422 => ?_)
          try have h423 : x421.toInt = x416.toInt - x419.toInt := ty_sub h422 (by omega) (by omega)
          refine ty_icmp_gt (tgt := 1081) hx hb dL_law_30 (by decide) (fun c424 => ?_) (fun c424 => ?_)
          · skip
            refine ty_iconst hx hb (1) dL_law_1081 (by decide) (fun x425 h426 => ?_)
            obtain rfl : x425 = 1 := ty_eq32.mpr (by rw [Int32.toInt_one]; omega)
            refine va_forget (fun q hq => hsz ▸ hS.2.2 q hq) ?_
            refine W.widen (k := 600002) (n := 7302232) (Nat.le_of_ble_eq_true rfl) (Nat.le_of_ble_eq_true rfl) ?_
            exact lw_ret hx hb hr hlocks dL_law_1082
          · exfalso; omega
        · exfalso; omega
      · skip
        refine lv_tableIn (tgt := 387) (off := 347) hx hb dL_law_40 (by omega) (by omega) (by rw [q71]; rfl) (by decide) ?_
        refine lv_aload_n hx hb dL_law_387 rfl (lv_at hl 3 rfl) ?_
        refine lv_aload_n hx hb dL_law_388 rfl (lv_at hl 4 rfl) ?_
        refine lv_iload hx hb dL_law_389 (lv_at hl 0 rfl) ?_
        refine ty_iconst hx hb (1) dL_law_391 (by decide) (fun x427 h428 => ?_)
        refine ty_iadd hx hb dL_law_392 (fun x429 h430 => ?_)
        try have h431 : x429.toInt = x30.toInt + x427.toInt := ty_add h430 (by omega) (by omega)
        refine va_sld hx hb hXs hbl hbA hS (i := x429) (ty_ix (by omega)) dL_law_393 ?_
        refine lv_topi (fun x432 s433 => ?_)
        refine lv_aload_n hx hb dL_law_394 rfl (lv_at hl 4 rfl) ?_
        refine lv_iload hx hb dL_law_395 (lv_at hl 0 rfl) ?_
        refine ty_iconst hx hb (2) dL_law_397 (by decide) (fun x434 h435 => ?_)
        refine ty_iadd hx hb dL_law_398 (fun x436 h437 => ?_)
        try have h438 : x436.toInt = x30.toInt + x434.toInt := ty_add h437 (by omega) (by omega)
        refine va_sld hx hb hXs hbl hbA hS (i := x436) (ty_ix (by omega)) dL_law_399 ?_
        refine lv_topi (fun x439 s440 => ?_)
        have hk441 : g16 1 0 = g 1 0 := hf19 1 0 (by decide)
        refine cI (va_runV (C := RX8) (As := [.int x432, .int x439]) (rest := []) ⟨hx, hb, hml, hown, hA⟩ (f_X8_worth l dC dI dA sz X Γ26 hU g16 q1 t_q1 x432 x439   (by omega)) ⟨callB_of 2 hA (al_A wd_2_229) rfl rfl rfl (hA _ wd_1_1) (hA _ wd_2_226) (by decide +kernel) ⟨Nat.le_of_ble_eq_true rfl, Nat.le_of_ble_eq_true rfl⟩, hA _ wd_2_227, hA _ wd_2_228⟩ ⟨bl, recv_X8 hE hG t_q1, fun U hU9 hW9 => ⟨rfl, by rw [hU9]; exact hG, hE.go hS hU9 hW9⟩⟩ rfl rfl hl.1 rfl (lv_room (Nat.le_of_ble_eq_true rfl)) dL_law_400 ⟨Nat.le_of_ble_eq_true rfl, Nat.le_of_ble_eq_true rfl⟩) hS (fun x444 u442 H locs w443 hG hS => ?_)
        obtain ⟨eu445, w443⟩ := w443
        rw [eu445] at hG
        refine lv_aload_n hx hb dL_law_403 rfl (lv_at hl 2 rfl) ?_
        refine lv_aload_n hx hb dL_law_404 rfl (lv_at hl 4 rfl) ?_
        refine lv_iload hx hb dL_law_405 (lv_at hl 0 rfl) ?_
        refine ty_iconst hx hb (1) dL_law_407 (by decide) (fun x446 h447 => ?_)
        refine ty_iadd hx hb dL_law_408 (fun x448 h449 => ?_)
        try have h450 : x448.toInt = x30.toInt + x446.toInt := ty_add h449 (by omega) (by omega)
        refine va_sld hx hb hXs hbl hbA hS (i := x448) (ty_ix (by omega)) dL_law_409 ?_
        rw [lw_same (j := x448) s433 (by omega)]
        refine lv_aload_n hx hb dL_law_410 rfl (lv_at hl 4 rfl) ?_
        refine lv_iload hx hb dL_law_411 (lv_at hl 0 rfl) ?_
        refine ty_iconst hx hb (2) dL_law_413 (by decide) (fun x451 h452 => ?_)
        refine ty_iadd hx hb dL_law_414 (fun x453 h454 => ?_)
        try have h455 : x453.toInt = x30.toInt + x451.toInt := ty_add h454 (by omega) (by omega)
        refine va_sld hx hb hXs hbl hbA hS (i := x453) (ty_ix (by omega)) dL_law_415 ?_
        rw [lw_same (j := x453) s440 (by omega)]
        have hk456 : g16 101 0 = g 101 0 := hf19 101 0 (by decide)
        refine cI (va_runV (C := RX9) (As := [.int x432, .int x439]) (rest := [.int x444]) ⟨hx, hb, hml, hown, hA⟩ (f_X9_worth l dC dI dA sz X Γ26 hU g16 q12 t_q12 x432 x439   (by omega)) ⟨callB_of 2 hA (al_A wd_5_120) rfl rfl rfl (hA _ wd_1_7) (hA _ wd_5_117) (by decide +kernel) ⟨Nat.le_of_ble_eq_true rfl, Nat.le_of_ble_eq_true rfl⟩, hA _ wd_5_118, hA _ wd_5_119⟩ ⟨bl, recv_X9 hE hG t_q12, fun U hU9 hW9 => ⟨rfl, by rw [hU9]; exact hG, hE.go hS hU9 hW9⟩⟩ rfl rfl hl.1 rfl (lv_room (Nat.le_of_ble_eq_true rfl)) dL_law_416 ⟨Nat.le_of_ble_eq_true rfl, Nat.le_of_ble_eq_true rfl⟩) hS (fun x459 u457 H locs w458 hG hS => ?_)
        obtain ⟨hf460, w458⟩ := w458
        refine ty_icmp_eq (tgt := 1075) hx hb dL_law_419 (by decide) (fun c461 => ?_) (fun c461 => ?_)
        · skip
          obtain ⟨x462, h463⟩ : ∃ y : Int32, y = x30 + Int32.ofInt (6) := ⟨_, rfl⟩
          try have h464 : x462.toInt = x30.toInt + (6) := ty_inc h463 (by decide) (by omega) (by omega)
          refine lv_iinc (v := x462) (lv' := [(4, .int x462), (3, .ref q25), (2, .ref q12), (1, .ref q1), (0, .ref b)]) hx hb dL_law_1075 hl (k := 0) rfl h463.symm (by decide) rfl (fun ls hl => ?_)
          refine lv_goto (tgt := 23) hx hb dL_law_1078 (by decide) ?_
          refine lv_iload hx hb dL_law_23 (lv_at hl 0 rfl) ?_
          refine lv_aload_n hx hb dL_law_25 rfl (lv_at hl 4 rfl) ?_
          refine va_slen hx hb hXs hbl hbA hS dL_law_26 ?_
          refine lv_topi (fun x465 h466 => ?_)
          have h467 := lw_len h466 hLN
          refine ty_bipush hx hb (6) dL_law_27 (by decide) (fun x468 h469 => ?_)
          refine ty_isub hx hb dL_law_29 (fun x470 h471 => ?_)
          try have h472 : x470.toInt = x465.toInt - x468.toInt := ty_sub h471 (by omega) (by omega)
          refine ty_icmp_gt (tgt := 1081) hx hb dL_law_30 (by decide) (fun c473 => ?_) (fun c473 => ?_)
          · skip
            refine ty_iconst hx hb (1) dL_law_1081 (by decide) (fun x474 h475 => ?_)
            obtain rfl : x474 = 1 := ty_eq32.mpr (by rw [Int32.toInt_one]; omega)
            refine va_forget (fun q hq => hsz ▸ hS.2.2 q hq) ?_
            refine W.widen (k := 600002) (n := 7302232) (Nat.le_of_ble_eq_true rfl) (Nat.le_of_ble_eq_true rfl) ?_
            exact lw_ret hx hb hr hlocks dL_law_1082
          · exfalso; omega
        · exfalso; omega
      · skip
        refine lv_tableIn (tgt := 424) (off := 384) hx hb dL_law_40 (by omega) (by omega) (by rw [q72]; rfl) (by decide) ?_
        refine lv_aload_n hx hb dL_law_424 rfl (lv_at hl 3 rfl) ?_
        refine lv_aload_n hx hb dL_law_425 rfl (lv_at hl 4 rfl) ?_
        refine lv_iload hx hb dL_law_426 (lv_at hl 0 rfl) ?_
        refine ty_iconst hx hb (1) dL_law_428 (by decide) (fun x476 h477 => ?_)
        refine ty_iadd hx hb dL_law_429 (fun x478 h479 => ?_)
        try have h480 : x478.toInt = x30.toInt + x476.toInt := ty_add h479 (by omega) (by omega)
        refine va_sld hx hb hXs hbl hbA hS (i := x478) (ty_ix (by omega)) dL_law_430 ?_
        refine lv_topi (fun x481 s482 => ?_)
        refine lv_aload_n hx hb dL_law_431 rfl (lv_at hl 4 rfl) ?_
        refine lv_iload hx hb dL_law_432 (lv_at hl 0 rfl) ?_
        refine ty_iconst hx hb (2) dL_law_434 (by decide) (fun x483 h484 => ?_)
        refine ty_iadd hx hb dL_law_435 (fun x485 h486 => ?_)
        try have h487 : x485.toInt = x30.toInt + x483.toInt := ty_add h486 (by omega) (by omega)
        refine va_sld hx hb hXs hbl hbA hS (i := x485) (ty_ix (by omega)) dL_law_436 ?_
        refine lv_topi (fun x488 s489 => ?_)
        refine lv_aload_n hx hb dL_law_437 rfl (lv_at hl 4 rfl) ?_
        refine lv_iload hx hb dL_law_438 (lv_at hl 0 rfl) ?_
        refine ty_iconst hx hb (3) dL_law_440 (by decide) (fun x490 h491 => ?_)
        refine ty_iadd hx hb dL_law_441 (fun x492 h493 => ?_)
        try have h494 : x492.toInt = x30.toInt + x490.toInt := ty_add h493 (by omega) (by omega)
        refine va_sld hx hb hXs hbl hbA hS (i := x492) (ty_ix (by omega)) dL_law_442 ?_
        refine lv_topi (fun x495 s496 => ?_)
        have hk497 : g16 1 0 = g 1 0 := hf19 1 0 (by decide)
        have hk498 : g16 2 0 = g 2 0 := hf19 2 0 (by decide)
        refine cI (va_runV (C := RX8) (As := [.int x481, .int x488, .int x495]) (rest := []) ⟨hx, hb, hml, hown, hA⟩ (f_X8_give l dC dI dA sz X Γ26 hU g16 q1 t_q1 x481 x488 x495   (by omega) (by omega)) ⟨callB_of 3 hA (al_A wd_3_4) rfl rfl rfl (hA _ wd_1_1) (hA _ wd_3_1) (by decide +kernel) ⟨Nat.le_of_ble_eq_true rfl, Nat.le_of_ble_eq_true rfl⟩, hA _ wd_3_2, hA _ wd_3_3⟩ ⟨bl, recv_X8 hE hG t_q1, fun U hU9 hW9 => ⟨rfl, by rw [hU9]; exact hG, hE.go hS hU9 hW9⟩⟩ rfl rfl hl.1 rfl (lv_room (Nat.le_of_ble_eq_true rfl)) dL_law_443 ⟨Nat.le_of_ble_eq_true rfl, Nat.le_of_ble_eq_true rfl⟩) hS (fun x501 u499 H locs w500 hG hS => ?_)
        obtain ⟨eu502, w500⟩ := w500
        rw [eu502] at hG
        refine lv_aload_n hx hb dL_law_446 rfl (lv_at hl 2 rfl) ?_
        refine lv_aload_n hx hb dL_law_447 rfl (lv_at hl 4 rfl) ?_
        refine lv_iload hx hb dL_law_448 (lv_at hl 0 rfl) ?_
        refine ty_iconst hx hb (1) dL_law_450 (by decide) (fun x503 h504 => ?_)
        refine ty_iadd hx hb dL_law_451 (fun x505 h506 => ?_)
        try have h507 : x505.toInt = x30.toInt + x503.toInt := ty_add h506 (by omega) (by omega)
        refine va_sld hx hb hXs hbl hbA hS (i := x505) (ty_ix (by omega)) dL_law_452 ?_
        rw [lw_same (j := x505) s482 (by omega)]
        refine lv_aload_n hx hb dL_law_453 rfl (lv_at hl 4 rfl) ?_
        refine lv_iload hx hb dL_law_454 (lv_at hl 0 rfl) ?_
        refine ty_iconst hx hb (2) dL_law_456 (by decide) (fun x508 h509 => ?_)
        refine ty_iadd hx hb dL_law_457 (fun x510 h511 => ?_)
        try have h512 : x510.toInt = x30.toInt + x508.toInt := ty_add h511 (by omega) (by omega)
        refine va_sld hx hb hXs hbl hbA hS (i := x510) (ty_ix (by omega)) dL_law_458 ?_
        rw [lw_same (j := x510) s489 (by omega)]
        refine lv_aload_n hx hb dL_law_459 rfl (lv_at hl 4 rfl) ?_
        refine lv_iload hx hb dL_law_460 (lv_at hl 0 rfl) ?_
        refine ty_iconst hx hb (3) dL_law_462 (by decide) (fun x513 h514 => ?_)
        refine ty_iadd hx hb dL_law_463 (fun x515 h516 => ?_)
        try have h517 : x515.toInt = x30.toInt + x513.toInt := ty_add h516 (by omega) (by omega)
        refine va_sld hx hb hXs hbl hbA hS (i := x515) (ty_ix (by omega)) dL_law_464 ?_
        rw [lw_same (j := x515) s496 (by omega)]
        have hk518 : g16 104 0 = g 104 0 := hf19 104 0 (by decide)
        refine cI (va_runV (C := RX9) (As := [.int x481, .int x488, .int x495]) (rest := [.int x501]) ⟨hx, hb, hml, hown, hA⟩ (f_X9_give l dC dI dA sz X Γ26 hU g16 q12 t_q12 x481 x488 x495   (by omega)) ⟨callB_of 3 hA (al_A wd_5_128) rfl rfl rfl (hA _ wd_1_7) (hA _ wd_5_125) (by decide +kernel) ⟨Nat.le_of_ble_eq_true rfl, Nat.le_of_ble_eq_true rfl⟩, hA _ wd_5_126, hA _ wd_5_127⟩ ⟨bl, recv_X9 hE hG t_q12, fun U hU9 hW9 => ⟨rfl, by rw [hU9]; exact hG, hE.go hS hU9 hW9⟩⟩ rfl rfl hl.1 rfl (lv_room (Nat.le_of_ble_eq_true rfl)) dL_law_465 ⟨Nat.le_of_ble_eq_true rfl, Nat.le_of_ble_eq_true rfl⟩) hS (fun x521 u519 H locs w520 hG hS => ?_)
        obtain ⟨hf522, w520⟩ := w520
        refine ty_icmp_eq (tgt := 1075) hx hb dL_law_468 (by decide) (fun c523 => ?_) (fun c523 => ?_)
        · skip
          obtain ⟨x524, h525⟩ : ∃ y : Int32, y = x30 + Int32.ofInt (6) := ⟨_, rfl⟩
          try have h526 : x524.toInt = x30.toInt + (6) := ty_inc h525 (by decide) (by omega) (by omega)
          refine lv_iinc (v := x524) (lv' := [(4, .int x524), (3, .ref q25), (2, .ref q12), (1, .ref q1), (0, .ref b)]) hx hb dL_law_1075 hl (k := 0) rfl h525.symm (by decide) rfl (fun ls hl => ?_)
          refine lv_goto (tgt := 23) hx hb dL_law_1078 (by decide) ?_
          refine lv_iload hx hb dL_law_23 (lv_at hl 0 rfl) ?_
          refine lv_aload_n hx hb dL_law_25 rfl (lv_at hl 4 rfl) ?_
          refine va_slen hx hb hXs hbl hbA hS dL_law_26 ?_
          refine lv_topi (fun x527 h528 => ?_)
          have h529 := lw_len h528 hLN
          refine ty_bipush hx hb (6) dL_law_27 (by decide) (fun x530 h531 => ?_)
          refine ty_isub hx hb dL_law_29 (fun x532 h533 => ?_)
          try have h534 : x532.toInt = x527.toInt - x530.toInt := ty_sub h533 (by omega) (by omega)
          refine ty_icmp_gt (tgt := 1081) hx hb dL_law_30 (by decide) (fun c535 => ?_) (fun c535 => ?_)
          · skip
            refine ty_iconst hx hb (1) dL_law_1081 (by decide) (fun x536 h537 => ?_)
            obtain rfl : x536 = 1 := ty_eq32.mpr (by rw [Int32.toInt_one]; omega)
            refine va_forget (fun q hq => hsz ▸ hS.2.2 q hq) ?_
            refine W.widen (k := 600002) (n := 7302232) (Nat.le_of_ble_eq_true rfl) (Nat.le_of_ble_eq_true rfl) ?_
            exact lw_ret hx hb hr hlocks dL_law_1082
          · exfalso; omega
        · exfalso; omega
      · skip
        refine lv_tableIn (tgt := 473) (off := 433) hx hb dL_law_40 (by omega) (by omega) (by rw [q73]; rfl) (by decide) ?_
        refine lv_aload_n hx hb dL_law_473 rfl (lv_at hl 3 rfl) ?_
        refine lv_aload_n hx hb dL_law_474 rfl (lv_at hl 4 rfl) ?_
        refine lv_iload hx hb dL_law_475 (lv_at hl 0 rfl) ?_
        refine ty_iconst hx hb (1) dL_law_477 (by decide) (fun x538 h539 => ?_)
        refine ty_iadd hx hb dL_law_478 (fun x540 h541 => ?_)
        try have h542 : x540.toInt = x30.toInt + x538.toInt := ty_add h541 (by omega) (by omega)
        refine va_sld hx hb hXs hbl hbA hS (i := x540) (ty_ix (by omega)) dL_law_479 ?_
        refine lv_topi (fun x543 s544 => ?_)
        refine lv_aload_n hx hb dL_law_480 rfl (lv_at hl 4 rfl) ?_
        refine lv_iload hx hb dL_law_481 (lv_at hl 0 rfl) ?_
        refine ty_iconst hx hb (2) dL_law_483 (by decide) (fun x545 h546 => ?_)
        refine ty_iadd hx hb dL_law_484 (fun x547 h548 => ?_)
        try have h549 : x547.toInt = x30.toInt + x545.toInt := ty_add h548 (by omega) (by omega)
        refine va_sld hx hb hXs hbl hbA hS (i := x547) (ty_ix (by omega)) dL_law_485 ?_
        refine lv_topi (fun x550 s551 => ?_)
        refine lv_aload_n hx hb dL_law_486 rfl (lv_at hl 4 rfl) ?_
        refine lv_iload hx hb dL_law_487 (lv_at hl 0 rfl) ?_
        refine ty_iconst hx hb (3) dL_law_489 (by decide) (fun x552 h553 => ?_)
        refine ty_iadd hx hb dL_law_490 (fun x554 h555 => ?_)
        try have h556 : x554.toInt = x30.toInt + x552.toInt := ty_add h555 (by omega) (by omega)
        refine va_sld hx hb hXs hbl hbA hS (i := x554) (ty_ix (by omega)) dL_law_491 ?_
        refine lv_topi (fun x557 s558 => ?_)
        refine lv_aload_n hx hb dL_law_492 rfl (lv_at hl 4 rfl) ?_
        refine lv_iload hx hb dL_law_493 (lv_at hl 0 rfl) ?_
        refine ty_iconst hx hb (4) dL_law_495 (by decide) (fun x559 h560 => ?_)
        refine ty_iadd hx hb dL_law_496 (fun x561 h562 => ?_)
        try have h563 : x561.toInt = x30.toInt + x559.toInt := ty_add h562 (by omega) (by omega)
        refine va_sld hx hb hXs hbl hbA hS (i := x561) (ty_ix (by omega)) dL_law_497 ?_
        refine lv_topi (fun x564 s565 => ?_)
        refine lv_aload_n hx hb dL_law_498 rfl (lv_at hl 4 rfl) ?_
        refine lv_iload hx hb dL_law_499 (lv_at hl 0 rfl) ?_
        refine ty_iconst hx hb (5) dL_law_501 (by decide) (fun x566 h567 => ?_)
        refine ty_iadd hx hb dL_law_502 (fun x568 h569 => ?_)
        try have h570 : x568.toInt = x30.toInt + x566.toInt := ty_add h569 (by omega) (by omega)
        refine va_sld hx hb hXs hbl hbA hS (i := x568) (ty_ix (by omega)) dL_law_503 ?_
        refine lv_topi (fun x571 s572 => ?_)
        have hk573 : g16 3 0 = g 3 0 := hf19 3 0 (by decide)
        refine cI (va_runV (C := RX8) (As := [.int x543, .int x550, .int x557, .int x564, .int x571]) (rest := []) ⟨hx, hb, hml, hown, hA⟩ (f_X8_wish l dC dI dA sz X Γ26 hU g16 q1 t_q1 x543 x550 x557 x564 x571   (by omega)) ⟨callB_of 5 hA (al_A wd_3_68) rfl rfl rfl (hA _ wd_1_1) (hA _ wd_3_65) (by decide +kernel) ⟨Nat.le_of_ble_eq_true rfl, Nat.le_of_ble_eq_true rfl⟩, hA _ wd_3_66, hA _ wd_3_67⟩ ⟨bl, recv_X8 hE hG t_q1, fun U hU9 hW9 => ⟨rfl, by rw [hU9]; exact hG, hE.go hS hU9 hW9⟩⟩ rfl rfl hl.1 rfl (lv_room (Nat.le_of_ble_eq_true rfl)) dL_law_504 ⟨Nat.le_of_ble_eq_true rfl, Nat.le_of_ble_eq_true rfl⟩) hS (fun x576 u574 H locs w575 hG hS => ?_)
        obtain ⟨eu577, w575⟩ := w575
        rw [eu577] at hG
        refine lv_aload_n hx hb dL_law_507 rfl (lv_at hl 2 rfl) ?_
        refine lv_aload_n hx hb dL_law_508 rfl (lv_at hl 4 rfl) ?_
        refine lv_iload hx hb dL_law_509 (lv_at hl 0 rfl) ?_
        refine ty_iconst hx hb (1) dL_law_511 (by decide) (fun x578 h579 => ?_)
        refine ty_iadd hx hb dL_law_512 (fun x580 h581 => ?_)
        try have h582 : x580.toInt = x30.toInt + x578.toInt := ty_add h581 (by omega) (by omega)
        refine va_sld hx hb hXs hbl hbA hS (i := x580) (ty_ix (by omega)) dL_law_513 ?_
        rw [lw_same (j := x580) s544 (by omega)]
        refine lv_aload_n hx hb dL_law_514 rfl (lv_at hl 4 rfl) ?_
        refine lv_iload hx hb dL_law_515 (lv_at hl 0 rfl) ?_
        refine ty_iconst hx hb (2) dL_law_517 (by decide) (fun x583 h584 => ?_)
        refine ty_iadd hx hb dL_law_518 (fun x585 h586 => ?_)
        try have h587 : x585.toInt = x30.toInt + x583.toInt := ty_add h586 (by omega) (by omega)
        refine va_sld hx hb hXs hbl hbA hS (i := x585) (ty_ix (by omega)) dL_law_519 ?_
        rw [lw_same (j := x585) s551 (by omega)]
        refine lv_aload_n hx hb dL_law_520 rfl (lv_at hl 4 rfl) ?_
        refine lv_iload hx hb dL_law_521 (lv_at hl 0 rfl) ?_
        refine ty_iconst hx hb (3) dL_law_523 (by decide) (fun x588 h589 => ?_)
        refine ty_iadd hx hb dL_law_524 (fun x590 h591 => ?_)
        try have h592 : x590.toInt = x30.toInt + x588.toInt := ty_add h591 (by omega) (by omega)
        refine va_sld hx hb hXs hbl hbA hS (i := x590) (ty_ix (by omega)) dL_law_525 ?_
        rw [lw_same (j := x590) s558 (by omega)]
        refine lv_aload_n hx hb dL_law_526 rfl (lv_at hl 4 rfl) ?_
        refine lv_iload hx hb dL_law_527 (lv_at hl 0 rfl) ?_
        refine ty_iconst hx hb (4) dL_law_529 (by decide) (fun x593 h594 => ?_)
        refine ty_iadd hx hb dL_law_530 (fun x595 h596 => ?_)
        try have h597 : x595.toInt = x30.toInt + x593.toInt := ty_add h596 (by omega) (by omega)
        refine va_sld hx hb hXs hbl hbA hS (i := x595) (ty_ix (by omega)) dL_law_531 ?_
        rw [lw_same (j := x595) s565 (by omega)]
        refine lv_aload_n hx hb dL_law_532 rfl (lv_at hl 4 rfl) ?_
        refine lv_iload hx hb dL_law_533 (lv_at hl 0 rfl) ?_
        refine ty_iconst hx hb (5) dL_law_535 (by decide) (fun x598 h599 => ?_)
        refine ty_iadd hx hb dL_law_536 (fun x600 h601 => ?_)
        try have h602 : x600.toInt = x30.toInt + x598.toInt := ty_add h601 (by omega) (by omega)
        refine va_sld hx hb hXs hbl hbA hS (i := x600) (ty_ix (by omega)) dL_law_537 ?_
        rw [lw_same (j := x600) s572 (by omega)]
        have hk603 : g16 126 0 = g 126 0 := hf19 126 0 (by decide)
        refine cI (va_runV (C := RX9) (As := [.int x543, .int x550, .int x557, .int x564, .int x571]) (rest := [.int x576]) ⟨hx, hb, hml, hown, hA⟩ (f_X9_wish l dC dI dA sz X Γ26 hU g16 q12 t_q12 x543 x550 x557 x564 x571   (by omega)) ⟨callB_of 5 hA (al_A wd_5_136) rfl rfl rfl (hA _ wd_1_7) (hA _ wd_5_133) (by decide +kernel) ⟨Nat.le_of_ble_eq_true rfl, Nat.le_of_ble_eq_true rfl⟩, hA _ wd_5_134, hA _ wd_5_135⟩ ⟨bl, recv_X9 hE hG t_q12, fun U hU9 hW9 => ⟨rfl, by rw [hU9]; exact hG, hE.go hS hU9 hW9⟩⟩ rfl rfl hl.1 rfl (lv_room (Nat.le_of_ble_eq_true rfl)) dL_law_538 ⟨Nat.le_of_ble_eq_true rfl, Nat.le_of_ble_eq_true rfl⟩) hS (fun x606 u604 H locs w605 hG hS => ?_)
        obtain ⟨hf607, w605⟩ := w605
        refine ty_icmp_eq (tgt := 1075) hx hb dL_law_541 (by decide) (fun c608 => ?_) (fun c608 => ?_)
        · skip
          obtain ⟨x609, h610⟩ : ∃ y : Int32, y = x30 + Int32.ofInt (6) := ⟨_, rfl⟩
          try have h611 : x609.toInt = x30.toInt + (6) := ty_inc h610 (by decide) (by omega) (by omega)
          refine lv_iinc (v := x609) (lv' := [(4, .int x609), (3, .ref q25), (2, .ref q12), (1, .ref q1), (0, .ref b)]) hx hb dL_law_1075 hl (k := 0) rfl h610.symm (by decide) rfl (fun ls hl => ?_)
          refine lv_goto (tgt := 23) hx hb dL_law_1078 (by decide) ?_
          refine lv_iload hx hb dL_law_23 (lv_at hl 0 rfl) ?_
          refine lv_aload_n hx hb dL_law_25 rfl (lv_at hl 4 rfl) ?_
          refine va_slen hx hb hXs hbl hbA hS dL_law_26 ?_
          refine lv_topi (fun x612 h613 => ?_)
          have h614 := lw_len h613 hLN
          refine ty_bipush hx hb (6) dL_law_27 (by decide) (fun x615 h616 => ?_)
          refine ty_isub hx hb dL_law_29 (fun x617 h618 => ?_)
          try have h619 : x617.toInt = x612.toInt - x615.toInt := ty_sub h618 (by omega) (by omega)
          refine ty_icmp_gt (tgt := 1081) hx hb dL_law_30 (by decide) (fun c620 => ?_) (fun c620 => ?_)
          · skip
            refine ty_iconst hx hb (1) dL_law_1081 (by decide) (fun x621 h622 => ?_)
            obtain rfl : x621 = 1 := ty_eq32.mpr (by rw [Int32.toInt_one]; omega)
            refine va_forget (fun q hq => hsz ▸ hS.2.2 q hq) ?_
            refine W.widen (k := 600002) (n := 7302232) (Nat.le_of_ble_eq_true rfl) (Nat.le_of_ble_eq_true rfl) ?_
            exact lw_ret hx hb hr hlocks dL_law_1082
          · exfalso; omega
        · exfalso; omega
      · skip
        refine lv_tableIn (tgt := 546) (off := 506) hx hb dL_law_40 (by omega) (by omega) (by rw [q74]; rfl) (by decide) ?_
        refine lv_aload_n hx hb dL_law_546 rfl (lv_at hl 3 rfl) ?_
        refine lv_aload_n hx hb dL_law_547 rfl (lv_at hl 4 rfl) ?_
        refine lv_iload hx hb dL_law_548 (lv_at hl 0 rfl) ?_
        refine ty_iconst hx hb (1) dL_law_550 (by decide) (fun x623 h624 => ?_)
        refine ty_iadd hx hb dL_law_551 (fun x625 h626 => ?_)
        try have h627 : x625.toInt = x30.toInt + x623.toInt := ty_add h626 (by omega) (by omega)
        refine va_sld hx hb hXs hbl hbA hS (i := x625) (ty_ix (by omega)) dL_law_552 ?_
        refine lv_topi (fun x628 s629 => ?_)
        refine lv_aload_n hx hb dL_law_553 rfl (lv_at hl 4 rfl) ?_
        refine lv_iload hx hb dL_law_554 (lv_at hl 0 rfl) ?_
        refine ty_iconst hx hb (2) dL_law_556 (by decide) (fun x630 h631 => ?_)
        refine ty_iadd hx hb dL_law_557 (fun x632 h633 => ?_)
        try have h634 : x632.toInt = x30.toInt + x630.toInt := ty_add h633 (by omega) (by omega)
        refine va_sld hx hb hXs hbl hbA hS (i := x632) (ty_ix (by omega)) dL_law_558 ?_
        refine lv_topi (fun x635 s636 => ?_)
        refine lv_aload_n hx hb dL_law_559 rfl (lv_at hl 4 rfl) ?_
        refine lv_iload hx hb dL_law_560 (lv_at hl 0 rfl) ?_
        refine ty_iconst hx hb (3) dL_law_562 (by decide) (fun x637 h638 => ?_)
        refine ty_iadd hx hb dL_law_563 (fun x639 h640 => ?_)
        try have h641 : x639.toInt = x30.toInt + x637.toInt := ty_add h640 (by omega) (by omega)
        refine va_sld hx hb hXs hbl hbA hS (i := x639) (ty_ix (by omega)) dL_law_564 ?_
        refine lv_topi (fun x642 s643 => ?_)
        refine lv_aload_n hx hb dL_law_565 rfl (lv_at hl 4 rfl) ?_
        refine lv_iload hx hb dL_law_566 (lv_at hl 0 rfl) ?_
        refine ty_iconst hx hb (4) dL_law_568 (by decide) (fun x644 h645 => ?_)
        refine ty_iadd hx hb dL_law_569 (fun x646 h647 => ?_)
        try have h648 : x646.toInt = x30.toInt + x644.toInt := ty_add h647 (by omega) (by omega)
        refine va_sld hx hb hXs hbl hbA hS (i := x646) (ty_ix (by omega)) dL_law_570 ?_
        refine lv_topi (fun x649 s650 => ?_)
        refine lv_aload_n hx hb dL_law_571 rfl (lv_at hl 4 rfl) ?_
        refine lv_iload hx hb dL_law_572 (lv_at hl 0 rfl) ?_
        refine ty_iconst hx hb (5) dL_law_574 (by decide) (fun x651 h652 => ?_)
        refine ty_iadd hx hb dL_law_575 (fun x653 h654 => ?_)
        try have h655 : x653.toInt = x30.toInt + x651.toInt := ty_add h654 (by omega) (by omega)
        refine va_sld hx hb hXs hbl hbA hS (i := x653) (ty_ix (by omega)) dL_law_576 ?_
        refine lv_topi (fun x656 s657 => ?_)
        have hk658 : g16 2 0 = g 2 0 := hf19 2 0 (by decide)
        refine cI (va_runV (C := RX8) (As := [.int x628, .int x635, .int x642, .int x649, .int x656]) (rest := []) ⟨hx, hb, hml, hown, hA⟩ (f_X8_rushWish l dC dI dA sz X Γ26 hU g16 q1 t_q1 x628 x635 x642 x649 x656   (by omega)) ⟨callB_of 5 hA (al_A wd_3_106) rfl rfl rfl (hA _ wd_1_1) (hA _ wd_3_103) (by decide +kernel) ⟨Nat.le_of_ble_eq_true rfl, Nat.le_of_ble_eq_true rfl⟩, hA _ wd_3_104, hA _ wd_3_105⟩ ⟨bl, recv_X8 hE hG t_q1, fun U hU9 hW9 => ⟨rfl, by rw [hU9]; exact hG, hE.go hS hU9 hW9⟩⟩ rfl rfl hl.1 rfl (lv_room (Nat.le_of_ble_eq_true rfl)) dL_law_577 ⟨Nat.le_of_ble_eq_true rfl, Nat.le_of_ble_eq_true rfl⟩) hS (fun x661 u659 H locs w660 hG hS => ?_)
        obtain ⟨eu662, w660⟩ := w660
        rw [eu662] at hG
        refine lv_aload_n hx hb dL_law_580 rfl (lv_at hl 2 rfl) ?_
        refine lv_aload_n hx hb dL_law_581 rfl (lv_at hl 4 rfl) ?_
        refine lv_iload hx hb dL_law_582 (lv_at hl 0 rfl) ?_
        refine ty_iconst hx hb (1) dL_law_584 (by decide) (fun x663 h664 => ?_)
        refine ty_iadd hx hb dL_law_585 (fun x665 h666 => ?_)
        try have h667 : x665.toInt = x30.toInt + x663.toInt := ty_add h666 (by omega) (by omega)
        refine va_sld hx hb hXs hbl hbA hS (i := x665) (ty_ix (by omega)) dL_law_586 ?_
        rw [lw_same (j := x665) s629 (by omega)]
        refine lv_aload_n hx hb dL_law_587 rfl (lv_at hl 4 rfl) ?_
        refine lv_iload hx hb dL_law_588 (lv_at hl 0 rfl) ?_
        refine ty_iconst hx hb (2) dL_law_590 (by decide) (fun x668 h669 => ?_)
        refine ty_iadd hx hb dL_law_591 (fun x670 h671 => ?_)
        try have h672 : x670.toInt = x30.toInt + x668.toInt := ty_add h671 (by omega) (by omega)
        refine va_sld hx hb hXs hbl hbA hS (i := x670) (ty_ix (by omega)) dL_law_592 ?_
        rw [lw_same (j := x670) s636 (by omega)]
        refine lv_aload_n hx hb dL_law_593 rfl (lv_at hl 4 rfl) ?_
        refine lv_iload hx hb dL_law_594 (lv_at hl 0 rfl) ?_
        refine ty_iconst hx hb (3) dL_law_596 (by decide) (fun x673 h674 => ?_)
        refine ty_iadd hx hb dL_law_597 (fun x675 h676 => ?_)
        try have h677 : x675.toInt = x30.toInt + x673.toInt := ty_add h676 (by omega) (by omega)
        refine va_sld hx hb hXs hbl hbA hS (i := x675) (ty_ix (by omega)) dL_law_598 ?_
        rw [lw_same (j := x675) s643 (by omega)]
        refine lv_aload_n hx hb dL_law_599 rfl (lv_at hl 4 rfl) ?_
        refine lv_iload hx hb dL_law_600 (lv_at hl 0 rfl) ?_
        refine ty_iconst hx hb (4) dL_law_602 (by decide) (fun x678 h679 => ?_)
        refine ty_iadd hx hb dL_law_603 (fun x680 h681 => ?_)
        try have h682 : x680.toInt = x30.toInt + x678.toInt := ty_add h681 (by omega) (by omega)
        refine va_sld hx hb hXs hbl hbA hS (i := x680) (ty_ix (by omega)) dL_law_604 ?_
        rw [lw_same (j := x680) s650 (by omega)]
        refine lv_aload_n hx hb dL_law_605 rfl (lv_at hl 4 rfl) ?_
        refine lv_iload hx hb dL_law_606 (lv_at hl 0 rfl) ?_
        refine ty_iconst hx hb (5) dL_law_608 (by decide) (fun x683 h684 => ?_)
        refine ty_iadd hx hb dL_law_609 (fun x685 h686 => ?_)
        try have h687 : x685.toInt = x30.toInt + x683.toInt := ty_add h686 (by omega) (by omega)
        refine va_sld hx hb hXs hbl hbA hS (i := x685) (ty_ix (by omega)) dL_law_610 ?_
        rw [lw_same (j := x685) s657 (by omega)]
        have hk688 : g16 104 0 = g 104 0 := hf19 104 0 (by decide)
        refine cI (va_runV (C := RX9) (As := [.int x628, .int x635, .int x642, .int x649, .int x656]) (rest := [.int x661]) ⟨hx, hb, hml, hown, hA⟩ (f_X9_rushWish l dC dI dA sz X Γ26 hU g16 q12 t_q12 x628 x635 x642 x649 x656   (by omega)) ⟨callB_of 5 hA (al_A wd_5_148) rfl rfl rfl (hA _ wd_1_7) (hA _ wd_5_145) (by decide +kernel) ⟨Nat.le_of_ble_eq_true rfl, Nat.le_of_ble_eq_true rfl⟩, hA _ wd_5_146, hA _ wd_5_147⟩ ⟨bl, recv_X9 hE hG t_q12, fun U hU9 hW9 => ⟨rfl, by rw [hU9]; exact hG, hE.go hS hU9 hW9⟩⟩ rfl rfl hl.1 rfl (lv_room (Nat.le_of_ble_eq_true rfl)) dL_law_611 ⟨Nat.le_of_ble_eq_true rfl, Nat.le_of_ble_eq_true rfl⟩) hS (fun x691 u689 H locs w690 hG hS => ?_)
        obtain ⟨hf692, w690⟩ := w690
        refine ty_icmp_eq (tgt := 1075) hx hb dL_law_614 (by decide) (fun c693 => ?_) (fun c693 => ?_)
        · skip
          obtain ⟨x694, h695⟩ : ∃ y : Int32, y = x30 + Int32.ofInt (6) := ⟨_, rfl⟩
          try have h696 : x694.toInt = x30.toInt + (6) := ty_inc h695 (by decide) (by omega) (by omega)
          refine lv_iinc (v := x694) (lv' := [(4, .int x694), (3, .ref q25), (2, .ref q12), (1, .ref q1), (0, .ref b)]) hx hb dL_law_1075 hl (k := 0) rfl h695.symm (by decide) rfl (fun ls hl => ?_)
          refine lv_goto (tgt := 23) hx hb dL_law_1078 (by decide) ?_
          refine lv_iload hx hb dL_law_23 (lv_at hl 0 rfl) ?_
          refine lv_aload_n hx hb dL_law_25 rfl (lv_at hl 4 rfl) ?_
          refine va_slen hx hb hXs hbl hbA hS dL_law_26 ?_
          refine lv_topi (fun x697 h698 => ?_)
          have h699 := lw_len h698 hLN
          refine ty_bipush hx hb (6) dL_law_27 (by decide) (fun x700 h701 => ?_)
          refine ty_isub hx hb dL_law_29 (fun x702 h703 => ?_)
          try have h704 : x702.toInt = x697.toInt - x700.toInt := ty_sub h703 (by omega) (by omega)
          refine ty_icmp_gt (tgt := 1081) hx hb dL_law_30 (by decide) (fun c705 => ?_) (fun c705 => ?_)
          · skip
            refine ty_iconst hx hb (1) dL_law_1081 (by decide) (fun x706 h707 => ?_)
            obtain rfl : x706 = 1 := ty_eq32.mpr (by rw [Int32.toInt_one]; omega)
            refine va_forget (fun q hq => hsz ▸ hS.2.2 q hq) ?_
            refine W.widen (k := 600002) (n := 7302232) (Nat.le_of_ble_eq_true rfl) (Nat.le_of_ble_eq_true rfl) ?_
            exact lw_ret hx hb hr hlocks dL_law_1082
          · exfalso; omega
        · exfalso; omega
      · skip
        refine lv_tableIn (tgt := 619) (off := 579) hx hb dL_law_40 (by omega) (by omega) (by rw [q75]; rfl) (by decide) ?_
        refine lv_aload_n hx hb dL_law_619 rfl (lv_at hl 3 rfl) ?_
        refine lv_aload_n hx hb dL_law_620 rfl (lv_at hl 4 rfl) ?_
        refine lv_iload hx hb dL_law_621 (lv_at hl 0 rfl) ?_
        refine ty_iconst hx hb (1) dL_law_623 (by decide) (fun x708 h709 => ?_)
        refine ty_iadd hx hb dL_law_624 (fun x710 h711 => ?_)
        try have h712 : x710.toInt = x30.toInt + x708.toInt := ty_add h711 (by omega) (by omega)
        refine va_sld hx hb hXs hbl hbA hS (i := x710) (ty_ix (by omega)) dL_law_625 ?_
        refine lv_topi (fun x713 s714 => ?_)
        have hk715 : g16 3 0 = g 3 0 := hf19 3 0 (by decide)
        refine cI (va_runV (C := RX8) (As := [.int x713]) (rest := []) ⟨hx, hb, hml, hown, hA⟩ (f_X8_rings l dC dI dA sz X Γ26 hU g16 q1 t_q1 x713   (by omega)) ⟨callB_of 1 hA (al_A wd_3_110) rfl rfl rfl (hA _ wd_1_1) (hA _ wd_3_107) (by decide +kernel) ⟨Nat.le_of_ble_eq_true rfl, Nat.le_of_ble_eq_true rfl⟩, hA _ wd_3_108, hA _ wd_3_109⟩ ⟨bl, recv_X8 hE hG t_q1, fun U hU9 hW9 => ⟨rfl, by rw [hU9]; exact hG, hE.go hS hU9 hW9⟩⟩ rfl rfl hl.1 rfl (lv_room (Nat.le_of_ble_eq_true rfl)) dL_law_626 ⟨Nat.le_of_ble_eq_true rfl, Nat.le_of_ble_eq_true rfl⟩) hS (fun x718 u716 H locs w717 hG hS => ?_)
        obtain ⟨hf719, w717⟩ := w717
        refine lv_aload_n hx hb dL_law_629 rfl (lv_at hl 2 rfl) ?_
        refine lv_aload_n hx hb dL_law_630 rfl (lv_at hl 4 rfl) ?_
        refine lv_iload hx hb dL_law_631 (lv_at hl 0 rfl) ?_
        refine ty_iconst hx hb (1) dL_law_633 (by decide) (fun x720 h721 => ?_)
        refine ty_iadd hx hb dL_law_634 (fun x722 h723 => ?_)
        try have h724 : x722.toInt = x30.toInt + x720.toInt := ty_add h723 (by omega) (by omega)
        refine va_sld hx hb hXs hbl hbA hS (i := x722) (ty_ix (by omega)) dL_law_635 ?_
        rw [lw_same (j := x722) s714 (by omega)]
        have hk725 : u716 126 0 = g16 126 0 := hf719 126 0 (by decide) (by decide)
        have hk726 : g16 126 0 = g 126 0 := hf19 126 0 (by decide)
        refine cI (va_runV (C := RX9) (As := [.int x713]) (rest := [.int x718]) ⟨hx, hb, hml, hown, hA⟩ (f_X9_rings l dC dI dA sz X Γ26 hU u716 q12 t_q12 x713   (by omega)) ⟨callB_of 1 hA (al_A wd_5_152) rfl rfl rfl (hA _ wd_1_7) (hA _ wd_5_149) (by decide +kernel) ⟨Nat.le_of_ble_eq_true rfl, Nat.le_of_ble_eq_true rfl⟩, hA _ wd_5_150, hA _ wd_5_151⟩ ⟨bl, recv_X9 hE hG t_q12, fun U hU9 hW9 => ⟨rfl, by rw [hU9]; exact hG, hE.go hS hU9 hW9⟩⟩ rfl rfl hl.1 rfl (lv_room (Nat.le_of_ble_eq_true rfl)) dL_law_636 ⟨Nat.le_of_ble_eq_true rfl, Nat.le_of_ble_eq_true rfl⟩) hS (fun x729 u727 H locs w728 hG hS => ?_)
        obtain ⟨hf730, w728⟩ := w728
        refine ty_icmp_eq (tgt := 1075) hx hb dL_law_639 (by decide) (fun c731 => ?_) (fun c731 => ?_)
        · skip
          obtain ⟨x732, h733⟩ : ∃ y : Int32, y = x30 + Int32.ofInt (6) := ⟨_, rfl⟩
          try have h734 : x732.toInt = x30.toInt + (6) := ty_inc h733 (by decide) (by omega) (by omega)
          refine lv_iinc (v := x732) (lv' := [(4, .int x732), (3, .ref q25), (2, .ref q12), (1, .ref q1), (0, .ref b)]) hx hb dL_law_1075 hl (k := 0) rfl h733.symm (by decide) rfl (fun ls hl => ?_)
          refine lv_goto (tgt := 23) hx hb dL_law_1078 (by decide) ?_
          refine lv_iload hx hb dL_law_23 (lv_at hl 0 rfl) ?_
          refine lv_aload_n hx hb dL_law_25 rfl (lv_at hl 4 rfl) ?_
          refine va_slen hx hb hXs hbl hbA hS dL_law_26 ?_
          refine lv_topi (fun x735 h736 => ?_)
          have h737 := lw_len h736 hLN
          refine ty_bipush hx hb (6) dL_law_27 (by decide) (fun x738 h739 => ?_)
          refine ty_isub hx hb dL_law_29 (fun x740 h741 => ?_)
          try have h742 : x740.toInt = x735.toInt - x738.toInt := ty_sub h741 (by omega) (by omega)
          refine ty_icmp_gt (tgt := 1081) hx hb dL_law_30 (by decide) (fun c743 => ?_) (fun c743 => ?_)
          · skip
            refine ty_iconst hx hb (1) dL_law_1081 (by decide) (fun x744 h745 => ?_)
            obtain rfl : x744 = 1 := ty_eq32.mpr (by rw [Int32.toInt_one]; omega)
            refine va_forget (fun q hq => hsz ▸ hS.2.2 q hq) ?_
            refine W.widen (k := 600002) (n := 7302232) (Nat.le_of_ble_eq_true rfl) (Nat.le_of_ble_eq_true rfl) ?_
            exact lw_ret hx hb hr hlocks dL_law_1082
          · exfalso; omega
        · exfalso; omega
      · skip
        refine lv_tableIn (tgt := 644) (off := 604) hx hb dL_law_40 (by omega) (by omega) (by rw [q76]; rfl) (by decide) ?_
        refine lv_aload_n hx hb dL_law_644 rfl (lv_at hl 3 rfl) ?_
        refine lv_aload_n hx hb dL_law_645 rfl (lv_at hl 4 rfl) ?_
        refine lv_iload hx hb dL_law_646 (lv_at hl 0 rfl) ?_
        refine ty_iconst hx hb (1) dL_law_648 (by decide) (fun x746 h747 => ?_)
        refine ty_iadd hx hb dL_law_649 (fun x748 h749 => ?_)
        try have h750 : x748.toInt = x30.toInt + x746.toInt := ty_add h749 (by omega) (by omega)
        refine va_sld hx hb hXs hbl hbA hS (i := x748) (ty_ix (by omega)) dL_law_650 ?_
        refine lv_topi (fun x751 s752 => ?_)
        have hk753 : g16 3 0 = g 3 0 := hf19 3 0 (by decide)
        refine cI (va_runV (C := RX8) (As := [.int x751]) (rest := []) ⟨hx, hb, hml, hown, hA⟩ (f_X8_bank l dC dI dA sz X Γ26 hU g16 q1 t_q1 x751   (by omega)) ⟨callB_of 1 hA (al_A wd_3_186) rfl rfl rfl (hA _ wd_1_1) (hA _ wd_3_183) (by decide +kernel) ⟨Nat.le_of_ble_eq_true rfl, Nat.le_of_ble_eq_true rfl⟩, hA _ wd_3_184, hA _ wd_3_185⟩ ⟨bl, recv_X8 hE hG t_q1, fun U hU9 hW9 => ⟨rfl, by rw [hU9]; exact hG, hE.go hS hU9 hW9⟩⟩ rfl rfl hl.1 rfl (lv_room (Nat.le_of_ble_eq_true rfl)) dL_law_651 ⟨Nat.le_of_ble_eq_true rfl, Nat.le_of_ble_eq_true rfl⟩) hS (fun x756 u754 H locs w755 hG hS => ?_)
        obtain ⟨eu757, w755⟩ := w755
        rw [eu757] at hG
        refine lv_aload_n hx hb dL_law_654 rfl (lv_at hl 2 rfl) ?_
        refine lv_aload_n hx hb dL_law_655 rfl (lv_at hl 4 rfl) ?_
        refine lv_iload hx hb dL_law_656 (lv_at hl 0 rfl) ?_
        refine ty_iconst hx hb (1) dL_law_658 (by decide) (fun x758 h759 => ?_)
        refine ty_iadd hx hb dL_law_659 (fun x760 h761 => ?_)
        try have h762 : x760.toInt = x30.toInt + x758.toInt := ty_add h761 (by omega) (by omega)
        refine va_sld hx hb hXs hbl hbA hS (i := x760) (ty_ix (by omega)) dL_law_660 ?_
        rw [lw_same (j := x760) s752 (by omega)]
        have hk763 : g16 126 0 = g 126 0 := hf19 126 0 (by decide)
        refine cI (va_runV (C := RX9) (As := [.int x751]) (rest := [.int x756]) ⟨hx, hb, hml, hown, hA⟩ (f_X9_bank l dC dI dA sz X Γ26 hU g16 q12 t_q12 x751   (by omega)) ⟨callB_of 1 hA (al_A wd_5_172) rfl rfl rfl (hA _ wd_1_7) (hA _ wd_5_169) (by decide +kernel) ⟨Nat.le_of_ble_eq_true rfl, Nat.le_of_ble_eq_true rfl⟩, hA _ wd_5_170, hA _ wd_5_171⟩ ⟨bl, recv_X9 hE hG t_q12, fun U hU9 hW9 => ⟨rfl, by rw [hU9]; exact hG, hE.go hS hU9 hW9⟩⟩ rfl rfl hl.1 rfl (lv_room (Nat.le_of_ble_eq_true rfl)) dL_law_661 ⟨Nat.le_of_ble_eq_true rfl, Nat.le_of_ble_eq_true rfl⟩) hS (fun x766 u764 H locs w765 hG hS => ?_)
        obtain ⟨hf767, w765⟩ := w765
        refine ty_icmp_eq (tgt := 1075) hx hb dL_law_664 (by decide) (fun c768 => ?_) (fun c768 => ?_)
        · skip
          obtain ⟨x769, h770⟩ : ∃ y : Int32, y = x30 + Int32.ofInt (6) := ⟨_, rfl⟩
          try have h771 : x769.toInt = x30.toInt + (6) := ty_inc h770 (by decide) (by omega) (by omega)
          refine lv_iinc (v := x769) (lv' := [(4, .int x769), (3, .ref q25), (2, .ref q12), (1, .ref q1), (0, .ref b)]) hx hb dL_law_1075 hl (k := 0) rfl h770.symm (by decide) rfl (fun ls hl => ?_)
          refine lv_goto (tgt := 23) hx hb dL_law_1078 (by decide) ?_
          refine lv_iload hx hb dL_law_23 (lv_at hl 0 rfl) ?_
          refine lv_aload_n hx hb dL_law_25 rfl (lv_at hl 4 rfl) ?_
          refine va_slen hx hb hXs hbl hbA hS dL_law_26 ?_
          refine lv_topi (fun x772 h773 => ?_)
          have h774 := lw_len h773 hLN
          refine ty_bipush hx hb (6) dL_law_27 (by decide) (fun x775 h776 => ?_)
          refine ty_isub hx hb dL_law_29 (fun x777 h778 => ?_)
          try have h779 : x777.toInt = x772.toInt - x775.toInt := ty_sub h778 (by omega) (by omega)
          refine ty_icmp_gt (tgt := 1081) hx hb dL_law_30 (by decide) (fun c780 => ?_) (fun c780 => ?_)
          · skip
            refine ty_iconst hx hb (1) dL_law_1081 (by decide) (fun x781 h782 => ?_)
            obtain rfl : x781 = 1 := ty_eq32.mpr (by rw [Int32.toInt_one]; omega)
            refine va_forget (fun q hq => hsz ▸ hS.2.2 q hq) ?_
            refine W.widen (k := 600002) (n := 7302232) (Nat.le_of_ble_eq_true rfl) (Nat.le_of_ble_eq_true rfl) ?_
            exact lw_ret hx hb hr hlocks dL_law_1082
          · exfalso; omega
        · exfalso; omega
      · skip
        refine lv_tableIn (tgt := 669) (off := 629) hx hb dL_law_40 (by omega) (by omega) (by rw [q77]; rfl) (by decide) ?_
        refine lv_aload_n hx hb dL_law_669 rfl (lv_at hl 3 rfl) ?_
        refine lv_aload_n hx hb dL_law_670 rfl (lv_at hl 4 rfl) ?_
        refine lv_iload hx hb dL_law_671 (lv_at hl 0 rfl) ?_
        refine ty_iconst hx hb (1) dL_law_673 (by decide) (fun x783 h784 => ?_)
        refine ty_iadd hx hb dL_law_674 (fun x785 h786 => ?_)
        try have h787 : x785.toInt = x30.toInt + x783.toInt := ty_add h786 (by omega) (by omega)
        refine va_sld hx hb hXs hbl hbA hS (i := x785) (ty_ix (by omega)) dL_law_675 ?_
        refine lv_topi (fun x788 s789 => ?_)
        refine lv_aload_n hx hb dL_law_676 rfl (lv_at hl 4 rfl) ?_
        refine lv_iload hx hb dL_law_677 (lv_at hl 0 rfl) ?_
        refine ty_iconst hx hb (2) dL_law_679 (by decide) (fun x790 h791 => ?_)
        refine ty_iadd hx hb dL_law_680 (fun x792 h793 => ?_)
        try have h794 : x792.toInt = x30.toInt + x790.toInt := ty_add h793 (by omega) (by omega)
        refine va_sld hx hb hXs hbl hbA hS (i := x792) (ty_ix (by omega)) dL_law_681 ?_
        refine lv_topi (fun x795 s796 => ?_)
        have hk797 : g16 2 0 = g 2 0 := hf19 2 0 (by decide)
        have hk798 : g16 3 0 = g 3 0 := hf19 3 0 (by decide)
        refine cI (va_runV (C := RX8) (As := [.int x788, .int x795]) (rest := []) ⟨hx, hb, hml, hown, hA⟩ (f_X8_take l dC dI dA sz X Γ26 hU g16 q1 t_q1 x788 x795   (by omega) (by omega)) ⟨callB_of 2 hA (al_A wd_3_190) rfl rfl rfl (hA _ wd_1_1) (hA _ wd_3_187) (by decide +kernel) ⟨Nat.le_of_ble_eq_true rfl, Nat.le_of_ble_eq_true rfl⟩, hA _ wd_3_188, hA _ wd_3_189⟩ ⟨bl, recv_X8 hE hG t_q1, fun U hU9 hW9 => ⟨rfl, by rw [hU9]; exact hG, hE.go hS hU9 hW9⟩⟩ rfl rfl hl.1 rfl (lv_room (Nat.le_of_ble_eq_true rfl)) dL_law_682 ⟨Nat.le_of_ble_eq_true rfl, Nat.le_of_ble_eq_true rfl⟩) hS (fun x801 u799 H locs w800 hG hS => ?_)
        obtain ⟨eu802, w800⟩ := w800
        rw [eu802] at hG
        refine lv_aload_n hx hb dL_law_685 rfl (lv_at hl 2 rfl) ?_
        refine lv_aload_n hx hb dL_law_686 rfl (lv_at hl 4 rfl) ?_
        refine lv_iload hx hb dL_law_687 (lv_at hl 0 rfl) ?_
        refine ty_iconst hx hb (1) dL_law_689 (by decide) (fun x803 h804 => ?_)
        refine ty_iadd hx hb dL_law_690 (fun x805 h806 => ?_)
        try have h807 : x805.toInt = x30.toInt + x803.toInt := ty_add h806 (by omega) (by omega)
        refine va_sld hx hb hXs hbl hbA hS (i := x805) (ty_ix (by omega)) dL_law_691 ?_
        rw [lw_same (j := x805) s789 (by omega)]
        refine lv_aload_n hx hb dL_law_692 rfl (lv_at hl 4 rfl) ?_
        refine lv_iload hx hb dL_law_693 (lv_at hl 0 rfl) ?_
        refine ty_iconst hx hb (2) dL_law_695 (by decide) (fun x808 h809 => ?_)
        refine ty_iadd hx hb dL_law_696 (fun x810 h811 => ?_)
        try have h812 : x810.toInt = x30.toInt + x808.toInt := ty_add h811 (by omega) (by omega)
        refine va_sld hx hb hXs hbl hbA hS (i := x810) (ty_ix (by omega)) dL_law_697 ?_
        rw [lw_same (j := x810) s796 (by omega)]
        have hk813 : g16 104 0 = g 104 0 := hf19 104 0 (by decide)
        refine cI (va_runV (C := RX9) (As := [.int x788, .int x795]) (rest := [.int x801]) ⟨hx, hb, hml, hown, hA⟩ (f_X9_take l dC dI dA sz X Γ26 hU g16 q12 t_q12 x788 x795   (by omega)) ⟨callB_of 2 hA (al_A wd_5_176) rfl rfl rfl (hA _ wd_1_7) (hA _ wd_5_173) (by decide +kernel) ⟨Nat.le_of_ble_eq_true rfl, Nat.le_of_ble_eq_true rfl⟩, hA _ wd_5_174, hA _ wd_5_175⟩ ⟨bl, recv_X9 hE hG t_q12, fun U hU9 hW9 => ⟨rfl, by rw [hU9]; exact hG, hE.go hS hU9 hW9⟩⟩ rfl rfl hl.1 rfl (lv_room (Nat.le_of_ble_eq_true rfl)) dL_law_698 ⟨Nat.le_of_ble_eq_true rfl, Nat.le_of_ble_eq_true rfl⟩) hS (fun x816 u814 H locs w815 hG hS => ?_)
        obtain ⟨hf817, w815⟩ := w815
        refine ty_icmp_eq (tgt := 1075) hx hb dL_law_701 (by decide) (fun c818 => ?_) (fun c818 => ?_)
        · skip
          obtain ⟨x819, h820⟩ : ∃ y : Int32, y = x30 + Int32.ofInt (6) := ⟨_, rfl⟩
          try have h821 : x819.toInt = x30.toInt + (6) := ty_inc h820 (by decide) (by omega) (by omega)
          refine lv_iinc (v := x819) (lv' := [(4, .int x819), (3, .ref q25), (2, .ref q12), (1, .ref q1), (0, .ref b)]) hx hb dL_law_1075 hl (k := 0) rfl h820.symm (by decide) rfl (fun ls hl => ?_)
          refine lv_goto (tgt := 23) hx hb dL_law_1078 (by decide) ?_
          refine lv_iload hx hb dL_law_23 (lv_at hl 0 rfl) ?_
          refine lv_aload_n hx hb dL_law_25 rfl (lv_at hl 4 rfl) ?_
          refine va_slen hx hb hXs hbl hbA hS dL_law_26 ?_
          refine lv_topi (fun x822 h823 => ?_)
          have h824 := lw_len h823 hLN
          refine ty_bipush hx hb (6) dL_law_27 (by decide) (fun x825 h826 => ?_)
          refine ty_isub hx hb dL_law_29 (fun x827 h828 => ?_)
          try have h829 : x827.toInt = x822.toInt - x825.toInt := ty_sub h828 (by omega) (by omega)
          refine ty_icmp_gt (tgt := 1081) hx hb dL_law_30 (by decide) (fun c830 => ?_) (fun c830 => ?_)
          · skip
            refine ty_iconst hx hb (1) dL_law_1081 (by decide) (fun x831 h832 => ?_)
            obtain rfl : x831 = 1 := ty_eq32.mpr (by rw [Int32.toInt_one]; omega)
            refine va_forget (fun q hq => hsz ▸ hS.2.2 q hq) ?_
            refine W.widen (k := 600002) (n := 7302232) (Nat.le_of_ble_eq_true rfl) (Nat.le_of_ble_eq_true rfl) ?_
            exact lw_ret hx hb hr hlocks dL_law_1082
          · exfalso; omega
        · exfalso; omega
      · skip
        refine lv_tableIn (tgt := 706) (off := 666) hx hb dL_law_40 (by omega) (by omega) (by rw [q78]; rfl) (by decide) ?_
        refine lv_aload_n hx hb dL_law_706 rfl (lv_at hl 3 rfl) ?_
        have hk833 : g16 2 0 = g 2 0 := hf19 2 0 (by decide)
        refine cI (va_runV (C := RX8) (As := []) (rest := []) ⟨hx, hb, hml, hown, hA⟩ (f_X8_rush l dC dI dA sz X Γ26 hU g16 q1 t_q1   (by omega)) ⟨callB_of 0 hA (al_A wd_3_198) rfl rfl rfl (hA _ wd_1_1) (hA _ wd_3_195) (by decide +kernel) ⟨Nat.le_of_ble_eq_true rfl, Nat.le_of_ble_eq_true rfl⟩, hA _ wd_3_196, hA _ wd_3_197⟩ ⟨bl, recv_X8 hE hG t_q1, fun U hU9 hW9 => ⟨rfl, by rw [hU9]; exact hG, hE.go hS hU9 hW9⟩⟩ rfl rfl hl.1 rfl (lv_room (Nat.le_of_ble_eq_true rfl)) dL_law_707 ⟨Nat.le_of_ble_eq_true rfl, Nat.le_of_ble_eq_true rfl⟩) hS (fun x836 u834 H locs w835 hG hS => ?_)
        obtain ⟨eu837, w835⟩ := w835
        rw [eu837] at hG
        refine lv_aload_n hx hb dL_law_710 rfl (lv_at hl 2 rfl) ?_
        have hk838 : g16 104 0 = g 104 0 := hf19 104 0 (by decide)
        refine cI (va_runV (C := RX9) (As := []) (rest := [.int x836]) ⟨hx, hb, hml, hown, hA⟩ (f_X9_rush l dC dI dA sz X Γ26 hU g16 q12 t_q12   (by omega)) ⟨callB_of 0 hA (al_A wd_5_184) rfl rfl rfl (hA _ wd_1_7) (hA _ wd_5_181) (by decide +kernel) ⟨Nat.le_of_ble_eq_true rfl, Nat.le_of_ble_eq_true rfl⟩, hA _ wd_5_182, hA _ wd_5_183⟩ ⟨bl, recv_X9 hE hG t_q12, fun U hU9 hW9 => ⟨rfl, by rw [hU9]; exact hG, hE.go hS hU9 hW9⟩⟩ rfl rfl hl.1 rfl (lv_room (Nat.le_of_ble_eq_true rfl)) dL_law_711 ⟨Nat.le_of_ble_eq_true rfl, Nat.le_of_ble_eq_true rfl⟩) hS (fun x841 u839 H locs w840 hG hS => ?_)
        obtain ⟨hf842, w840⟩ := w840
        refine ty_icmp_eq (tgt := 1075) hx hb dL_law_714 (by decide) (fun c843 => ?_) (fun c843 => ?_)
        · skip
          obtain ⟨x844, h845⟩ : ∃ y : Int32, y = x30 + Int32.ofInt (6) := ⟨_, rfl⟩
          try have h846 : x844.toInt = x30.toInt + (6) := ty_inc h845 (by decide) (by omega) (by omega)
          refine lv_iinc (v := x844) (lv' := [(4, .int x844), (3, .ref q25), (2, .ref q12), (1, .ref q1), (0, .ref b)]) hx hb dL_law_1075 hl (k := 0) rfl h845.symm (by decide) rfl (fun ls hl => ?_)
          refine lv_goto (tgt := 23) hx hb dL_law_1078 (by decide) ?_
          refine lv_iload hx hb dL_law_23 (lv_at hl 0 rfl) ?_
          refine lv_aload_n hx hb dL_law_25 rfl (lv_at hl 4 rfl) ?_
          refine va_slen hx hb hXs hbl hbA hS dL_law_26 ?_
          refine lv_topi (fun x847 h848 => ?_)
          have h849 := lw_len h848 hLN
          refine ty_bipush hx hb (6) dL_law_27 (by decide) (fun x850 h851 => ?_)
          refine ty_isub hx hb dL_law_29 (fun x852 h853 => ?_)
          try have h854 : x852.toInt = x847.toInt - x850.toInt := ty_sub h853 (by omega) (by omega)
          refine ty_icmp_gt (tgt := 1081) hx hb dL_law_30 (by decide) (fun c855 => ?_) (fun c855 => ?_)
          · skip
            refine ty_iconst hx hb (1) dL_law_1081 (by decide) (fun x856 h857 => ?_)
            obtain rfl : x856 = 1 := ty_eq32.mpr (by rw [Int32.toInt_one]; omega)
            refine va_forget (fun q hq => hsz ▸ hS.2.2 q hq) ?_
            refine W.widen (k := 600002) (n := 7302232) (Nat.le_of_ble_eq_true rfl) (Nat.le_of_ble_eq_true rfl) ?_
            exact lw_ret hx hb hr hlocks dL_law_1082
          · exfalso; omega
        · exfalso; omega
      · skip
        refine lv_tableIn (tgt := 719) (off := 679) hx hb dL_law_40 (by omega) (by omega) (by rw [q79]; rfl) (by decide) ?_
        refine lv_aload_n hx hb dL_law_719 rfl (lv_at hl 3 rfl) ?_
        refine lv_aload_n hx hb dL_law_720 rfl (lv_at hl 4 rfl) ?_
        refine lv_iload hx hb dL_law_721 (lv_at hl 0 rfl) ?_
        refine ty_iconst hx hb (1) dL_law_723 (by decide) (fun x858 h859 => ?_)
        refine ty_iadd hx hb dL_law_724 (fun x860 h861 => ?_)
        try have h862 : x860.toInt = x30.toInt + x858.toInt := ty_add h861 (by omega) (by omega)
        refine va_sld hx hb hXs hbl hbA hS (i := x860) (ty_ix (by omega)) dL_law_725 ?_
        refine lv_topi (fun x863 s864 => ?_)
        refine lv_aload_n hx hb dL_law_726 rfl (lv_at hl 4 rfl) ?_
        refine lv_iload hx hb dL_law_727 (lv_at hl 0 rfl) ?_
        refine ty_iconst hx hb (2) dL_law_729 (by decide) (fun x865 h866 => ?_)
        refine ty_iadd hx hb dL_law_730 (fun x867 h868 => ?_)
        try have h869 : x867.toInt = x30.toInt + x865.toInt := ty_add h868 (by omega) (by omega)
        refine va_sld hx hb hXs hbl hbA hS (i := x867) (ty_ix (by omega)) dL_law_731 ?_
        refine lv_topi (fun x870 s871 => ?_)
        refine lv_aload_n hx hb dL_law_732 rfl (lv_at hl 4 rfl) ?_
        refine lv_iload hx hb dL_law_733 (lv_at hl 0 rfl) ?_
        refine ty_iconst hx hb (3) dL_law_735 (by decide) (fun x872 h873 => ?_)
        refine ty_iadd hx hb dL_law_736 (fun x874 h875 => ?_)
        try have h876 : x874.toInt = x30.toInt + x872.toInt := ty_add h875 (by omega) (by omega)
        refine va_sld hx hb hXs hbl hbA hS (i := x874) (ty_ix (by omega)) dL_law_737 ?_
        refine lv_topi (fun x877 s878 => ?_)
        have hk879 : g16 1 0 = g 1 0 := hf19 1 0 (by decide)
        refine cI (va_runV (C := RX8) (As := [.int x863, .int x870, .int x877]) (rest := []) ⟨hx, hb, hml, hown, hA⟩ (f_X8_shut l dC dI dA sz X Γ26 hU g16 q1 t_q1 x863 x870 x877   (by omega)) ⟨callB_of 3 hA (al_A wd_3_211) rfl rfl rfl (hA _ wd_1_1) (hA _ wd_3_208) (by decide +kernel) ⟨Nat.le_of_ble_eq_true rfl, Nat.le_of_ble_eq_true rfl⟩, hA _ wd_3_209, hA _ wd_3_210⟩ ⟨bl, recv_X8 hE hG t_q1, fun U hU9 hW9 => ⟨rfl, by rw [hU9]; exact hG, hE.go hS hU9 hW9⟩⟩ rfl rfl hl.1 rfl (lv_room (Nat.le_of_ble_eq_true rfl)) dL_law_738 ⟨Nat.le_of_ble_eq_true rfl, Nat.le_of_ble_eq_true rfl⟩) hS (fun x882 u880 H locs w881 hG hS => ?_)
        obtain ⟨eu883, w881⟩ := w881
        rw [eu883] at hG
        refine lv_aload_n hx hb dL_law_741 rfl (lv_at hl 2 rfl) ?_
        refine lv_aload_n hx hb dL_law_742 rfl (lv_at hl 4 rfl) ?_
        refine lv_iload hx hb dL_law_743 (lv_at hl 0 rfl) ?_
        refine ty_iconst hx hb (1) dL_law_745 (by decide) (fun x884 h885 => ?_)
        refine ty_iadd hx hb dL_law_746 (fun x886 h887 => ?_)
        try have h888 : x886.toInt = x30.toInt + x884.toInt := ty_add h887 (by omega) (by omega)
        refine va_sld hx hb hXs hbl hbA hS (i := x886) (ty_ix (by omega)) dL_law_747 ?_
        rw [lw_same (j := x886) s864 (by omega)]
        refine lv_aload_n hx hb dL_law_748 rfl (lv_at hl 4 rfl) ?_
        refine lv_iload hx hb dL_law_749 (lv_at hl 0 rfl) ?_
        refine ty_iconst hx hb (2) dL_law_751 (by decide) (fun x889 h890 => ?_)
        refine ty_iadd hx hb dL_law_752 (fun x891 h892 => ?_)
        try have h893 : x891.toInt = x30.toInt + x889.toInt := ty_add h892 (by omega) (by omega)
        refine va_sld hx hb hXs hbl hbA hS (i := x891) (ty_ix (by omega)) dL_law_753 ?_
        rw [lw_same (j := x891) s871 (by omega)]
        refine lv_aload_n hx hb dL_law_754 rfl (lv_at hl 4 rfl) ?_
        refine lv_iload hx hb dL_law_755 (lv_at hl 0 rfl) ?_
        refine ty_iconst hx hb (3) dL_law_757 (by decide) (fun x894 h895 => ?_)
        refine ty_iadd hx hb dL_law_758 (fun x896 h897 => ?_)
        try have h898 : x896.toInt = x30.toInt + x894.toInt := ty_add h897 (by omega) (by omega)
        refine va_sld hx hb hXs hbl hbA hS (i := x896) (ty_ix (by omega)) dL_law_759 ?_
        rw [lw_same (j := x896) s878 (by omega)]
        have hk899 : g16 101 0 = g 101 0 := hf19 101 0 (by decide)
        refine cI (va_runV (C := RX9) (As := [.int x863, .int x870, .int x877]) (rest := [.int x882]) ⟨hx, hb, hml, hown, hA⟩ (f_X9_shut l dC dI dA sz X Γ26 hU g16 q12 t_q12 x863 x870 x877   (by omega)) ⟨callB_of 3 hA (al_A wd_5_192) rfl rfl rfl (hA _ wd_1_7) (hA _ wd_5_189) (by decide +kernel) ⟨Nat.le_of_ble_eq_true rfl, Nat.le_of_ble_eq_true rfl⟩, hA _ wd_5_190, hA _ wd_5_191⟩ ⟨bl, recv_X9 hE hG t_q12, fun U hU9 hW9 => ⟨rfl, by rw [hU9]; exact hG, hE.go hS hU9 hW9⟩⟩ rfl rfl hl.1 rfl (lv_room (Nat.le_of_ble_eq_true rfl)) dL_law_760 ⟨Nat.le_of_ble_eq_true rfl, Nat.le_of_ble_eq_true rfl⟩) hS (fun x902 u900 H locs w901 hG hS => ?_)
        obtain ⟨hf903, w901⟩ := w901
        refine ty_icmp_eq (tgt := 1075) hx hb dL_law_763 (by decide) (fun c904 => ?_) (fun c904 => ?_)
        · skip
          obtain ⟨x905, h906⟩ : ∃ y : Int32, y = x30 + Int32.ofInt (6) := ⟨_, rfl⟩
          try have h907 : x905.toInt = x30.toInt + (6) := ty_inc h906 (by decide) (by omega) (by omega)
          refine lv_iinc (v := x905) (lv' := [(4, .int x905), (3, .ref q25), (2, .ref q12), (1, .ref q1), (0, .ref b)]) hx hb dL_law_1075 hl (k := 0) rfl h906.symm (by decide) rfl (fun ls hl => ?_)
          refine lv_goto (tgt := 23) hx hb dL_law_1078 (by decide) ?_
          refine lv_iload hx hb dL_law_23 (lv_at hl 0 rfl) ?_
          refine lv_aload_n hx hb dL_law_25 rfl (lv_at hl 4 rfl) ?_
          refine va_slen hx hb hXs hbl hbA hS dL_law_26 ?_
          refine lv_topi (fun x908 h909 => ?_)
          have h910 := lw_len h909 hLN
          refine ty_bipush hx hb (6) dL_law_27 (by decide) (fun x911 h912 => ?_)
          refine ty_isub hx hb dL_law_29 (fun x913 h914 => ?_)
          try have h915 : x913.toInt = x908.toInt - x911.toInt := ty_sub h914 (by omega) (by omega)
          refine ty_icmp_gt (tgt := 1081) hx hb dL_law_30 (by decide) (fun c916 => ?_) (fun c916 => ?_)
          · skip
            refine ty_iconst hx hb (1) dL_law_1081 (by decide) (fun x917 h918 => ?_)
            obtain rfl : x917 = 1 := ty_eq32.mpr (by rw [Int32.toInt_one]; omega)
            refine va_forget (fun q hq => hsz ▸ hS.2.2 q hq) ?_
            refine W.widen (k := 600002) (n := 7302232) (Nat.le_of_ble_eq_true rfl) (Nat.le_of_ble_eq_true rfl) ?_
            exact lw_ret hx hb hr hlocks dL_law_1082
          · exfalso; omega
        · exfalso; omega
      · skip
        refine lv_tableIn (tgt := 768) (off := 728) hx hb dL_law_40 (by omega) (by omega) (by rw [q80]; rfl) (by decide) ?_
        refine lv_aload_n hx hb dL_law_768 rfl (lv_at hl 3 rfl) ?_
        refine lv_aload_n hx hb dL_law_769 rfl (lv_at hl 4 rfl) ?_
        refine lv_iload hx hb dL_law_770 (lv_at hl 0 rfl) ?_
        refine ty_iconst hx hb (1) dL_law_772 (by decide) (fun x919 h920 => ?_)
        refine ty_iadd hx hb dL_law_773 (fun x921 h922 => ?_)
        try have h923 : x921.toInt = x30.toInt + x919.toInt := ty_add h922 (by omega) (by omega)
        refine va_sld hx hb hXs hbl hbA hS (i := x921) (ty_ix (by omega)) dL_law_774 ?_
        refine lv_topi (fun x924 s925 => ?_)
        have hk926 : g16 3 0 = g 3 0 := hf19 3 0 (by decide)
        have hk927 : g16 5 0 = g 5 0 := hf19 5 0 (by decide)
        refine cI (va_runV (C := RX8) (As := [.int x924]) (rest := []) ⟨hx, hb, hml, hown, hA⟩ (f_X8_weeks l dC dI dA sz X Γ26 hU g16 q1 t_q1 x924   (by omega) (by omega)) ⟨callB_of 1 hA (al_A wd_3_220) rfl rfl rfl (hA _ wd_1_1) (hA _ wd_3_217) (by decide +kernel) ⟨Nat.le_of_ble_eq_true rfl, Nat.le_of_ble_eq_true rfl⟩, hA _ wd_3_218, hA _ wd_3_219⟩ ⟨bl, recv_X8 hE hG t_q1, fun U hU9 hW9 => ⟨rfl, by rw [hU9]; exact hG, hE.go hS hU9 hW9⟩⟩ rfl rfl hl.1 rfl (lv_room (Nat.le_of_ble_eq_true rfl)) dL_law_775 ⟨Nat.le_of_ble_eq_true rfl, Nat.le_of_ble_eq_true rfl⟩) hS (fun x930 u928 H locs w929 hG hS => ?_)
        obtain ⟨hf931, w929⟩ := w929
        refine lv_aload_n hx hb dL_law_778 rfl (lv_at hl 2 rfl) ?_
        refine lv_aload_n hx hb dL_law_779 rfl (lv_at hl 4 rfl) ?_
        refine lv_iload hx hb dL_law_780 (lv_at hl 0 rfl) ?_
        refine ty_iconst hx hb (1) dL_law_782 (by decide) (fun x932 h933 => ?_)
        refine ty_iadd hx hb dL_law_783 (fun x934 h935 => ?_)
        try have h936 : x934.toInt = x30.toInt + x932.toInt := ty_add h935 (by omega) (by omega)
        refine va_sld hx hb hXs hbl hbA hS (i := x934) (ty_ix (by omega)) dL_law_784 ?_
        rw [lw_same (j := x934) s925 (by omega)]
        have hk937 : u928 126 0 = g16 126 0 := hf931 126 0 (by decide)
        have hk938 : g16 126 0 = g 126 0 := hf19 126 0 (by decide)
        have hk939 : u928 112 0 = g16 112 0 := hf931 112 0 (by decide)
        have hk940 : g16 112 0 = g 112 0 := hf19 112 0 (by decide)
        refine cI (va_runV (C := RX9) (As := [.int x924]) (rest := [.int x930]) ⟨hx, hb, hml, hown, hA⟩ (f_X9_weeks l dC dI dA sz X Γ26 hU u928 q12 t_q12 x924   (by omega) (by omega)) ⟨callB_of 1 hA (al_A wd_5_197) rfl rfl rfl (hA _ wd_1_7) (hA _ wd_5_194) (by decide +kernel) ⟨Nat.le_of_ble_eq_true rfl, Nat.le_of_ble_eq_true rfl⟩, hA _ wd_5_195, hA _ wd_5_196⟩ ⟨bl, recv_X9 hE hG t_q12, fun U hU9 hW9 => ⟨rfl, by rw [hU9]; exact hG, hE.go hS hU9 hW9⟩⟩ rfl rfl hl.1 rfl (lv_room (Nat.le_of_ble_eq_true rfl)) dL_law_785 ⟨Nat.le_of_ble_eq_true rfl, Nat.le_of_ble_eq_true rfl⟩) hS (fun x943 u941 H locs w942 hG hS => ?_)
        obtain ⟨hf944, w942⟩ := w942
        refine ty_icmp_eq (tgt := 1075) hx hb dL_law_788 (by decide) (fun c945 => ?_) (fun c945 => ?_)
        · skip
          obtain ⟨x946, h947⟩ : ∃ y : Int32, y = x30 + Int32.ofInt (6) := ⟨_, rfl⟩
          try have h948 : x946.toInt = x30.toInt + (6) := ty_inc h947 (by decide) (by omega) (by omega)
          refine lv_iinc (v := x946) (lv' := [(4, .int x946), (3, .ref q25), (2, .ref q12), (1, .ref q1), (0, .ref b)]) hx hb dL_law_1075 hl (k := 0) rfl h947.symm (by decide) rfl (fun ls hl => ?_)
          refine lv_goto (tgt := 23) hx hb dL_law_1078 (by decide) ?_
          refine lv_iload hx hb dL_law_23 (lv_at hl 0 rfl) ?_
          refine lv_aload_n hx hb dL_law_25 rfl (lv_at hl 4 rfl) ?_
          refine va_slen hx hb hXs hbl hbA hS dL_law_26 ?_
          refine lv_topi (fun x949 h950 => ?_)
          have h951 := lw_len h950 hLN
          refine ty_bipush hx hb (6) dL_law_27 (by decide) (fun x952 h953 => ?_)
          refine ty_isub hx hb dL_law_29 (fun x954 h955 => ?_)
          try have h956 : x954.toInt = x949.toInt - x952.toInt := ty_sub h955 (by omega) (by omega)
          refine ty_icmp_gt (tgt := 1081) hx hb dL_law_30 (by decide) (fun c957 => ?_) (fun c957 => ?_)
          · skip
            refine ty_iconst hx hb (1) dL_law_1081 (by decide) (fun x958 h959 => ?_)
            obtain rfl : x958 = 1 := ty_eq32.mpr (by rw [Int32.toInt_one]; omega)
            refine va_forget (fun q hq => hsz ▸ hS.2.2 q hq) ?_
            refine W.widen (k := 600002) (n := 7302232) (Nat.le_of_ble_eq_true rfl) (Nat.le_of_ble_eq_true rfl) ?_
            exact lw_ret hx hb hr hlocks dL_law_1082
          · exfalso; omega
        · exfalso; omega
      · skip
        refine lv_tableIn (tgt := 793) (off := 753) hx hb dL_law_40 (by omega) (by omega) (by rw [q81]; rfl) (by decide) ?_
        refine lv_aload_n hx hb dL_law_793 rfl (lv_at hl 3 rfl) ?_
        have hk960 : g16 1 0 = g 1 0 := hf19 1 0 (by decide)
        have hk961 : g16 3 0 = g 3 0 := hf19 3 0 (by decide)
        have hk962 : g16 4 0 = g 4 0 := hf19 4 0 (by decide)
        refine cI (va_runV (C := RX8) (As := []) (rest := []) ⟨hx, hb, hml, hown, hA⟩ (f_X8_year l dC dI dA sz X Γ26 hU g16 q1 t_q1   (by omega) (by omega) (by omega)) ⟨callB_of 0 hA (al_A wd_3_228) rfl rfl rfl (hA _ wd_1_1) (hA _ wd_3_225) (by decide +kernel) ⟨Nat.le_of_ble_eq_true rfl, Nat.le_of_ble_eq_true rfl⟩, hA _ wd_3_226, hA _ wd_3_227⟩ ⟨bl, recv_X8 hE hG t_q1, fun U hU9 hW9 => ⟨rfl, by rw [hU9]; exact hG, hE.go hS hU9 hW9⟩⟩ rfl rfl hl.1 rfl (lv_room (Nat.le_of_ble_eq_true rfl)) dL_law_794 ⟨Nat.le_of_ble_eq_true rfl, Nat.le_of_ble_eq_true rfl⟩) hS (fun x965 u963 H locs w964 hG hS => ?_)
        obtain ⟨hf966, w964⟩ := w964
        refine lv_aload_n hx hb dL_law_797 rfl (lv_at hl 2 rfl) ?_
        have hk967 : u963 126 0 = g16 126 0 := hf966 126 0 (by decide) (by decide)
        have hk968 : g16 126 0 = g 126 0 := hf19 126 0 (by decide)
        have hk969 : u963 111 0 = g16 111 0 := hf966 111 0 (by decide) (by decide)
        have hk970 : g16 111 0 = g 111 0 := hf19 111 0 (by decide)
        refine cI (va_runV (C := RX9) (As := []) (rest := [.int x965]) ⟨hx, hb, hml, hown, hA⟩ (f_X9_year l dC dI dA sz X Γ26 hU u963 q12 t_q12   (by omega) (by omega)) ⟨callB_of 0 hA (al_A wd_5_205) rfl rfl rfl (hA _ wd_1_7) (hA _ wd_5_202) (by decide +kernel) ⟨Nat.le_of_ble_eq_true rfl, Nat.le_of_ble_eq_true rfl⟩, hA _ wd_5_203, hA _ wd_5_204⟩ ⟨bl, recv_X9 hE hG t_q12, fun U hU9 hW9 => ⟨rfl, by rw [hU9]; exact hG, hE.go hS hU9 hW9⟩⟩ rfl rfl hl.1 rfl (lv_room (Nat.le_of_ble_eq_true rfl)) dL_law_798 ⟨Nat.le_of_ble_eq_true rfl, Nat.le_of_ble_eq_true rfl⟩) hS (fun x973 u971 H locs w972 hG hS => ?_)
        obtain ⟨hf974, w972⟩ := w972
        refine ty_icmp_eq (tgt := 1075) hx hb dL_law_801 (by decide) (fun c975 => ?_) (fun c975 => ?_)
        · skip
          obtain ⟨x976, h977⟩ : ∃ y : Int32, y = x30 + Int32.ofInt (6) := ⟨_, rfl⟩
          try have h978 : x976.toInt = x30.toInt + (6) := ty_inc h977 (by decide) (by omega) (by omega)
          refine lv_iinc (v := x976) (lv' := [(4, .int x976), (3, .ref q25), (2, .ref q12), (1, .ref q1), (0, .ref b)]) hx hb dL_law_1075 hl (k := 0) rfl h977.symm (by decide) rfl (fun ls hl => ?_)
          refine lv_goto (tgt := 23) hx hb dL_law_1078 (by decide) ?_
          refine lv_iload hx hb dL_law_23 (lv_at hl 0 rfl) ?_
          refine lv_aload_n hx hb dL_law_25 rfl (lv_at hl 4 rfl) ?_
          refine va_slen hx hb hXs hbl hbA hS dL_law_26 ?_
          refine lv_topi (fun x979 h980 => ?_)
          have h981 := lw_len h980 hLN
          refine ty_bipush hx hb (6) dL_law_27 (by decide) (fun x982 h983 => ?_)
          refine ty_isub hx hb dL_law_29 (fun x984 h985 => ?_)
          try have h986 : x984.toInt = x979.toInt - x982.toInt := ty_sub h985 (by omega) (by omega)
          refine ty_icmp_gt (tgt := 1081) hx hb dL_law_30 (by decide) (fun c987 => ?_) (fun c987 => ?_)
          · skip
            refine ty_iconst hx hb (1) dL_law_1081 (by decide) (fun x988 h989 => ?_)
            obtain rfl : x988 = 1 := ty_eq32.mpr (by rw [Int32.toInt_one]; omega)
            refine va_forget (fun q hq => hsz ▸ hS.2.2 q hq) ?_
            refine W.widen (k := 600002) (n := 7302232) (Nat.le_of_ble_eq_true rfl) (Nat.le_of_ble_eq_true rfl) ?_
            exact lw_ret hx hb hr hlocks dL_law_1082
          · exfalso; omega
        · exfalso; omega
      · skip
        refine lv_tableIn (tgt := 806) (off := 766) hx hb dL_law_40 (by omega) (by omega) (by rw [q82]; rfl) (by decide) ?_
        refine lv_aload_n hx hb dL_law_806 rfl (lv_at hl 3 rfl) ?_
        refine lv_aload_n hx hb dL_law_807 rfl (lv_at hl 4 rfl) ?_
        refine lv_iload hx hb dL_law_808 (lv_at hl 0 rfl) ?_
        refine ty_iconst hx hb (1) dL_law_810 (by decide) (fun x990 h991 => ?_)
        refine ty_iadd hx hb dL_law_811 (fun x992 h993 => ?_)
        try have h994 : x992.toInt = x30.toInt + x990.toInt := ty_add h993 (by omega) (by omega)
        refine va_sld hx hb hXs hbl hbA hS (i := x992) (ty_ix (by omega)) dL_law_812 ?_
        refine lv_topi (fun x995 s996 => ?_)
        refine lv_aload_n hx hb dL_law_813 rfl (lv_at hl 4 rfl) ?_
        refine lv_iload hx hb dL_law_814 (lv_at hl 0 rfl) ?_
        refine ty_iconst hx hb (2) dL_law_816 (by decide) (fun x997 h998 => ?_)
        refine ty_iadd hx hb dL_law_817 (fun x999 h1000 => ?_)
        try have h1001 : x999.toInt = x30.toInt + x997.toInt := ty_add h1000 (by omega) (by omega)
        refine va_sld hx hb hXs hbl hbA hS (i := x999) (ty_ix (by omega)) dL_law_818 ?_
        refine lv_topi (fun x1002 s1003 => ?_)
        refine lv_aload_n hx hb dL_law_819 rfl (lv_at hl 4 rfl) ?_
        refine lv_iload hx hb dL_law_820 (lv_at hl 0 rfl) ?_
        refine ty_iconst hx hb (3) dL_law_822 (by decide) (fun x1004 h1005 => ?_)
        refine ty_iadd hx hb dL_law_823 (fun x1006 h1007 => ?_)
        try have h1008 : x1006.toInt = x30.toInt + x1004.toInt := ty_add h1007 (by omega) (by omega)
        refine va_sld hx hb hXs hbl hbA hS (i := x1006) (ty_ix (by omega)) dL_law_824 ?_
        refine lv_topi (fun x1009 s1010 => ?_)
        refine ty_if_eq (tgt := 832) hx hb dL_law_825 (by decide) (fun c1011 => ?_) (fun c1011 => ?_)
        · skip
          refine ty_iconst hx hb (0) dL_law_832 (by decide) (fun x1012 h1013 => ?_)
          have hk1014 : g16 2 0 = g 2 0 := hf19 2 0 (by decide)
          refine cI (va_runV (C := RX8) (As := [.int x995, .int x1002, .int x1012]) (rest := []) ⟨hx, hb, hml, hown, hA⟩ (f_X8_dies l dC dI dA sz X Γ26 hU g16 q1 t_q1 x995 x1002 x1012   (by omega)) ⟨callB_of 3 hA (al_A wd_3_236) rfl rfl rfl (hA _ wd_1_1) (hA _ wd_3_233) (by decide +kernel) ⟨Nat.le_of_ble_eq_true rfl, Nat.le_of_ble_eq_true rfl⟩, hA _ wd_3_234, hA _ wd_3_235⟩ ⟨bl, recv_X8 hE hG t_q1, fun U hU9 hW9 => ⟨rfl, by rw [hU9]; exact hG, hE.go hS hU9 hW9⟩⟩ rfl rfl hl.1 rfl (lv_room (Nat.le_of_ble_eq_true rfl)) dL_law_833 ⟨Nat.le_of_ble_eq_true rfl, Nat.le_of_ble_eq_true rfl⟩) hS (fun x1017 u1015 H locs w1016 hG hS => ?_)
          obtain ⟨eu1018, w1016⟩ := w1016
          rw [eu1018] at hG
          refine lv_aload_n hx hb dL_law_836 rfl (lv_at hl 2 rfl) ?_
          refine lv_aload_n hx hb dL_law_837 rfl (lv_at hl 4 rfl) ?_
          refine lv_iload hx hb dL_law_838 (lv_at hl 0 rfl) ?_
          refine ty_iconst hx hb (1) dL_law_840 (by decide) (fun x1019 h1020 => ?_)
          refine ty_iadd hx hb dL_law_841 (fun x1021 h1022 => ?_)
          try have h1023 : x1021.toInt = x30.toInt + x1019.toInt := ty_add h1022 (by omega) (by omega)
          refine va_sld hx hb hXs hbl hbA hS (i := x1021) (ty_ix (by omega)) dL_law_842 ?_
          rw [lw_same (j := x1021) s996 (by omega)]
          refine lv_aload_n hx hb dL_law_843 rfl (lv_at hl 4 rfl) ?_
          refine lv_iload hx hb dL_law_844 (lv_at hl 0 rfl) ?_
          refine ty_iconst hx hb (2) dL_law_846 (by decide) (fun x1024 h1025 => ?_)
          refine ty_iadd hx hb dL_law_847 (fun x1026 h1027 => ?_)
          try have h1028 : x1026.toInt = x30.toInt + x1024.toInt := ty_add h1027 (by omega) (by omega)
          refine va_sld hx hb hXs hbl hbA hS (i := x1026) (ty_ix (by omega)) dL_law_848 ?_
          rw [lw_same (j := x1026) s1003 (by omega)]
          refine lv_aload_n hx hb dL_law_849 rfl (lv_at hl 4 rfl) ?_
          refine lv_iload hx hb dL_law_850 (lv_at hl 0 rfl) ?_
          refine ty_iconst hx hb (3) dL_law_852 (by decide) (fun x1029 h1030 => ?_)
          refine ty_iadd hx hb dL_law_853 (fun x1031 h1032 => ?_)
          try have h1033 : x1031.toInt = x30.toInt + x1029.toInt := ty_add h1032 (by omega) (by omega)
          refine va_sld hx hb hXs hbl hbA hS (i := x1031) (ty_ix (by omega)) dL_law_854 ?_
          rw [lw_same (j := x1031) s1010 (by omega)]
          refine ty_if_eq (tgt := 862) hx hb dL_law_855 (by decide) (fun c1034 => ?_) (fun c1034 => ?_)
          · skip
            refine ty_iconst hx hb (0) dL_law_862 (by decide) (fun x1035 h1036 => ?_)
            have hk1037 : g16 104 0 = g 104 0 := hf19 104 0 (by decide)
            refine cI (va_runV (C := RX9) (As := [.int x995, .int x1002, .int x1035]) (rest := [.int x1017]) ⟨hx, hb, hml, hown, hA⟩ (f_X9_dies l dC dI dA sz X Γ26 hU g16 q12 t_q12 x995 x1002 x1035   (by omega)) ⟨callB_of 3 hA (al_A wd_5_209) rfl rfl rfl (hA _ wd_1_7) (hA _ wd_5_206) (by decide +kernel) ⟨Nat.le_of_ble_eq_true rfl, Nat.le_of_ble_eq_true rfl⟩, hA _ wd_5_207, hA _ wd_5_208⟩ ⟨bl, recv_X9 hE hG t_q12, fun U hU9 hW9 => ⟨rfl, by rw [hU9]; exact hG, hE.go hS hU9 hW9⟩⟩ rfl rfl hl.1 rfl (lv_room (Nat.le_of_ble_eq_true rfl)) dL_law_863 ⟨Nat.le_of_ble_eq_true rfl, Nat.le_of_ble_eq_true rfl⟩) hS (fun x1040 u1038 H locs w1039 hG hS => ?_)
            obtain ⟨hf1041, w1039⟩ := w1039
            refine ty_icmp_eq (tgt := 1075) hx hb dL_law_866 (by decide) (fun c1042 => ?_) (fun c1042 => ?_)
            · skip
              obtain ⟨x1043, h1044⟩ : ∃ y : Int32, y = x30 + Int32.ofInt (6) := ⟨_, rfl⟩
              try have h1045 : x1043.toInt = x30.toInt + (6) := ty_inc h1044 (by decide) (by omega) (by omega)
              refine lv_iinc (v := x1043) (lv' := [(4, .int x1043), (3, .ref q25), (2, .ref q12), (1, .ref q1), (0, .ref b)]) hx hb dL_law_1075 hl (k := 0) rfl h1044.symm (by decide) rfl (fun ls hl => ?_)
              refine lv_goto (tgt := 23) hx hb dL_law_1078 (by decide) ?_
              refine lv_iload hx hb dL_law_23 (lv_at hl 0 rfl) ?_
              refine lv_aload_n hx hb dL_law_25 rfl (lv_at hl 4 rfl) ?_
              refine va_slen hx hb hXs hbl hbA hS dL_law_26 ?_
              refine lv_topi (fun x1046 h1047 => ?_)
              have h1048 := lw_len h1047 hLN
              refine ty_bipush hx hb (6) dL_law_27 (by decide) (fun x1049 h1050 => ?_)
              refine ty_isub hx hb dL_law_29 (fun x1051 h1052 => ?_)
              try have h1053 : x1051.toInt = x1046.toInt - x1049.toInt := ty_sub h1052 (by omega) (by omega)
              refine ty_icmp_gt (tgt := 1081) hx hb dL_law_30 (by decide) (fun c1054 => ?_) (fun c1054 => ?_)
              · skip
                refine ty_iconst hx hb (1) dL_law_1081 (by decide) (fun x1055 h1056 => ?_)
                obtain rfl : x1055 = 1 := ty_eq32.mpr (by rw [Int32.toInt_one]; omega)
                refine va_forget (fun q hq => hsz ▸ hS.2.2 q hq) ?_
                refine W.widen (k := 600002) (n := 7302232) (Nat.le_of_ble_eq_true rfl) (Nat.le_of_ble_eq_true rfl) ?_
                exact lw_ret hx hb hr hlocks dL_law_1082
              · exfalso; omega
            · exfalso; omega
          · exfalso; omega
        · skip
          refine ty_iconst hx hb (1) dL_law_828 (by decide) (fun x1057 h1058 => ?_)
          refine lv_goto (tgt := 833) hx hb dL_law_829 (by decide) ?_
          have hk1059 : g16 2 0 = g 2 0 := hf19 2 0 (by decide)
          refine cI (va_runV (C := RX8) (As := [.int x995, .int x1002, .int x1057]) (rest := []) ⟨hx, hb, hml, hown, hA⟩ (f_X8_dies l dC dI dA sz X Γ26 hU g16 q1 t_q1 x995 x1002 x1057   (by omega)) ⟨callB_of 3 hA (al_A wd_3_236) rfl rfl rfl (hA _ wd_1_1) (hA _ wd_3_233) (by decide +kernel) ⟨Nat.le_of_ble_eq_true rfl, Nat.le_of_ble_eq_true rfl⟩, hA _ wd_3_234, hA _ wd_3_235⟩ ⟨bl, recv_X8 hE hG t_q1, fun U hU9 hW9 => ⟨rfl, by rw [hU9]; exact hG, hE.go hS hU9 hW9⟩⟩ rfl rfl hl.1 rfl (lv_room (Nat.le_of_ble_eq_true rfl)) dL_law_833 ⟨Nat.le_of_ble_eq_true rfl, Nat.le_of_ble_eq_true rfl⟩) hS (fun x1062 u1060 H locs w1061 hG hS => ?_)
          obtain ⟨eu1063, w1061⟩ := w1061
          rw [eu1063] at hG
          refine lv_aload_n hx hb dL_law_836 rfl (lv_at hl 2 rfl) ?_
          refine lv_aload_n hx hb dL_law_837 rfl (lv_at hl 4 rfl) ?_
          refine lv_iload hx hb dL_law_838 (lv_at hl 0 rfl) ?_
          refine ty_iconst hx hb (1) dL_law_840 (by decide) (fun x1064 h1065 => ?_)
          refine ty_iadd hx hb dL_law_841 (fun x1066 h1067 => ?_)
          try have h1068 : x1066.toInt = x30.toInt + x1064.toInt := ty_add h1067 (by omega) (by omega)
          refine va_sld hx hb hXs hbl hbA hS (i := x1066) (ty_ix (by omega)) dL_law_842 ?_
          rw [lw_same (j := x1066) s996 (by omega)]
          refine lv_aload_n hx hb dL_law_843 rfl (lv_at hl 4 rfl) ?_
          refine lv_iload hx hb dL_law_844 (lv_at hl 0 rfl) ?_
          refine ty_iconst hx hb (2) dL_law_846 (by decide) (fun x1069 h1070 => ?_)
          refine ty_iadd hx hb dL_law_847 (fun x1071 h1072 => ?_)
          try have h1073 : x1071.toInt = x30.toInt + x1069.toInt := ty_add h1072 (by omega) (by omega)
          refine va_sld hx hb hXs hbl hbA hS (i := x1071) (ty_ix (by omega)) dL_law_848 ?_
          rw [lw_same (j := x1071) s1003 (by omega)]
          refine lv_aload_n hx hb dL_law_849 rfl (lv_at hl 4 rfl) ?_
          refine lv_iload hx hb dL_law_850 (lv_at hl 0 rfl) ?_
          refine ty_iconst hx hb (3) dL_law_852 (by decide) (fun x1074 h1075 => ?_)
          refine ty_iadd hx hb dL_law_853 (fun x1076 h1077 => ?_)
          try have h1078 : x1076.toInt = x30.toInt + x1074.toInt := ty_add h1077 (by omega) (by omega)
          refine va_sld hx hb hXs hbl hbA hS (i := x1076) (ty_ix (by omega)) dL_law_854 ?_
          rw [lw_same (j := x1076) s1010 (by omega)]
          refine ty_if_eq (tgt := 862) hx hb dL_law_855 (by decide) (fun c1079 => ?_) (fun c1079 => ?_)
          · skip
            refine ty_iconst hx hb (0) dL_law_862 (by decide) (fun x1080 h1081 => ?_)
            have hk1082 : g16 104 0 = g 104 0 := hf19 104 0 (by decide)
            refine cI (va_runV (C := RX9) (As := [.int x995, .int x1002, .int x1080]) (rest := [.int x1062]) ⟨hx, hb, hml, hown, hA⟩ (f_X9_dies l dC dI dA sz X Γ26 hU g16 q12 t_q12 x995 x1002 x1080   (by omega)) ⟨callB_of 3 hA (al_A wd_5_209) rfl rfl rfl (hA _ wd_1_7) (hA _ wd_5_206) (by decide +kernel) ⟨Nat.le_of_ble_eq_true rfl, Nat.le_of_ble_eq_true rfl⟩, hA _ wd_5_207, hA _ wd_5_208⟩ ⟨bl, recv_X9 hE hG t_q12, fun U hU9 hW9 => ⟨rfl, by rw [hU9]; exact hG, hE.go hS hU9 hW9⟩⟩ rfl rfl hl.1 rfl (lv_room (Nat.le_of_ble_eq_true rfl)) dL_law_863 ⟨Nat.le_of_ble_eq_true rfl, Nat.le_of_ble_eq_true rfl⟩) hS (fun x1085 u1083 H locs w1084 hG hS => ?_)
            obtain ⟨hf1086, w1084⟩ := w1084
            refine ty_icmp_eq (tgt := 1075) hx hb dL_law_866 (by decide) (fun c1087 => ?_) (fun c1087 => ?_)
            · skip
              obtain ⟨x1088, h1089⟩ : ∃ y : Int32, y = x30 + Int32.ofInt (6) := ⟨_, rfl⟩
              try have h1090 : x1088.toInt = x30.toInt + (6) := ty_inc h1089 (by decide) (by omega) (by omega)
              refine lv_iinc (v := x1088) (lv' := [(4, .int x1088), (3, .ref q25), (2, .ref q12), (1, .ref q1), (0, .ref b)]) hx hb dL_law_1075 hl (k := 0) rfl h1089.symm (by decide) rfl (fun ls hl => ?_)
              refine lv_goto (tgt := 23) hx hb dL_law_1078 (by decide) ?_
              refine lv_iload hx hb dL_law_23 (lv_at hl 0 rfl) ?_
              refine lv_aload_n hx hb dL_law_25 rfl (lv_at hl 4 rfl) ?_
              refine va_slen hx hb hXs hbl hbA hS dL_law_26 ?_
              refine lv_topi (fun x1091 h1092 => ?_)
              have h1093 := lw_len h1092 hLN
              refine ty_bipush hx hb (6) dL_law_27 (by decide) (fun x1094 h1095 => ?_)
              refine ty_isub hx hb dL_law_29 (fun x1096 h1097 => ?_)
              try have h1098 : x1096.toInt = x1091.toInt - x1094.toInt := ty_sub h1097 (by omega) (by omega)
              refine ty_icmp_gt (tgt := 1081) hx hb dL_law_30 (by decide) (fun c1099 => ?_) (fun c1099 => ?_)
              · skip
                refine ty_iconst hx hb (1) dL_law_1081 (by decide) (fun x1100 h1101 => ?_)
                obtain rfl : x1100 = 1 := ty_eq32.mpr (by rw [Int32.toInt_one]; omega)
                refine va_forget (fun q hq => hsz ▸ hS.2.2 q hq) ?_
                refine W.widen (k := 600002) (n := 7302232) (Nat.le_of_ble_eq_true rfl) (Nat.le_of_ble_eq_true rfl) ?_
                exact lw_ret hx hb hr hlocks dL_law_1082
              · exfalso; omega
            · exfalso; omega
          · skip
            refine ty_iconst hx hb (1) dL_law_858 (by decide) (fun x1102 h1103 => ?_)
            refine lv_goto (tgt := 863) hx hb dL_law_859 (by decide) ?_
            have hk1104 : g16 104 0 = g 104 0 := hf19 104 0 (by decide)
            refine cI (va_runV (C := RX9) (As := [.int x995, .int x1002, .int x1102]) (rest := [.int x1062]) ⟨hx, hb, hml, hown, hA⟩ (f_X9_dies l dC dI dA sz X Γ26 hU g16 q12 t_q12 x995 x1002 x1102   (by omega)) ⟨callB_of 3 hA (al_A wd_5_209) rfl rfl rfl (hA _ wd_1_7) (hA _ wd_5_206) (by decide +kernel) ⟨Nat.le_of_ble_eq_true rfl, Nat.le_of_ble_eq_true rfl⟩, hA _ wd_5_207, hA _ wd_5_208⟩ ⟨bl, recv_X9 hE hG t_q12, fun U hU9 hW9 => ⟨rfl, by rw [hU9]; exact hG, hE.go hS hU9 hW9⟩⟩ rfl rfl hl.1 rfl (lv_room (Nat.le_of_ble_eq_true rfl)) dL_law_863 ⟨Nat.le_of_ble_eq_true rfl, Nat.le_of_ble_eq_true rfl⟩) hS (fun x1107 u1105 H locs w1106 hG hS => ?_)
            obtain ⟨hf1108, w1106⟩ := w1106
            refine ty_icmp_eq (tgt := 1075) hx hb dL_law_866 (by decide) (fun c1109 => ?_) (fun c1109 => ?_)
            · skip
              obtain ⟨x1110, h1111⟩ : ∃ y : Int32, y = x30 + Int32.ofInt (6) := ⟨_, rfl⟩
              try have h1112 : x1110.toInt = x30.toInt + (6) := ty_inc h1111 (by decide) (by omega) (by omega)
              refine lv_iinc (v := x1110) (lv' := [(4, .int x1110), (3, .ref q25), (2, .ref q12), (1, .ref q1), (0, .ref b)]) hx hb dL_law_1075 hl (k := 0) rfl h1111.symm (by decide) rfl (fun ls hl => ?_)
              refine lv_goto (tgt := 23) hx hb dL_law_1078 (by decide) ?_
              refine lv_iload hx hb dL_law_23 (lv_at hl 0 rfl) ?_
              refine lv_aload_n hx hb dL_law_25 rfl (lv_at hl 4 rfl) ?_
              refine va_slen hx hb hXs hbl hbA hS dL_law_26 ?_
              refine lv_topi (fun x1113 h1114 => ?_)
              have h1115 := lw_len h1114 hLN
              refine ty_bipush hx hb (6) dL_law_27 (by decide) (fun x1116 h1117 => ?_)
              refine ty_isub hx hb dL_law_29 (fun x1118 h1119 => ?_)
              try have h1120 : x1118.toInt = x1113.toInt - x1116.toInt := ty_sub h1119 (by omega) (by omega)
              refine ty_icmp_gt (tgt := 1081) hx hb dL_law_30 (by decide) (fun c1121 => ?_) (fun c1121 => ?_)
              · skip
                refine ty_iconst hx hb (1) dL_law_1081 (by decide) (fun x1122 h1123 => ?_)
                obtain rfl : x1122 = 1 := ty_eq32.mpr (by rw [Int32.toInt_one]; omega)
                refine va_forget (fun q hq => hsz ▸ hS.2.2 q hq) ?_
                refine W.widen (k := 600002) (n := 7302232) (Nat.le_of_ble_eq_true rfl) (Nat.le_of_ble_eq_true rfl) ?_
                exact lw_ret hx hb hr hlocks dL_law_1082
              · exfalso; omega
            · exfalso; omega
      · skip
        refine lv_tableIn (tgt := 871) (off := 831) hx hb dL_law_40 (by omega) (by omega) (by rw [q83]; rfl) (by decide) ?_
        refine lv_aload_n hx hb dL_law_871 rfl (lv_at hl 3 rfl) ?_
        refine lv_aload_n hx hb dL_law_872 rfl (lv_at hl 4 rfl) ?_
        refine lv_iload hx hb dL_law_873 (lv_at hl 0 rfl) ?_
        refine ty_iconst hx hb (1) dL_law_875 (by decide) (fun x1124 h1125 => ?_)
        refine ty_iadd hx hb dL_law_876 (fun x1126 h1127 => ?_)
        try have h1128 : x1126.toInt = x30.toInt + x1124.toInt := ty_add h1127 (by omega) (by omega)
        refine va_sld hx hb hXs hbl hbA hS (i := x1126) (ty_ix (by omega)) dL_law_877 ?_
        refine lv_topi (fun x1129 s1130 => ?_)
        refine lv_aload_n hx hb dL_law_878 rfl (lv_at hl 4 rfl) ?_
        refine lv_iload hx hb dL_law_879 (lv_at hl 0 rfl) ?_
        refine ty_iconst hx hb (2) dL_law_881 (by decide) (fun x1131 h1132 => ?_)
        refine ty_iadd hx hb dL_law_882 (fun x1133 h1134 => ?_)
        try have h1135 : x1133.toInt = x30.toInt + x1131.toInt := ty_add h1134 (by omega) (by omega)
        refine va_sld hx hb hXs hbl hbA hS (i := x1133) (ty_ix (by omega)) dL_law_883 ?_
        refine lv_topi (fun x1136 s1137 => ?_)
        have hk1138 : g16 2 0 = g 2 0 := hf19 2 0 (by decide)
        refine cI (va_runV (C := RX8) (As := [.int x1129, .int x1136]) (rest := []) ⟨hx, hb, hml, hown, hA⟩ (f_X8_fees l dC dI dA sz X Γ26 hU g16 q1 t_q1 x1129 x1136   (by omega)) ⟨callB_of 2 hA (al_A wd_4_4) rfl rfl rfl (hA _ wd_1_1) (hA _ wd_4_1) (by decide +kernel) ⟨Nat.le_of_ble_eq_true rfl, Nat.le_of_ble_eq_true rfl⟩, hA _ wd_4_2, hA _ wd_4_3⟩ ⟨bl, recv_X8 hE hG t_q1, fun U hU9 hW9 => ⟨rfl, by rw [hU9]; exact hG, hE.go hS hU9 hW9⟩⟩ rfl rfl hl.1 rfl (lv_room (Nat.le_of_ble_eq_true rfl)) dL_law_884 ⟨Nat.le_of_ble_eq_true rfl, Nat.le_of_ble_eq_true rfl⟩) hS (fun x1141 u1139 H locs w1140 hG hS => ?_)
        obtain ⟨hf1142, w1140⟩ := w1140
        refine lv_aload_n hx hb dL_law_887 rfl (lv_at hl 2 rfl) ?_
        refine lv_aload_n hx hb dL_law_888 rfl (lv_at hl 4 rfl) ?_
        refine lv_iload hx hb dL_law_889 (lv_at hl 0 rfl) ?_
        refine ty_iconst hx hb (1) dL_law_891 (by decide) (fun x1143 h1144 => ?_)
        refine ty_iadd hx hb dL_law_892 (fun x1145 h1146 => ?_)
        try have h1147 : x1145.toInt = x30.toInt + x1143.toInt := ty_add h1146 (by omega) (by omega)
        refine va_sld hx hb hXs hbl hbA hS (i := x1145) (ty_ix (by omega)) dL_law_893 ?_
        rw [lw_same (j := x1145) s1130 (by omega)]
        refine lv_aload_n hx hb dL_law_894 rfl (lv_at hl 4 rfl) ?_
        refine lv_iload hx hb dL_law_895 (lv_at hl 0 rfl) ?_
        refine ty_iconst hx hb (2) dL_law_897 (by decide) (fun x1148 h1149 => ?_)
        refine ty_iadd hx hb dL_law_898 (fun x1150 h1151 => ?_)
        try have h1152 : x1150.toInt = x30.toInt + x1148.toInt := ty_add h1151 (by omega) (by omega)
        refine va_sld hx hb hXs hbl hbA hS (i := x1150) (ty_ix (by omega)) dL_law_899 ?_
        rw [lw_same (j := x1150) s1137 (by omega)]
        have hk1153 : u1139 104 0 = g16 104 0 := hf1142 104 0 (by decide) (by decide) (by decide)
        have hk1154 : g16 104 0 = g 104 0 := hf19 104 0 (by decide)
        refine cI (va_runV (C := RX9) (As := [.int x1129, .int x1136]) (rest := [.int x1141]) ⟨hx, hb, hml, hown, hA⟩ (f_X9_fees l dC dI dA sz X Γ26 hU u1139 q12 t_q12 x1129 x1136   (by omega)) ⟨callB_of 2 hA (al_A wd_5_217) rfl rfl rfl (hA _ wd_1_7) (hA _ wd_5_214) (by decide +kernel) ⟨Nat.le_of_ble_eq_true rfl, Nat.le_of_ble_eq_true rfl⟩, hA _ wd_5_215, hA _ wd_5_216⟩ ⟨bl, recv_X9 hE hG t_q12, fun U hU9 hW9 => ⟨rfl, by rw [hU9]; exact hG, hE.go hS hU9 hW9⟩⟩ rfl rfl hl.1 rfl (lv_room (Nat.le_of_ble_eq_true rfl)) dL_law_900 ⟨Nat.le_of_ble_eq_true rfl, Nat.le_of_ble_eq_true rfl⟩) hS (fun x1157 u1155 H locs w1156 hG hS => ?_)
        obtain ⟨hf1158, w1156⟩ := w1156
        refine ty_icmp_eq (tgt := 1075) hx hb dL_law_903 (by decide) (fun c1159 => ?_) (fun c1159 => ?_)
        · skip
          obtain ⟨x1160, h1161⟩ : ∃ y : Int32, y = x30 + Int32.ofInt (6) := ⟨_, rfl⟩
          try have h1162 : x1160.toInt = x30.toInt + (6) := ty_inc h1161 (by decide) (by omega) (by omega)
          refine lv_iinc (v := x1160) (lv' := [(4, .int x1160), (3, .ref q25), (2, .ref q12), (1, .ref q1), (0, .ref b)]) hx hb dL_law_1075 hl (k := 0) rfl h1161.symm (by decide) rfl (fun ls hl => ?_)
          refine lv_goto (tgt := 23) hx hb dL_law_1078 (by decide) ?_
          refine lv_iload hx hb dL_law_23 (lv_at hl 0 rfl) ?_
          refine lv_aload_n hx hb dL_law_25 rfl (lv_at hl 4 rfl) ?_
          refine va_slen hx hb hXs hbl hbA hS dL_law_26 ?_
          refine lv_topi (fun x1163 h1164 => ?_)
          have h1165 := lw_len h1164 hLN
          refine ty_bipush hx hb (6) dL_law_27 (by decide) (fun x1166 h1167 => ?_)
          refine ty_isub hx hb dL_law_29 (fun x1168 h1169 => ?_)
          try have h1170 : x1168.toInt = x1163.toInt - x1166.toInt := ty_sub h1169 (by omega) (by omega)
          refine ty_icmp_gt (tgt := 1081) hx hb dL_law_30 (by decide) (fun c1171 => ?_) (fun c1171 => ?_)
          · skip
            refine ty_iconst hx hb (1) dL_law_1081 (by decide) (fun x1172 h1173 => ?_)
            obtain rfl : x1172 = 1 := ty_eq32.mpr (by rw [Int32.toInt_one]; omega)
            refine va_forget (fun q hq => hsz ▸ hS.2.2 q hq) ?_
            refine W.widen (k := 600002) (n := 7302232) (Nat.le_of_ble_eq_true rfl) (Nat.le_of_ble_eq_true rfl) ?_
            exact lw_ret hx hb hr hlocks dL_law_1082
          · exfalso; omega
        · exfalso; omega
      · skip
        refine lv_tableIn (tgt := 908) (off := 868) hx hb dL_law_40 (by omega) (by omega) (by rw [q84]; rfl) (by decide) ?_
        refine lv_aload_n hx hb dL_law_908 rfl (lv_at hl 3 rfl) ?_
        refine lv_aload_n hx hb dL_law_909 rfl (lv_at hl 4 rfl) ?_
        refine lv_iload hx hb dL_law_910 (lv_at hl 0 rfl) ?_
        refine ty_iconst hx hb (1) dL_law_912 (by decide) (fun x1174 h1175 => ?_)
        refine ty_iadd hx hb dL_law_913 (fun x1176 h1177 => ?_)
        try have h1178 : x1176.toInt = x30.toInt + x1174.toInt := ty_add h1177 (by omega) (by omega)
        refine va_sld hx hb hXs hbl hbA hS (i := x1176) (ty_ix (by omega)) dL_law_914 ?_
        refine lv_topi (fun x1179 s1180 => ?_)
        refine lv_aload_n hx hb dL_law_915 rfl (lv_at hl 4 rfl) ?_
        refine lv_iload hx hb dL_law_916 (lv_at hl 0 rfl) ?_
        refine ty_iconst hx hb (2) dL_law_918 (by decide) (fun x1181 h1182 => ?_)
        refine ty_iadd hx hb dL_law_919 (fun x1183 h1184 => ?_)
        try have h1185 : x1183.toInt = x30.toInt + x1181.toInt := ty_add h1184 (by omega) (by omega)
        refine va_sld hx hb hXs hbl hbA hS (i := x1183) (ty_ix (by omega)) dL_law_920 ?_
        refine lv_topi (fun x1186 s1187 => ?_)
        have hk1188 : g16 1 0 = g 1 0 := hf19 1 0 (by decide)
        refine cI (va_runV (C := RX8) (As := [.int x1179, .int x1186]) (rest := []) ⟨hx, hb, hml, hown, hA⟩ (f_X8_party l dC dI dA sz X Γ26 hU g16 q1 t_q1 x1179 x1186   (by omega)) ⟨callB_of 2 hA (al_A wd_4_33) rfl rfl rfl (hA _ wd_1_1) (hA _ wd_4_30) (by decide +kernel) ⟨Nat.le_of_ble_eq_true rfl, Nat.le_of_ble_eq_true rfl⟩, hA _ wd_4_31, hA _ wd_4_32⟩ ⟨bl, recv_X8 hE hG t_q1, fun U hU9 hW9 => ⟨rfl, by rw [hU9]; exact hG, hE.go hS hU9 hW9⟩⟩ rfl rfl hl.1 rfl (lv_room (Nat.le_of_ble_eq_true rfl)) dL_law_921 ⟨Nat.le_of_ble_eq_true rfl, Nat.le_of_ble_eq_true rfl⟩) hS (fun x1191 u1189 H locs w1190 hG hS => ?_)
        obtain ⟨eu1192, w1190⟩ := w1190
        rw [eu1192] at hG
        refine lv_aload_n hx hb dL_law_924 rfl (lv_at hl 2 rfl) ?_
        refine lv_aload_n hx hb dL_law_925 rfl (lv_at hl 4 rfl) ?_
        refine lv_iload hx hb dL_law_926 (lv_at hl 0 rfl) ?_
        refine ty_iconst hx hb (1) dL_law_928 (by decide) (fun x1193 h1194 => ?_)
        refine ty_iadd hx hb dL_law_929 (fun x1195 h1196 => ?_)
        try have h1197 : x1195.toInt = x30.toInt + x1193.toInt := ty_add h1196 (by omega) (by omega)
        refine va_sld hx hb hXs hbl hbA hS (i := x1195) (ty_ix (by omega)) dL_law_930 ?_
        rw [lw_same (j := x1195) s1180 (by omega)]
        refine lv_aload_n hx hb dL_law_931 rfl (lv_at hl 4 rfl) ?_
        refine lv_iload hx hb dL_law_932 (lv_at hl 0 rfl) ?_
        refine ty_iconst hx hb (2) dL_law_934 (by decide) (fun x1198 h1199 => ?_)
        refine ty_iadd hx hb dL_law_935 (fun x1200 h1201 => ?_)
        try have h1202 : x1200.toInt = x30.toInt + x1198.toInt := ty_add h1201 (by omega) (by omega)
        refine va_sld hx hb hXs hbl hbA hS (i := x1200) (ty_ix (by omega)) dL_law_936 ?_
        rw [lw_same (j := x1200) s1187 (by omega)]
        have hk1203 : g16 101 0 = g 101 0 := hf19 101 0 (by decide)
        refine cI (va_runV (C := RX9) (As := [.int x1179, .int x1186]) (rest := [.int x1191]) ⟨hx, hb, hml, hown, hA⟩ (f_X9_party l dC dI dA sz X Γ26 hU g16 q12 t_q12 x1179 x1186   (by omega)) ⟨callB_of 2 hA (al_A wd_5_230) rfl rfl rfl (hA _ wd_1_7) (hA _ wd_5_227) (by decide +kernel) ⟨Nat.le_of_ble_eq_true rfl, Nat.le_of_ble_eq_true rfl⟩, hA _ wd_5_228, hA _ wd_5_229⟩ ⟨bl, recv_X9 hE hG t_q12, fun U hU9 hW9 => ⟨rfl, by rw [hU9]; exact hG, hE.go hS hU9 hW9⟩⟩ rfl rfl hl.1 rfl (lv_room (Nat.le_of_ble_eq_true rfl)) dL_law_937 ⟨Nat.le_of_ble_eq_true rfl, Nat.le_of_ble_eq_true rfl⟩) hS (fun x1206 u1204 H locs w1205 hG hS => ?_)
        obtain ⟨hf1207, w1205⟩ := w1205
        refine ty_icmp_eq (tgt := 1075) hx hb dL_law_940 (by decide) (fun c1208 => ?_) (fun c1208 => ?_)
        · skip
          obtain ⟨x1209, h1210⟩ : ∃ y : Int32, y = x30 + Int32.ofInt (6) := ⟨_, rfl⟩
          try have h1211 : x1209.toInt = x30.toInt + (6) := ty_inc h1210 (by decide) (by omega) (by omega)
          refine lv_iinc (v := x1209) (lv' := [(4, .int x1209), (3, .ref q25), (2, .ref q12), (1, .ref q1), (0, .ref b)]) hx hb dL_law_1075 hl (k := 0) rfl h1210.symm (by decide) rfl (fun ls hl => ?_)
          refine lv_goto (tgt := 23) hx hb dL_law_1078 (by decide) ?_
          refine lv_iload hx hb dL_law_23 (lv_at hl 0 rfl) ?_
          refine lv_aload_n hx hb dL_law_25 rfl (lv_at hl 4 rfl) ?_
          refine va_slen hx hb hXs hbl hbA hS dL_law_26 ?_
          refine lv_topi (fun x1212 h1213 => ?_)
          have h1214 := lw_len h1213 hLN
          refine ty_bipush hx hb (6) dL_law_27 (by decide) (fun x1215 h1216 => ?_)
          refine ty_isub hx hb dL_law_29 (fun x1217 h1218 => ?_)
          try have h1219 : x1217.toInt = x1212.toInt - x1215.toInt := ty_sub h1218 (by omega) (by omega)
          refine ty_icmp_gt (tgt := 1081) hx hb dL_law_30 (by decide) (fun c1220 => ?_) (fun c1220 => ?_)
          · skip
            refine ty_iconst hx hb (1) dL_law_1081 (by decide) (fun x1221 h1222 => ?_)
            obtain rfl : x1221 = 1 := ty_eq32.mpr (by rw [Int32.toInt_one]; omega)
            refine va_forget (fun q hq => hsz ▸ hS.2.2 q hq) ?_
            refine W.widen (k := 600002) (n := 7302232) (Nat.le_of_ble_eq_true rfl) (Nat.le_of_ble_eq_true rfl) ?_
            exact lw_ret hx hb hr hlocks dL_law_1082
          · exfalso; omega
        · exfalso; omega
      · skip
        refine lv_tableIn (tgt := 945) (off := 905) hx hb dL_law_40 (by omega) (by omega) (by rw [q85]; rfl) (by decide) ?_
        refine lv_aload_n hx hb dL_law_945 rfl (lv_at hl 3 rfl) ?_
        refine lv_aload_n hx hb dL_law_946 rfl (lv_at hl 4 rfl) ?_
        refine lv_iload hx hb dL_law_947 (lv_at hl 0 rfl) ?_
        refine ty_iconst hx hb (1) dL_law_949 (by decide) (fun x1223 h1224 => ?_)
        refine ty_iadd hx hb dL_law_950 (fun x1225 h1226 => ?_)
        try have h1227 : x1225.toInt = x30.toInt + x1223.toInt := ty_add h1226 (by omega) (by omega)
        refine va_sld hx hb hXs hbl hbA hS (i := x1225) (ty_ix (by omega)) dL_law_951 ?_
        refine lv_topi (fun x1228 s1229 => ?_)
        refine lv_aload_n hx hb dL_law_952 rfl (lv_at hl 4 rfl) ?_
        refine lv_iload hx hb dL_law_953 (lv_at hl 0 rfl) ?_
        refine ty_iconst hx hb (2) dL_law_955 (by decide) (fun x1230 h1231 => ?_)
        refine ty_iadd hx hb dL_law_956 (fun x1232 h1233 => ?_)
        try have h1234 : x1232.toInt = x30.toInt + x1230.toInt := ty_add h1233 (by omega) (by omega)
        refine va_sld hx hb hXs hbl hbA hS (i := x1232) (ty_ix (by omega)) dL_law_957 ?_
        refine lv_topi (fun x1235 s1236 => ?_)
        refine lv_aload_n hx hb dL_law_958 rfl (lv_at hl 1 rfl) ?_
        have hk1237 : g16 3 0 = g 3 0 := hf19 3 0 (by decide)
        refine vx_calli (vx_runSX (As := [.ref q1, .int x1228, .int x1235, .ref q25]) (rest := []) ⟨hx, hb, hml, hown, hA⟩ (f_L_of l hl9 dC dI dA sz X Γ26 hU g16 q1 t_q1 x1228 x1235 q25 t_q25 (by omega)) (vx_cwSW 4 hA (al_s4 (al wt_4_52 rfl) wd_4_50 wd_4_51 wd_1_0) rfl rfl rfl (by decide +kernel) ⟨Nat.le_of_ble_eq_true rfl, Nat.le_of_ble_eq_true rfl⟩) ⟨bl, fun U hU9 hW9 => ⟨rfl, by rw [hU9]; exact hG, hE.go hS hU9 hW9⟩⟩ rfl rfl hl.1 rfl (lv_room (Nat.le_of_ble_eq_true rfl)) dL_law_959 ⟨Nat.le_of_ble_eq_true rfl, Nat.le_of_ble_eq_true rfl⟩) hS (fun _ _ h => h) (fun _ h => h) (fun _ _ h => h) (fun E ce q9 u t H1 locs1 ht _ hp hB _ _ hS hce hcv hcl => hp.elim) (fun x1238 u1239 t9 H locs ht9 _ w1240 hB _ _ hS => ?_)
        have hG : ty_ok (dC, dI) vwCl Γ26 (TP dA Γ26 u1239) sz X H := by rw [← ht9]; exact hB
        obtain ⟨eu1241, w1240⟩ := w1240
        rw [eu1241] at hG
        clear hB
        refine lv_istore (lv' := [(5, .int x1238), (4, .int x30), (3, .ref q25), (2, .ref q12), (1, .ref q1), (0, .ref b)]) hx hb dL_law_962 hl (by decide) rfl (fun ls hl => ?_)
        refine lv_aload_n hx hb dL_law_964 rfl (lv_at hl 3 rfl) ?_
        refine lv_aload_n hx hb dL_law_965 rfl (lv_at hl 5 rfl) ?_
        refine lv_iload hx hb dL_law_966 (lv_at hl 1 rfl) ?_
        refine ty_iconst hx hb (1) dL_law_968 (by decide) (fun x1242 h1243 => ?_)
        refine ty_iadd hx hb dL_law_969 (fun x1244 h1245 => ?_)
        try have h1246 : x1244.toInt = x30.toInt + x1242.toInt := ty_add h1245 (by omega) (by omega)
        refine va_sld hx hb hXs hbl hbA hS (i := x1244) (ty_ix (by omega)) dL_law_970 ?_
        rw [lw_same (j := x1244) s1229 (by omega)]
        refine lv_aload_n hx hb dL_law_971 rfl (lv_at hl 5 rfl) ?_
        refine lv_iload hx hb dL_law_972 (lv_at hl 1 rfl) ?_
        refine ty_iconst hx hb (2) dL_law_974 (by decide) (fun x1247 h1248 => ?_)
        refine ty_iadd hx hb dL_law_975 (fun x1249 h1250 => ?_)
        try have h1251 : x1249.toInt = x30.toInt + x1247.toInt := ty_add h1250 (by omega) (by omega)
        refine va_sld hx hb hXs hbl hbA hS (i := x1249) (ty_ix (by omega)) dL_law_976 ?_
        rw [lw_same (j := x1249) s1236 (by omega)]
        have hk1252 : g16 126 0 = g 126 0 := hf19 126 0 (by decide)
        refine cI (va_runV (C := RX9) (As := [.int x1228, .int x1235]) (rest := []) ⟨hx, hb, hml, hown, hA⟩ (f_X9_of l dC dI dA sz X Γ26 hU g16 q12 t_q12 x1228 x1235   (by omega)) ⟨callB_of 2 hA (al_A wd_5_234) rfl rfl rfl (hA _ wd_1_7) (hA _ wd_5_231) (by decide +kernel) ⟨Nat.le_of_ble_eq_true rfl, Nat.le_of_ble_eq_true rfl⟩, hA _ wd_5_232, hA _ wd_5_233⟩ ⟨bl, recv_X9 hE hG t_q12, fun U hU9 hW9 => ⟨rfl, by rw [hU9]; exact hG, hE.go hS hU9 hW9⟩⟩ rfl rfl hl.1 rfl (lv_room (Nat.le_of_ble_eq_true rfl)) dL_law_977 ⟨Nat.le_of_ble_eq_true rfl, Nat.le_of_ble_eq_true rfl⟩) hS (fun x1255 u1253 H locs w1254 hG hS => ?_)
        obtain ⟨hf1256, w1254⟩ := w1254
        refine lv_istore (lv' := [(6, .int x1255), (5, .int x1238), (4, .int x30), (3, .ref q25), (2, .ref q12), (1, .ref q1), (0, .ref b)]) hx hb dL_law_980 hl (by decide) rfl (fun ls hl => ?_)
        refine lv_aload_n hx hb dL_law_982 rfl (lv_at hl 4 rfl) ?_
        refine cI (va_runV (C := RX9) (As := []) (rest := []) ⟨hx, hb, hml, hown, hA⟩ (k_X9_thrown l dC dI dA sz X Γ26 hU u1253 q12 t_q12   ) ⟨callB_of 0 hA (al_A wd_4_127) rfl rfl rfl (hA _ wd_1_7) (hA _ wd_4_124) (by decide +kernel) ⟨Nat.le_of_ble_eq_true rfl, Nat.le_of_ble_eq_true rfl⟩, hA _ wd_4_125, hA _ wd_4_126⟩ ⟨bl, recv_X9 hE hG t_q12, fun U hU9 hW9 => ⟨rfl, by rw [hU9]; exact hG, hE.go hS hU9 hW9⟩⟩ rfl rfl hl.1 rfl (lv_room (Nat.le_of_ble_eq_true rfl)) dL_law_983 ⟨Nat.le_of_ble_eq_true rfl, Nat.le_of_ble_eq_true rfl⟩) hS (fun x1259 u1257 H locs w1258 hG hS => ?_)
        obtain ⟨eu1260, w1258⟩ := w1258
        rw [eu1260] at hG
        refine lv_iload hx hb dL_law_986 (lv_at hl 1 rfl) ?_
        refine ty_icmp_eq (tgt := 993) hx hb dL_law_988 (by decide) (fun c1261 => ?_) (fun c1261 => ?_)
        · skip
          refine lv_iload hx hb dL_law_993 (lv_at hl 1 rfl) ?_
          refine ty_if_ne (tgt := 1010) hx hb dL_law_995 (by decide) (fun c1262 => ?_) (fun c1262 => ?_)
          · skip
            refine lv_goto (tgt := 1075) hx hb dL_law_1010 (by decide) ?_
            obtain ⟨x1263, h1264⟩ : ∃ y : Int32, y = x30 + Int32.ofInt (6) := ⟨_, rfl⟩
            try have h1265 : x1263.toInt = x30.toInt + (6) := ty_inc h1264 (by decide) (by omega) (by omega)
            refine lv_iinc (v := x1263) (lv' := [(4, .int x1263), (6, .int x1255), (5, .int x1238), (3, .ref q25), (2, .ref q12), (1, .ref q1), (0, .ref b)]) hx hb dL_law_1075 hl (k := 2) rfl h1264.symm (by decide) rfl (fun ls hl => ?_)
            refine lv_goto (tgt := 23) hx hb dL_law_1078 (by decide) ?_
            refine lv_iload hx hb dL_law_23 (lv_at hl 0 rfl) ?_
            refine lv_aload_n hx hb dL_law_25 rfl (lv_at hl 6 rfl) ?_
            refine va_slen hx hb hXs hbl hbA hS dL_law_26 ?_
            refine lv_topi (fun x1266 h1267 => ?_)
            have h1268 := lw_len h1267 hLN
            refine ty_bipush hx hb (6) dL_law_27 (by decide) (fun x1269 h1270 => ?_)
            refine ty_isub hx hb dL_law_29 (fun x1271 h1272 => ?_)
            try have h1273 : x1271.toInt = x1266.toInt - x1269.toInt := ty_sub h1272 (by omega) (by omega)
            refine ty_icmp_gt (tgt := 1081) hx hb dL_law_30 (by decide) (fun c1274 => ?_) (fun c1274 => ?_)
            · skip
              refine ty_iconst hx hb (1) dL_law_1081 (by decide) (fun x1275 h1276 => ?_)
              obtain rfl : x1275 = 1 := ty_eq32.mpr (by rw [Int32.toInt_one]; omega)
              refine va_forget (fun q hq => hsz ▸ hS.2.2 q hq) ?_
              refine W.widen (k := 600002) (n := 7302232) (Nat.le_of_ble_eq_true rfl) (Nat.le_of_ble_eq_true rfl) ?_
              exact lw_ret hx hb hr hlocks dL_law_1082
            · exfalso; omega
          · exfalso; omega
        · exfalso; omega
      · skip
        refine lv_tableIn (tgt := 1013) (off := 973) hx hb dL_law_40 (by omega) (by omega) (by rw [q86]; rfl) (by decide) ?_
        refine lv_aload_n hx hb dL_law_1013 rfl (lv_at hl 3 rfl) ?_
        refine lv_aload_n hx hb dL_law_1014 rfl (lv_at hl 4 rfl) ?_
        refine lv_iload hx hb dL_law_1015 (lv_at hl 0 rfl) ?_
        refine ty_iconst hx hb (1) dL_law_1017 (by decide) (fun x1277 h1278 => ?_)
        refine ty_iadd hx hb dL_law_1018 (fun x1279 h1280 => ?_)
        try have h1281 : x1279.toInt = x30.toInt + x1277.toInt := ty_add h1280 (by omega) (by omega)
        refine va_sld hx hb hXs hbl hbA hS (i := x1279) (ty_ix (by omega)) dL_law_1019 ?_
        refine lv_topi (fun x1282 s1283 => ?_)
        refine lv_aload_n hx hb dL_law_1020 rfl (lv_at hl 4 rfl) ?_
        refine lv_iload hx hb dL_law_1021 (lv_at hl 0 rfl) ?_
        refine ty_iconst hx hb (2) dL_law_1023 (by decide) (fun x1284 h1285 => ?_)
        refine ty_iadd hx hb dL_law_1024 (fun x1286 h1287 => ?_)
        try have h1288 : x1286.toInt = x30.toInt + x1284.toInt := ty_add h1287 (by omega) (by omega)
        refine va_sld hx hb hXs hbl hbA hS (i := x1286) (ty_ix (by omega)) dL_law_1025 ?_
        refine lv_topi (fun x1289 s1290 => ?_)
        have hk1291 : g16 2 0 = g 2 0 := hf19 2 0 (by decide)
        refine cI (va_runV (C := RX8) (As := [.int x1282, .int x1289]) (rest := []) ⟨hx, hb, hml, hown, hA⟩ (f_X8_ownerOf l dC dI dA sz X Γ26 hU g16 q1 t_q1 x1282 x1289   (by omega)) ⟨callB_of 2 hA (al_A wd_4_41) rfl rfl rfl (hA _ wd_1_1) (hA _ wd_4_38) (by decide +kernel) ⟨Nat.le_of_ble_eq_true rfl, Nat.le_of_ble_eq_true rfl⟩, hA _ wd_4_39, hA _ wd_4_40⟩ ⟨bl, recv_X8 hE hG t_q1, fun U hU9 hW9 => ⟨rfl, by rw [hU9]; exact hG, hE.go hS hU9 hW9⟩⟩ rfl rfl hl.1 rfl (lv_room (Nat.le_of_ble_eq_true rfl)) dL_law_1026 ⟨Nat.le_of_ble_eq_true rfl, Nat.le_of_ble_eq_true rfl⟩) hS (fun x1294 u1292 H locs w1293 hG hS => ?_)
        obtain ⟨eu1295, w1293⟩ := w1293
        rw [eu1295] at hG
        refine lv_aload_n hx hb dL_law_1029 rfl (lv_at hl 2 rfl) ?_
        refine lv_aload_n hx hb dL_law_1030 rfl (lv_at hl 4 rfl) ?_
        refine lv_iload hx hb dL_law_1031 (lv_at hl 0 rfl) ?_
        refine ty_iconst hx hb (1) dL_law_1033 (by decide) (fun x1296 h1297 => ?_)
        refine ty_iadd hx hb dL_law_1034 (fun x1298 h1299 => ?_)
        try have h1300 : x1298.toInt = x30.toInt + x1296.toInt := ty_add h1299 (by omega) (by omega)
        refine va_sld hx hb hXs hbl hbA hS (i := x1298) (ty_ix (by omega)) dL_law_1035 ?_
        rw [lw_same (j := x1298) s1283 (by omega)]
        refine lv_aload_n hx hb dL_law_1036 rfl (lv_at hl 4 rfl) ?_
        refine lv_iload hx hb dL_law_1037 (lv_at hl 0 rfl) ?_
        refine ty_iconst hx hb (2) dL_law_1039 (by decide) (fun x1301 h1302 => ?_)
        refine ty_iadd hx hb dL_law_1040 (fun x1303 h1304 => ?_)
        try have h1305 : x1303.toInt = x30.toInt + x1301.toInt := ty_add h1304 (by omega) (by omega)
        refine va_sld hx hb hXs hbl hbA hS (i := x1303) (ty_ix (by omega)) dL_law_1041 ?_
        rw [lw_same (j := x1303) s1290 (by omega)]
        have hk1306 : g16 104 0 = g 104 0 := hf19 104 0 (by decide)
        refine cI (va_runV (C := RX9) (As := [.int x1282, .int x1289]) (rest := [.int x1294]) ⟨hx, hb, hml, hown, hA⟩ (f_X9_ownerOf l dC dI dA sz X Γ26 hU g16 q12 t_q12 x1282 x1289   (by omega)) ⟨callB_of 2 hA (al_A wd_5_238) rfl rfl rfl (hA _ wd_1_7) (hA _ wd_5_235) (by decide +kernel) ⟨Nat.le_of_ble_eq_true rfl, Nat.le_of_ble_eq_true rfl⟩, hA _ wd_5_236, hA _ wd_5_237⟩ ⟨bl, recv_X9 hE hG t_q12, fun U hU9 hW9 => ⟨rfl, by rw [hU9]; exact hG, hE.go hS hU9 hW9⟩⟩ rfl rfl hl.1 rfl (lv_room (Nat.le_of_ble_eq_true rfl)) dL_law_1042 ⟨Nat.le_of_ble_eq_true rfl, Nat.le_of_ble_eq_true rfl⟩) hS (fun x1309 u1307 H locs w1308 hG hS => ?_)
        obtain ⟨hf1310, w1308⟩ := w1308
        refine ty_icmp_eq (tgt := 1075) hx hb dL_law_1045 (by decide) (fun c1311 => ?_) (fun c1311 => ?_)
        · skip
          obtain ⟨x1312, h1313⟩ : ∃ y : Int32, y = x30 + Int32.ofInt (6) := ⟨_, rfl⟩
          try have h1314 : x1312.toInt = x30.toInt + (6) := ty_inc h1313 (by decide) (by omega) (by omega)
          refine lv_iinc (v := x1312) (lv' := [(4, .int x1312), (3, .ref q25), (2, .ref q12), (1, .ref q1), (0, .ref b)]) hx hb dL_law_1075 hl (k := 0) rfl h1313.symm (by decide) rfl (fun ls hl => ?_)
          refine lv_goto (tgt := 23) hx hb dL_law_1078 (by decide) ?_
          refine lv_iload hx hb dL_law_23 (lv_at hl 0 rfl) ?_
          refine lv_aload_n hx hb dL_law_25 rfl (lv_at hl 4 rfl) ?_
          refine va_slen hx hb hXs hbl hbA hS dL_law_26 ?_
          refine lv_topi (fun x1315 h1316 => ?_)
          have h1317 := lw_len h1316 hLN
          refine ty_bipush hx hb (6) dL_law_27 (by decide) (fun x1318 h1319 => ?_)
          refine ty_isub hx hb dL_law_29 (fun x1320 h1321 => ?_)
          try have h1322 : x1320.toInt = x1315.toInt - x1318.toInt := ty_sub h1321 (by omega) (by omega)
          refine ty_icmp_gt (tgt := 1081) hx hb dL_law_30 (by decide) (fun c1323 => ?_) (fun c1323 => ?_)
          · skip
            refine ty_iconst hx hb (1) dL_law_1081 (by decide) (fun x1324 h1325 => ?_)
            obtain rfl : x1324 = 1 := ty_eq32.mpr (by rw [Int32.toInt_one]; omega)
            refine va_forget (fun q hq => hsz ▸ hS.2.2 q hq) ?_
            refine W.widen (k := 600002) (n := 7302232) (Nat.le_of_ble_eq_true rfl) (Nat.le_of_ble_eq_true rfl) ?_
            exact lw_ret hx hb hr hlocks dL_law_1082
          · exfalso; omega
        · exfalso; omega
      · skip
        refine lv_tableIn (tgt := 1050) (off := 1010) hx hb dL_law_40 (by omega) (by omega) (by rw [q87]; rfl) (by decide) ?_
        refine lv_aload_n hx hb dL_law_1050 rfl (lv_at hl 3 rfl) ?_
        refine lv_aload_n hx hb dL_law_1051 rfl (lv_at hl 4 rfl) ?_
        refine lv_iload hx hb dL_law_1052 (lv_at hl 0 rfl) ?_
        refine ty_iconst hx hb (1) dL_law_1054 (by decide) (fun x1326 h1327 => ?_)
        refine ty_iadd hx hb dL_law_1055 (fun x1328 h1329 => ?_)
        try have h1330 : x1328.toInt = x30.toInt + x1326.toInt := ty_add h1329 (by omega) (by omega)
        refine va_sld hx hb hXs hbl hbA hS (i := x1328) (ty_ix (by omega)) dL_law_1056 ?_
        refine lv_topi (fun x1331 s1332 => ?_)
        have hk1333 : g16 1 0 = g 1 0 := hf19 1 0 (by decide)
        have hk1334 : g16 2 0 = g 2 0 := hf19 2 0 (by decide)
        have hk1335 : g16 3 0 = g 3 0 := hf19 3 0 (by decide)
        have hk1336 : g16 4 0 = g 4 0 := hf19 4 0 (by decide)
        have hk1337 : g16 5 0 = g 5 0 := hf19 5 0 (by decide)
        have hk1338 : g16 6 0 = g 6 0 := hf19 6 0 (by decide)
        have hk1339 : g16 11 0 = g 11 0 := hf19 11 0 (by decide)
        have hk1340 : g16 13 0 = g 13 0 := hf19 13 0 (by decide)
        refine cI (va_runV (C := RX8) (As := [.int x1331]) (rest := []) ⟨hx, hb, hml, hown, hA⟩ (f_X8_count l dC dI dA sz X Γ26 hU g16 q1 t_q1 x1331   (by omega) (by omega) (by omega) (by omega)) ⟨callB_of 1 hA (al_A wd_4_45) rfl rfl rfl (hA _ wd_1_1) (hA _ wd_4_42) (by decide +kernel) ⟨Nat.le_of_ble_eq_true rfl, Nat.le_of_ble_eq_true rfl⟩, hA _ wd_4_43, hA _ wd_4_44⟩ ⟨bl, recv_X8 hE hG t_q1, fun U hU9 hW9 => ⟨rfl, by rw [hU9]; exact hG, hE.go hS hU9 hW9⟩⟩ rfl rfl hl.1 rfl (lv_room (Nat.le_of_ble_eq_true rfl)) dL_law_1057 ⟨Nat.le_of_ble_eq_true rfl, Nat.le_of_ble_eq_true rfl⟩) hS (fun x1343 u1341 H locs w1342 hG hS => ?_)
        obtain ⟨eu1344, w1342⟩ := w1342
        rw [eu1344] at hG
        refine lv_aload_n hx hb dL_law_1060 rfl (lv_at hl 2 rfl) ?_
        refine lv_aload_n hx hb dL_law_1061 rfl (lv_at hl 4 rfl) ?_
        refine lv_iload hx hb dL_law_1062 (lv_at hl 0 rfl) ?_
        refine ty_iconst hx hb (1) dL_law_1064 (by decide) (fun x1345 h1346 => ?_)
        refine ty_iadd hx hb dL_law_1065 (fun x1347 h1348 => ?_)
        try have h1349 : x1347.toInt = x30.toInt + x1345.toInt := ty_add h1348 (by omega) (by omega)
        refine va_sld hx hb hXs hbl hbA hS (i := x1347) (ty_ix (by omega)) dL_law_1066 ?_
        rw [lw_same (j := x1347) s1332 (by omega)]
        have hk1350 : g16 101 0 = g 101 0 := hf19 101 0 (by decide)
        have hk1351 : g16 104 0 = g 104 0 := hf19 104 0 (by decide)
        have hk1352 : g16 126 0 = g 126 0 := hf19 126 0 (by decide)
        have hk1353 : g16 111 0 = g 111 0 := hf19 111 0 (by decide)
        have hk1354 : g16 112 0 = g 112 0 := hf19 112 0 (by decide)
        have hk1355 : g16 114 0 = g 114 0 := hf19 114 0 (by decide)
        have hk1356 : g16 122 0 = g 122 0 := hf19 122 0 (by decide)
        refine cI (va_runV (C := RX9) (As := [.int x1331]) (rest := [.int x1343]) ⟨hx, hb, hml, hown, hA⟩ (f_X9_count l dC dI dA sz X Γ26 hU g16 q12 t_q12 x1331   (by omega) (by omega) (by omega) (by omega)) ⟨callB_of 1 hA (al_A wd_6_2) rfl rfl rfl (hA _ wd_1_7) (hA _ wd_5_239) (by decide +kernel) ⟨Nat.le_of_ble_eq_true rfl, Nat.le_of_ble_eq_true rfl⟩, hA _ wd_6_0, hA _ wd_6_1⟩ ⟨bl, recv_X9 hE hG t_q12, fun U hU9 hW9 => ⟨rfl, by rw [hU9]; exact hG, hE.go hS hU9 hW9⟩⟩ rfl rfl hl.1 rfl (lv_room (Nat.le_of_ble_eq_true rfl)) dL_law_1067 ⟨Nat.le_of_ble_eq_true rfl, Nat.le_of_ble_eq_true rfl⟩) hS (fun x1359 u1357 H locs w1358 hG hS => ?_)
        obtain ⟨hf1360, w1358⟩ := w1358
        refine ty_icmp_eq (tgt := 1075) hx hb dL_law_1070 (by decide) (fun c1361 => ?_) (fun c1361 => ?_)
        · skip
          obtain ⟨x1362, h1363⟩ : ∃ y : Int32, y = x30 + Int32.ofInt (6) := ⟨_, rfl⟩
          try have h1364 : x1362.toInt = x30.toInt + (6) := ty_inc h1363 (by decide) (by omega) (by omega)
          refine lv_iinc (v := x1362) (lv' := [(4, .int x1362), (3, .ref q25), (2, .ref q12), (1, .ref q1), (0, .ref b)]) hx hb dL_law_1075 hl (k := 0) rfl h1363.symm (by decide) rfl (fun ls hl => ?_)
          refine lv_goto (tgt := 23) hx hb dL_law_1078 (by decide) ?_
          refine lv_iload hx hb dL_law_23 (lv_at hl 0 rfl) ?_
          refine lv_aload_n hx hb dL_law_25 rfl (lv_at hl 4 rfl) ?_
          refine va_slen hx hb hXs hbl hbA hS dL_law_26 ?_
          refine lv_topi (fun x1365 h1366 => ?_)
          have h1367 := lw_len h1366 hLN
          refine ty_bipush hx hb (6) dL_law_27 (by decide) (fun x1368 h1369 => ?_)
          refine ty_isub hx hb dL_law_29 (fun x1370 h1371 => ?_)
          try have h1372 : x1370.toInt = x1365.toInt - x1368.toInt := ty_sub h1371 (by omega) (by omega)
          refine ty_icmp_gt (tgt := 1081) hx hb dL_law_30 (by decide) (fun c1373 => ?_) (fun c1373 => ?_)
          · skip
            refine ty_iconst hx hb (1) dL_law_1081 (by decide) (fun x1374 h1375 => ?_)
            obtain rfl : x1374 = 1 := ty_eq32.mpr (by rw [Int32.toInt_one]; omega)
            refine va_forget (fun q hq => hsz ▸ hS.2.2 q hq) ?_
            refine W.widen (k := 600002) (n := 7302232) (Nat.le_of_ble_eq_true rfl) (Nat.le_of_ble_eq_true rfl) ?_
            exact lw_ret hx hb hr hlocks dL_law_1082
          · exfalso; omega
        · exfalso; omega
