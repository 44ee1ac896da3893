set_option maxHeartbeats 4000000 in
set_option maxRecDepth 100000 in
/-- WeekBankModel.give:  -/
theorem k_X9_give (l : Launch) (dC : Nat → ClassId) (dI : Nat → Nat → Nat) (dA : Nat → ClassId) (sz : Nat) (X : va_W) (Γ : ty_G) (hU : Un Γ) (g : gh) (h0 : Nat) (t_h0 : ty Γ h0 30) (p1 : Int32) (p2 : Int32) (p3 : Int32) (m1 : 0 ≤ g 101 0 ∧ g 101 0 ≤ 6) (m4 : 0 ≤ g 104 0 ∧ g 104 0 ≤ 10) (m26 : 0 ≤ g 126 0 ∧ g 126 0 ≤ 200) (m22 : 0 ≤ g 122 0 ∧ g 122 0 ≤ 30) (m12 : 0 ≤ g 112 0 ∧ g 112 0 ≤ 52) (hIJ : IJ g) : Met l yX9_give (.code yX9_give cX9_give 5 (Option.some Jvm.ClassFile.FieldType.int) :: AL) ({ frames := 2, cells := 0, slots := 0, locals := 51 }) (PCx dC dI dA sz X Γ g [.ref h0, .int p1, .int p2, .int p3]) (va_Qi (fun (r : Int32) (u : gh) => (∀ c j : Nat, c ≠ 100 → c ≠ 126 → c ≠ 127 → c ≠ 128 → c ≠ 129 → c ≠ 130 → c ≠ 131 → c ≠ 132 → c ≠ 133 → c ≠ 134 → c ≠ 135 → u c j = g c j) ∧ (IJ u) ∧ ((gv_c (g 101 0) (g 104 0) (g 126 0) (g 112 0) (g 108) (g 109) (g 110) (ga_f (g 128) (g 129) (g 130) p2.toInt p3.toInt (g 111 0) (g 126 0).toNat) (g 132) p1.toInt p2.toInt p3.toInt = 0 → r.toInt = g 126 0 ∧ u 126 0 = g 126 0 + 1 ∧ u 127 = pz_up (g 127) (g 126 0).toNat p1.toInt ∧ u 128 = pz_up (g 128) (g 126 0).toNat p2.toInt ∧ u 129 = pz_up (g 129) (g 126 0).toNat p3.toInt ∧ u 130 = pz_up (g 130) (g 126 0).toNat (g 111 0) ∧ u 131 = pz_up (g 131) (g 126 0).toNat (wm_w (g 123) p3.toInt ((g 103) p2.toInt.toNat) (p3.toInt - (g 112) 0) ((g 122) 0).toNat) ∧ u 132 = pz_up (g 132) (g 126 0).toNat 0 ∧ u 133 = pz_up (g 133) (g 126 0).toNat (-1) ∧ u 134 = pz_up (g 134) (g 126 0).toNat (-1) ∧ u 135 = pz_up (g 135) (4 * (g 126 0).toNat + 3) 0) ∧ (gv_c (g 101 0) (g 104 0) (g 126 0) (g 112 0) (g 108) (g 109) (g 110) (ga_f (g 128) (g 129) (g 130) p2.toInt p3.toInt (g 111 0) (g 126 0).toNat) (g 132) p1.toInt p2.toInt p3.toInt ≠ 0 → r.toInt = gv_c (g 101 0) (g 104 0) (g 126 0) (g 112 0) (g 108) (g 109) (g 110) (ga_f (g 128) (g 129) (g 130) p2.toInt p3.toInt (g 111 0) (g 126 0).toNat) (g 132) p1.toInt p2.toInt p3.toInt ∧ u 126 0 = g 126 0 ∧ u 127 = g 127 ∧ u 128 = g 128 ∧ u 129 = g 129 ∧ u 130 = g 130 ∧ u 131 = g 131 ∧ u 132 = g 132 ∧ u 133 = g 133 ∧ u 134 = g 134 ∧ u 135 = g 135))) (okb dC dI dA sz X Γ) (ty_A sz)) 0 0 (ty_A sz) := by
  refine Met.ofW (cc := cX9_give) (maxL := 5) (ret := (Option.some Jvm.ClassFile.FieldType.int)) (by decide) rfl ?_
  intro p e s m args below meth c s₁ B hml hv
  obtain ⟨rfl, hG, hE⟩ := hv
  have hx := B.exec
  have hb := B.bytes
  have hr := B.returns
  have hts := atoms_spec B.pre
  have hA : ∀ w ∈ AL, w.before _ s = true := fun w h => hts w (List.mem_cons_of_mem _ h)
  have hown : s.vm.findClass RX9 = some m.cls := findClass_of_methodNamed B.named
  have hlocks := B.notSynchronized
  have hS : va_S (ty_A sz) s.heap s.heap [] := va_S.rf
  have hj9 := hIJ.2
  have hl := lv_entry ([.ref h0, .int p1, .int p2, .int p3]) (n := 5) (Nat.le_of_ble_eq_true rfl)
  rw [lg_entry_eq]
  generalize (lg_sl ([.ref h0, .int p1, .int p2, .int p3]) ++ List.replicate (5 - (lg_sl ([.ref h0, .int p1, .int p2, .int p3])).length) Slot.unset).toArray = ls at hl ⊢
  have hl : lv_has ls 5 [(0, .ref h0), (1, .int p1), (2, .int p2), (3, .int p3)] := hl
  refine lv_aload_n hx hb dX9_give_0 rfl (lv_at hl 0 rfl) ?_
  refine ty_iconst hx hb (0) dX9_give_1 (by decide) (fun x1 h2 => ?_)
  refine put_X9_0 hx hb hA hown hE hG hS hU t_h0 wd_4_130 dX9_give_2 (fun H locs hG hS => ?_)
  refine lv_aload_n hx hb dX9_give_5 rfl (lv_at hl 0 rfl) ?_
  refine lv_iload_n hx hb dX9_give_6 rfl (lv_at hl 1 rfl) ?_
  have e3 : (gs g 100 0 x1.toInt) 104 0 = g 104 0 := by rw [gs_c _ _ _ _ (by decide)]
  have e4 : (gs g 100 0 x1.toInt) 104 0 = g 104 0 := by rw [gs_c _ _ _ _ (by decide)]
  have e5 : (gs g 100 0 x1.toInt) 108 p1.toInt.toNat = g 108 p1.toInt.toNat := by rw [gs_c _ _ _ _ (by decide)]
  refine cI (va_runV (C := RX9) (As := [.int p1]) (rest := []) ⟨hx, hb, hml, hown, hA⟩ (k_X9_isAlive l dC dI dA sz X Γ hU (gs g 100 0 x1.toInt) h0 t_h0 p1   (by omega)) ⟨callB_of 1 hA (al_A wd_5_54) rfl rfl rfl (hA _ wd_1_7) (hA _ wd_5_51) (by decide +kernel) ⟨Nat.le_of_ble_eq_true rfl, Nat.le_of_ble_eq_true rfl⟩, hA _ wd_5_53, hA _ ws_37⟩ ⟨bl, recv_X9 hE hG t_h0, fun U hU9 hW9 => ⟨rfl, by rw [hU9]; exact hG, hE.go hS hU9 hW9⟩⟩ rfl rfl hl.1 rfl (lv_room (Nat.le_of_ble_eq_true rfl)) dX9_give_7 ⟨Nat.zero_le _, Nat.zero_le _⟩) hS (fun x8 u6 H locs w7 hG hS => ?_)
  obtain ⟨eu9, w7⟩ := w7
  rw [eu9] at hG
  rcases pz_or w7 with w7 | w7
  · skip
    refine ty_if_eq (tgt := 22) hx hb dX9_give_10 (by decide) (fun c10 => ?_) (fun c10 => ?_)
    · exfalso; omega
    · skip
      refine lv_aload_n hx hb dX9_give_13 rfl (lv_at hl 0 rfl) ?_
      refine lv_iload_n hx hb dX9_give_14 rfl (lv_at hl 2 rfl) ?_
      refine lv_iload_n hx hb dX9_give_15 rfl (lv_at hl 3 rfl) ?_
      have e11 : (gs g 100 0 x1.toInt) 101 0 = g 101 0 := by rw [gs_c _ _ _ _ (by decide)]
      refine cI (va_runV (C := RX9) (As := [.int p2, .int p3]) (rest := []) ⟨hx, hb, hml, hown, hA⟩ (k_X9_isPlace l dC dI dA sz X Γ hU (gs g 100 0 x1.toInt) h0 t_h0 p2 p3   ) ⟨callB_of 2 hA (al_A wd_5_50) rfl rfl rfl (hA _ wd_1_7) (hA _ wd_5_47) (by decide +kernel) ⟨Nat.le_of_ble_eq_true rfl, Nat.le_of_ble_eq_true rfl⟩, hA _ wd_5_49, hA _ ws_36⟩ ⟨bl, recv_X9 hE hG t_h0, fun U hU9 hW9 => ⟨rfl, by rw [hU9]; exact hG, hE.go hS hU9 hW9⟩⟩ rfl rfl hl.1 rfl (lv_room (Nat.le_of_ble_eq_true rfl)) dX9_give_16 ⟨Nat.zero_le _, Nat.zero_le _⟩) hS (fun x14 u12 H locs w13 hG hS => ?_)
      obtain ⟨eu15, w13⟩ := w13
      rw [eu15] at hG
      refine ty_if_ne (tgt := 24) hx hb dX9_give_19 (by decide) (fun c16 => ?_) (fun c16 => ?_)
      · skip
        refine lv_aload_n hx hb dX9_give_24 rfl (lv_at hl 0 rfl) ?_
        refine get_X9_9 hx hb hA hown hE hG t_h0 wd_4_139 dX9_give_25 (fun b17 (t_b17 : ty Γ b17 109) => ?_)
        refine ty_bipush hx hb (53) dX9_give_28 (by decide) (fun x18 h19 => ?_)
        refine lv_iload_n hx hb dX9_give_30 rfl (lv_at hl 2 rfl) ?_
        refine ty_imul hx hb dX9_give_31 (fun x20 h21 => ?_)
        try have h22 : x20.toInt = 53 * p2.toInt := ty_mull h21 (by omega) (by omega) (by omega)
        refine lv_iload_n hx hb dX9_give_32 rfl (lv_at hl 3 rfl) ?_
        refine ty_iadd hx hb dX9_give_33 (fun x23 h24 => ?_)
        try have h25 : x23.toInt = x20.toInt + p3.toInt := ty_add h24 (by omega) (by omega)
        refine ald_mI hx hb hE hG 9 rfl (n := 318) rfl (lo := -2147483648) (hi := 2147483647) rfl rfl t_b17 (by omega) dX9_give_34 (fun j27 x26 h28 h29 h30 => ?_)
        clear h30
        obtain rfl : j27 = x23.toInt.toNat := by omega
        rw [gs_c _ _ _ _ (by decide)] at h29
        replace h29 : x26.toInt = g 109 x23.toInt.toNat := h29
        replace h29 : x26.toInt = g 109 (53 * p2.toInt.toNat + p3.toInt.toNat) := by rw [h29, show x23.toInt.toNat = (53 * p2.toInt.toNat + p3.toInt.toNat) by omega]
        refine lv_iload_n hx hb dX9_give_35 rfl (lv_at hl 1 rfl) ?_
        refine ty_icmp_eq (tgt := 42) hx hb dX9_give_36 (by decide) (fun c31 => ?_) (fun c31 => ?_)
        · skip
          refine lv_iload_n hx hb dX9_give_42 rfl (lv_at hl 3 rfl) ?_
          refine lv_aload_n hx hb dX9_give_43 rfl (lv_at hl 0 rfl) ?_
          refine get_X9_12 hx hb hA hown hE hG t_h0 wd_4_142 dX9_give_44 (fun x32 h33 => ?_)
          replace h33 : x32.toInt = g 112 0 := by rw [h33, gs_c _ _ _ _ (by decide)]
          refine ty_icmp_gt (tgt := 53) hx hb dX9_give_47 (by decide) (fun c35 => ?_) (fun c35 => ?_)
          · skip
            refine lv_aload_n hx hb dX9_give_53 rfl (lv_at hl 0 rfl) ?_
            refine get_X9_10 hx hb hA hown hE hG t_h0 wd_4_140 dX9_give_54 (fun b36 (t_b36 : ty Γ b36 110) => ?_)
            refine ty_bipush hx hb (53) dX9_give_57 (by decide) (fun x37 h38 => ?_)
            refine lv_iload_n hx hb dX9_give_59 rfl (lv_at hl 2 rfl) ?_
            refine ty_imul hx hb dX9_give_60 (fun x39 h40 => ?_)
            try have h41 : x39.toInt = 53 * p2.toInt := ty_mull h40 (by omega) (by omega) (by omega)
            refine lv_iload_n hx hb dX9_give_61 rfl (lv_at hl 3 rfl) ?_
            refine ty_iadd hx hb dX9_give_62 (fun x42 h43 => ?_)
            try have h44 : x42.toInt = x39.toInt + p3.toInt := ty_add h43 (by omega) (by omega)
            refine ald_mZ hx hb hE hG 10 rfl (n := 318) rfl (lo := 0) (hi := 1) rfl rfl t_b36 (by omega) dX9_give_63 (fun j46 x45 h47 h48 h49 => ?_)
            obtain rfl : j46 = x42.toInt.toNat := by omega
            rw [gs_c _ _ _ _ (by decide)] at h48
            replace h48 : x45.toInt = g 110 x42.toInt.toNat := h48
            replace h48 : x45.toInt = g 110 (53 * p2.toInt.toNat + p3.toInt.toNat) := by rw [h48, show x42.toInt.toNat = (53 * p2.toInt.toNat + p3.toInt.toNat) by omega]
            refine ty_if_eq (tgt := 70) hx hb dX9_give_64 (by decide) (fun c50 => ?_) (fun c50 => ?_)
            · skip
              refine lv_aload_n hx hb dX9_give_70 rfl (lv_at hl 0 rfl) ?_
              refine lv_iload_n hx hb dX9_give_71 rfl (lv_at hl 2 rfl) ?_
              refine lv_iload_n hx hb dX9_give_72 rfl (lv_at hl 3 rfl) ?_
              have e51 : (gs g 100 0 x1.toInt) 126 0 = g 126 0 := by rw [gs_c _ _ _ _ (by decide)]
              have e52 : (gs g 100 0 x1.toInt) 126 0 = g 126 0 := by rw [gs_c _ _ _ _ (by decide)]
              refine cI (va_runV (C := RX9) (As := [.int p2, .int p3]) (rest := []) ⟨hx, hb, hml, hown, hA⟩ (k_X9_givenAt l dC dI dA sz X Γ hU (gs g 100 0 x1.toInt) h0 t_h0 p2 p3   (by omega)) ⟨callB_of 2 hA (al_A wd_5_58) rfl rfl rfl (hA _ wd_1_7) (hA _ wd_5_55) (by decide +kernel) ⟨Nat.le_of_ble_eq_true rfl, Nat.le_of_ble_eq_true rfl⟩, hA _ wd_5_57, hA _ ws_38⟩ ⟨bl, recv_X9 hE hG t_h0, fun U hU9 hW9 => ⟨rfl, by rw [hU9]; exact hG, hE.go hS hU9 hW9⟩⟩ rfl rfl hl.1 rfl (lv_room (Nat.le_of_ble_eq_true rfl)) dX9_give_73 ⟨Nat.zero_le _, Nat.zero_le _⟩) hS (fun x55 u53 H locs w54 hG hS => ?_)
              obtain ⟨eu56, w54⟩ := w54
              rw [eu56] at hG
              rw [show (gs g 100 0 x1.toInt) 128 = (g 128) by rw [gs_r _ _ _ (by decide)]] at w54
              rw [show (gs g 100 0 x1.toInt) 129 = (g 129) by rw [gs_r _ _ _ (by decide)]] at w54
              rw [show (gs g 100 0 x1.toInt) 130 = (g 130) by rw [gs_r _ _ _ (by decide)]] at w54
              rw [show (gs g 100 0 x1.toInt) 111 = (g 111) by rw [gs_r _ _ _ (by decide)]] at w54
              rw [show (gs g 100 0 x1.toInt) 126 = (g 126) by rw [gs_r _ _ _ (by decide)]] at w54
              refine lv_istore (lv' := [(4, .int x55), (0, .ref h0), (1, .int p1), (2, .int p2), (3, .int p3)]) hx hb dX9_give_76 hl (by decide) rfl (fun ls hl => ?_)
              refine lv_iload hx hb dX9_give_78 (lv_at hl 0 rfl) ?_
              refine ty_iconst hx hb (-1) dX9_give_80 (by decide) (fun x57 h58 => ?_)
              refine ty_icmp_eq (tgt := 98) hx hb dX9_give_81 (by decide) (fun c59 => ?_) (fun c59 => ?_)
              · skip
                refine lv_aload_n hx hb dX9_give_98 rfl (lv_at hl 1 rfl) ?_
                refine ty_iconst hx hb (0) dX9_give_99 (by decide) (fun x60 h61 => ?_)
                have e62 : (gs g 100 0 x1.toInt) 126 0 = g 126 0 := by rw [gs_c _ _ _ _ (by decide)]
                refine cI (va_runV (C := RX9) (As := [.int x60]) (rest := []) ⟨hx, hb, hml, hown, hA⟩ (k_X9_many l dC dI dA sz X Γ hU (gs g 100 0 x1.toInt) h0 t_h0 x60   (by omega)) ⟨callB_of 1 hA (al_A wd_5_128) rfl rfl rfl (hA _ wd_1_7) (hA _ wd_5_125) (by decide +kernel) ⟨Nat.le_of_ble_eq_true rfl, Nat.le_of_ble_eq_true rfl⟩, hA _ wd_5_127, hA _ ws_46⟩ ⟨bl, recv_X9 hE hG t_h0, fun U hU9 hW9 => ⟨rfl, by rw [hU9]; exact hG, hE.go hS hU9 hW9⟩⟩ rfl rfl hl.1 rfl (lv_room (Nat.le_of_ble_eq_true rfl)) dX9_give_100 ⟨Nat.zero_le _, Nat.zero_le _⟩) hS (fun x65 u63 H locs w64 hG hS => ?_)
                obtain ⟨eu66, w64⟩ := w64
                rw [eu66] at hG
                rw [show (gs g 100 0 x1.toInt) 126 = (g 126) by rw [gs_r _ _ _ (by decide)]] at w64
                rw [show (gs g 100 0 x1.toInt) 132 = (g 132) by rw [gs_r _ _ _ (by decide)]] at w64
                rw [show x60.toInt = 0 by omega] at w64
                refine ty_bipush hx hb (9) dX9_give_103 (by decide) (fun x67 h68 => ?_)
                refine ty_icmp_eq (tgt := 118) hx hb dX9_give_105 (by decide) (fun c69 => ?_) (fun c69 => ?_)
                · skip
                  refine ty_bipush hx hb (-6) dX9_give_118 (by decide) (fun x70 h71 => ?_)
                  exact W.iret (v := x70) hx hb hr (fun t ht hW => ⟨⟨x70, (gs g 100 0 x1.toInt), rfl, ⟨(fun c j h100 h126 h127 h128 h129 h130 h131 h132 h133 h134 h135 => by rw [gs_c _ _ _ _ h100]), (by first | exact hIJ9 | ((repeat (first | with_reducible assumption | (refine IJ_c (by decide) (by decide) (by decide) ?_) | (refine IJ_take (by omega) (by omega) ?_) | (refine IJ_how (by omega) ?_) | (refine IJ_by (by omega) ?_))))), (by have hcd : gv_c (g 101 0) (g 104 0) (g 126 0) (g 112 0) (g 108) (g 109) (g 110) (ga_f (g 128) (g 129) (g 130) p2.toInt p3.toInt (g 111 0) (g 126 0).toNat) (g 132) p1.toInt p2.toInt p3.toInt = -6 := (by unfold gv_c; rw [if_neg (by omega), if_neg (by omega), if_neg (by omega), if_neg (by omega), if_neg (by omega), if_pos (by omega)]); exact ⟨fun q => absurd (hcd.symm.trans q) (by decide), fun _ => ⟨(by rw [hcd]; omega), (by rw [gs_c _ _ _ _ (by decide)]), (by rw [gs_r _ _ _ (by decide)]), (by rw [gs_r _ _ _ (by decide)]), (by rw [gs_r _ _ _ (by decide)]), (by rw [gs_r _ _ _ (by decide)]), (by rw [gs_r _ _ _ (by decide)]), (by rw [gs_r _ _ _ (by decide)]), (by rw [gs_r _ _ _ (by decide)]), (by rw [gs_r _ _ _ (by decide)]), (by rw [gs_r _ _ _ (by decide)])⟩⟩)⟩, ok1 ht hG⟩, hS.F ht⟩) hS.2.2 dX9_give_120
                · skip
                  refine lv_aload_n hx hb dX9_give_108 rfl (lv_at hl 1 rfl) ?_
                  refine get_X9_26 hx hb hA hown hE hG t_h0 wd_4_156 dX9_give_109 (fun x72 h73 => ?_)
                  replace h73 : x72.toInt = g 126 0 := by rw [h73, gs_c _ _ _ _ (by decide)]
                  refine ty_sipush hx hb (200) dX9_give_112 (by decide) (fun x75 h76 => ?_)
                  refine ty_icmp_ne (tgt := 121) hx hb dX9_give_115 (by decide) (fun c77 => ?_) (fun c77 => ?_)
                  · skip
                    refine lv_aload_n hx hb dX9_give_121 rfl (lv_at hl 1 rfl) ?_
                    refine get_X9_27 hx hb hA hown hE hG t_h0 wd_4_157 dX9_give_122 (fun b78 (t_b78 : ty Γ b78 127) => ?_)
                    refine lv_aload_n hx hb dX9_give_125 rfl (lv_at hl 1 rfl) ?_
                    refine get_X9_26 hx hb hA hown hE hG t_h0 wd_4_156 dX9_give_126 (fun x79 h80 => ?_)
                    replace h80 : x79.toInt = g 126 0 := by rw [h80, gs_c _ _ _ _ (by decide)]
                    refine lv_iload_n hx hb dX9_give_129 rfl (lv_at hl 2 rfl) ?_
                    refine ast_mI hx hb hE hG hS hU 27 rfl (n := 200) rfl (lo := 0) (hi := 9) rfl rfl rfl t_b78 (by omega) (by omega) dX9_give_130 (fun H locs hG hS => ?_)
                    rw [show x79.toInt.toNat = ((g 126 0).toNat) by omega] at hG
                    refine lv_aload_n hx hb dX9_give_131 rfl (lv_at hl 1 rfl) ?_
                    refine get_X9_28 hx hb hA hown hE hG t_h0 wd_4_158 dX9_give_132 (fun b82 (t_b82 : ty Γ b82 128) => ?_)
                    refine lv_aload_n hx hb dX9_give_135 rfl (lv_at hl 1 rfl) ?_
                    refine get_X9_26 hx hb hA hown hE hG t_h0 wd_4_156 dX9_give_136 (fun x83 h84 => ?_)
                    replace h84 : x83.toInt = g 126 0 := by rw [h84, gs_c _ _ _ _ (by decide), gs_c _ _ _ _ (by decide)]
                    refine lv_iload_n hx hb dX9_give_139 rfl (lv_at hl 3 rfl) ?_
                    refine ast_mI hx hb hE hG hS hU 28 rfl (n := 200) rfl (lo := 0) (hi := 5) rfl rfl rfl t_b82 (by omega) (by omega) dX9_give_140 (fun H locs hG hS => ?_)
                    rw [show x83.toInt.toNat = ((g 126 0).toNat) by omega] at hG
                    generalize eg87 : (gs (gs (gs g 100 0 x1.toInt) 127 ((g 126 0).toNat) p1.toInt) 128 ((g 126 0).toNat) p2.toInt) = g86 at hG
                    have hf88 : ∀ c j : Nat, c ≠ 100 → c ≠ 127 → c ≠ 128 → g86 c j = g c j := fun c j h100 h127 h128 => by rw [← eg87, gs_c _ _ _ _ h128, gs_c _ _ _ _ h127, gs_c _ _ _ _ h100]
                    have v89 : g86 100 0 = x1.toInt := by rw [← eg87, gs_c _ _ _ _ (by decide), gs_c _ _ _ _ (by decide), gs_self]
                    have v90 : g86 127 ((g 126 0).toNat) = p1.toInt := by rw [← eg87, gs_c _ _ _ _ (by decide), gs_self]
                    have hw91 : g86 127 = (pz_up (g 127) ((g 126 0).toNat) p1.toInt) := by rw [← eg87, gs_r _ _ _ (by decide), pz_gs, gs_r _ _ _ (by decide)]
                    have v92 : g86 128 ((g 126 0).toNat) = p2.toInt := by rw [← eg87, gs_self]
                    have hw93 : g86 128 = (pz_up (g 128) ((g 126 0).toNat) p2.toInt) := by rw [← eg87, pz_gs, gs_r _ _ _ (by decide), gs_r _ _ _ (by decide)]
                    have hj94 : IJ g86 := IJ_cg (hf88 126 0 (by decide) (by decide) (by decide)) (fun j => hf88 132 j (by decide) (by decide) (by decide)) (fun j => hf88 134 j (by decide) (by decide) (by decide)) (by (repeat (first | with_reducible assumption | (refine IJ_c (by decide) (by decide) (by decide) ?_) | (refine IJ_take (by omega) (by omega) ?_) | (refine IJ_how (by omega) ?_) | (refine IJ_by (by omega) ?_))))
                    refine lv_aload_n hx hb dX9_give_141 rfl (lv_at hl 1 rfl) ?_
                    refine get_X9_29 hx hb hA hown hE hG t_h0 wd_4_159 dX9_give_142 (fun b95 (t_b95 : ty Γ b95 129) => ?_)
                    refine lv_aload_n hx hb dX9_give_145 rfl (lv_at hl 1 rfl) ?_
                    refine get_X9_26 hx hb hA hown hE hG t_h0 wd_4_156 dX9_give_146 (fun x96 h97 => ?_)
                    have hk99 : g86 126 0 = g 126 0 := hf88 126 0 (by decide) (by decide) (by decide)
                    refine lv_iload_n hx hb dX9_give_149 rfl (lv_at hl 4 rfl) ?_
                    refine ast_mI hx hb hE hG hS hU 29 rfl (n := 200) rfl (lo := -2147483648) (hi := 2147483647) rfl rfl rfl t_b95 (rgD _) (by omega) dX9_give_150 (fun H locs hG hS => ?_)
                    rw [show x96.toInt.toNat = ((g 126 0).toNat) by omega] at hG
                    refine lv_aload_n hx hb dX9_give_151 rfl (lv_at hl 1 rfl) ?_
                    refine get_X9_30 hx hb hA hown hE hG t_h0 wd_4_160 dX9_give_152 (fun b100 (t_b100 : ty Γ b100 130) => ?_)
                    refine lv_aload_n hx hb dX9_give_155 rfl (lv_at hl 1 rfl) ?_
                    refine get_X9_26 hx hb hA hown hE hG t_h0 wd_4_156 dX9_give_156 (fun x101 h102 => ?_)
                    replace h102 : x101.toInt = g86 126 0 := by rw [h102, gs_c _ _ _ _ (by decide)]
                    refine lv_aload_n hx hb dX9_give_159 rfl (lv_at hl 1 rfl) ?_
                    refine get_X9_11 hx hb hA hown hE hG t_h0 wd_4_141 dX9_give_160 (fun x104 h105 => ?_)
                    replace h105 : x104.toInt = g86 111 0 := by rw [h105, gs_c _ _ _ _ (by decide)]
                    have hk107 : g86 111 0 = g 111 0 := hf88 111 0 (by decide) (by decide) (by decide)
                    refine ast_mI hx hb hE hG hS hU 30 rfl (n := 200) rfl (lo := -2147483648) (hi := 2147483647) rfl rfl rfl t_b100 (rgD _) (by omega) dX9_give_163 (fun H locs hG hS => ?_)
                    rw [show x101.toInt.toNat = ((g 126 0).toNat) by omega] at hG
                    refine lv_aload_n hx hb dX9_give_164 rfl (lv_at hl 1 rfl) ?_
                    refine get_X9_31 hx hb hA hown hE hG t_h0 wd_4_161 dX9_give_165 (fun b108 (t_b108 : ty Γ b108 131) => ?_)
                    refine lv_aload_n hx hb dX9_give_168 rfl (lv_at hl 1 rfl) ?_
                    refine get_X9_26 hx hb hA hown hE hG t_h0 wd_4_156 dX9_give_169 (fun x109 h110 => ?_)
                    replace h110 : x109.toInt = g86 126 0 := by rw [h110, gs_c _ _ _ _ (by decide), gs_c _ _ _ _ (by decide)]
                    refine lv_aload_n hx hb dX9_give_172 rfl (lv_at hl 1 rfl) ?_
                    refine lv_iload_n hx hb dX9_give_173 rfl (lv_at hl 3 rfl) ?_
                    refine lv_iload_n hx hb dX9_give_174 rfl (lv_at hl 4 rfl) ?_
                    have hk112 : g86 122 0 = g 122 0 := hf88 122 0 (by decide) (by decide) (by decide)
                    have e113 : (gs (gs g86 129 ((g 126 0).toNat) p3.toInt) 130 ((g 126 0).toNat) x104.toInt) 122 0 = g86 122 0 := by rw [gs_c _ _ _ _ (by decide), gs_c _ _ _ _ (by decide)]
                    have hk114 : g86 112 0 = g 112 0 := hf88 112 0 (by decide) (by decide) (by decide)
                    have e115 : (gs (gs g86 129 ((g 126 0).toNat) p3.toInt) 130 ((g 126 0).toNat) x104.toInt) 112 0 = g86 112 0 := by rw [gs_c _ _ _ _ (by decide), gs_c _ _ _ _ (by decide)]
                    refine cI (va_runV (C := RX9) (As := [.int p2, .int p3]) (rest := [.int x109, .ref b108]) ⟨hx, hb, hml, hown, hA⟩ (k_X9_worthOf l dC dI dA sz X Γ hU (gs (gs g86 129 ((g 126 0).toNat) p3.toInt) 130 ((g 126 0).toNat) x104.toInt) h0 t_h0 p2 p3   (by omega) (by omega) (by omega)) ⟨callB_of 2 hA (al_A wd_5_120) rfl rfl rfl (hA _ wd_1_7) (hA _ wd_5_117) (by decide +kernel) ⟨Nat.le_of_ble_eq_true rfl, Nat.le_of_ble_eq_true rfl⟩, hA _ wd_5_119, hA _ ws_45⟩ ⟨bl, recv_X9 hE hG t_h0, fun U hU9 hW9 => ⟨rfl, by rw [hU9]; exact hG, hE.go hS hU9 hW9⟩⟩ rfl rfl hl.1 rfl (lv_room (Nat.le_of_ble_eq_true rfl)) dX9_give_175 ⟨Nat.zero_le _, Nat.zero_le _⟩) hS (fun x118 u116 H locs w117 hG hS => ?_)
                    obtain ⟨eu119, w117⟩ := w117
                    rw [eu119] at hG
                    rw [show (gs (gs g86 129 ((g 126 0).toNat) p3.toInt) 130 ((g 126 0).toNat) x104.toInt) 123 = (g 123) by rw [gs_r _ _ _ (by decide), gs_r _ _ _ (by decide), (show g86 123 = g 123 from funext fun j => hf88 123 j (by decide) (by decide) (by decide))]] at w117
                    rw [show (gs (gs g86 129 ((g 126 0).toNat) p3.toInt) 130 ((g 126 0).toNat) x104.toInt) 103 = (g 103) by rw [gs_r _ _ _ (by decide), gs_r _ _ _ (by decide), (show g86 103 = g 103 from funext fun j => hf88 103 j (by decide) (by decide) (by decide))]] at w117
                    rw [show (gs (gs g86 129 ((g 126 0).toNat) p3.toInt) 130 ((g 126 0).toNat) x104.toInt) 112 = (g 112) by rw [gs_r _ _ _ (by decide), gs_r _ _ _ (by decide), (show g86 112 = g 112 from funext fun j => hf88 112 j (by decide) (by decide) (by decide))]] at w117
                    rw [show (gs (gs g86 129 ((g 126 0).toNat) p3.toInt) 130 ((g 126 0).toNat) x104.toInt) 122 = (g 122) by rw [gs_r _ _ _ (by decide), gs_r _ _ _ (by decide), (show g86 122 = g 122 from funext fun j => hf88 122 j (by decide) (by decide) (by decide))]] at w117
                    refine ast_mI hx hb hE hG hS hU 31 rfl (n := 200) rfl (lo := -2147483648) (hi := 2147483647) rfl rfl rfl t_b108 (rgD _) (by omega) dX9_give_178 (fun H locs hG hS => ?_)
                    rw [show x109.toInt.toNat = ((g 126 0).toNat) by omega] at hG
                    generalize eg121 : (gs (gs (gs g86 129 ((g 126 0).toNat) p3.toInt) 130 ((g 126 0).toNat) x104.toInt) 131 ((g 126 0).toNat) x118.toInt) = g120 at hG
                    have hf122 : ∀ c j : Nat, c ≠ 129 → c ≠ 130 → c ≠ 131 → g120 c j = g86 c j := fun c j h129 h130 h131 => by rw [← eg121, gs_c _ _ _ _ h131, gs_c _ _ _ _ h130, gs_c _ _ _ _ h129]
                    have v123 : g120 129 ((g 126 0).toNat) = p3.toInt := by rw [← eg121, gs_c _ _ _ _ (by decide), gs_c _ _ _ _ (by decide), gs_self]
                    have hw124 : g120 129 = (pz_up (g 129) ((g 126 0).toNat) p3.toInt) := by rw [← eg121, gs_r _ _ _ (by decide), gs_r _ _ _ (by decide), pz_gs, (show g86 129 = g 129 from funext fun j => hf88 129 j (by decide) (by decide) (by decide))]
                    have v125 : g120 130 ((g 126 0).toNat) = x104.toInt := by rw [← eg121, gs_c _ _ _ _ (by decide), gs_self]
                    have hw126 : g120 130 = (pz_up (g 130) ((g 126 0).toNat) x104.toInt) := by rw [← eg121, gs_r _ _ _ (by decide), pz_gs, gs_r _ _ _ (by decide), (show g86 130 = g 130 from funext fun j => hf88 130 j (by decide) (by decide) (by decide))]
                    have v127 : g120 131 ((g 126 0).toNat) = x118.toInt := by rw [← eg121, gs_self]
                    have hw128 : g120 131 = (pz_up (g 131) ((g 126 0).toNat) x118.toInt) := by rw [← eg121, pz_gs, gs_r _ _ _ (by decide), gs_r _ _ _ (by decide), (show g86 131 = g 131 from funext fun j => hf88 131 j (by decide) (by decide) (by decide))]
                    have hj129 : IJ g120 := IJ_cg (hf122 126 0 (by decide) (by decide) (by decide)) (fun j => hf122 132 j (by decide) (by decide) (by decide)) (fun j => hf122 134 j (by decide) (by decide) (by decide)) (by (repeat (first | with_reducible assumption | (refine IJ_c (by decide) (by decide) (by decide) ?_) | (refine IJ_take (by omega) (by omega) ?_) | (refine IJ_how (by omega) ?_) | (refine IJ_by (by omega) ?_))))
                    refine lv_aload_n hx hb dX9_give_179 rfl (lv_at hl 1 rfl) ?_
                    refine get_X9_32 hx hb hA hown hE hG t_h0 wd_4_162 dX9_give_180 (fun b130 (t_b130 : ty Γ b130 132) => ?_)
                    refine lv_aload_n hx hb dX9_give_183 rfl (lv_at hl 1 rfl) ?_
                    refine get_X9_26 hx hb hA hown hE hG t_h0 wd_4_156 dX9_give_184 (fun x131 h132 => ?_)
                    have hk134 : g120 126 0 = g86 126 0 := hf122 126 0 (by decide) (by decide) (by decide)
                    refine ty_iconst hx hb (0) dX9_give_187 (by decide) (fun x135 h136 => ?_)
                    refine ast_mI hx hb hE hG hS hU 32 rfl (n := 200) rfl (lo := 0) (hi := 5) rfl rfl rfl t_b130 (by omega) (by omega) dX9_give_188 (fun H locs hG hS => ?_)
                    rw [show x131.toInt.toNat = ((g 126 0).toNat) by omega] at hG
                    refine lv_aload_n hx hb dX9_give_189 rfl (lv_at hl 1 rfl) ?_
                    refine get_X9_33 hx hb hA hown hE hG t_h0 wd_4_163 dX9_give_190 (fun b137 (t_b137 : ty Γ b137 133) => ?_)
                    refine lv_aload_n hx hb dX9_give_193 rfl (lv_at hl 1 rfl) ?_
                    refine get_X9_26 hx hb hA hown hE hG t_h0 wd_4_156 dX9_give_194 (fun x138 h139 => ?_)
                    replace h139 : x138.toInt = g120 126 0 := by rw [h139, gs_c _ _ _ _ (by decide)]
                    refine ty_iconst hx hb (-1) dX9_give_197 (by decide) (fun x141 h142 => ?_)
                    refine ast_mI hx hb hE hG hS hU 33 rfl (n := 200) rfl (lo := -2147483648) (hi := 2147483647) rfl rfl rfl t_b137 (rgD _) (by omega) dX9_give_198 (fun H locs hG hS => ?_)
                    rw [show x138.toInt.toNat = ((g 126 0).toNat) by omega] at hG
                    refine lv_aload_n hx hb dX9_give_199 rfl (lv_at hl 1 rfl) ?_
                    refine get_X9_34 hx hb hA hown hE hG t_h0 wd_4_164 dX9_give_200 (fun b143 (t_b143 : ty Γ b143 134) => ?_)
                    refine lv_aload_n hx hb dX9_give_203 rfl (lv_at hl 1 rfl) ?_
                    refine get_X9_26 hx hb hA hown hE hG t_h0 wd_4_156 dX9_give_204 (fun x144 h145 => ?_)
                    replace h145 : x144.toInt = g120 126 0 := by rw [h145, gs_c _ _ _ _ (by decide), gs_c _ _ _ _ (by decide)]
                    refine ty_iconst hx hb (-1) dX9_give_207 (by decide) (fun x147 h148 => ?_)
                    refine ast_mI hx hb hE hG hS hU 34 rfl (n := 200) rfl (lo := -1) (hi := 9) rfl rfl rfl t_b143 (by omega) (by omega) dX9_give_208 (fun H locs hG hS => ?_)
                    rw [show x144.toInt.toNat = ((g 126 0).toNat) by omega] at hG
                    generalize eg150 : (gs (gs (gs g120 132 ((g 126 0).toNat) x135.toInt) 133 ((g 126 0).toNat) x141.toInt) 134 ((g 126 0).toNat) x147.toInt) = g149 at hG
                    have hf151 : ∀ c j : Nat, c ≠ 132 → c ≠ 133 → c ≠ 134 → g149 c j = g120 c j := fun c j h132 h133 h134 => by rw [← eg150, gs_c _ _ _ _ h134, gs_c _ _ _ _ h133, gs_c _ _ _ _ h132]
                    have v152 : g149 132 ((g 126 0).toNat) = x135.toInt := by rw [← eg150, gs_c _ _ _ _ (by decide), gs_c _ _ _ _ (by decide), gs_self]
                    have hw153 : g149 132 = (pz_up (g 132) ((g 126 0).toNat) x135.toInt) := by rw [← eg150, gs_r _ _ _ (by decide), gs_r _ _ _ (by decide), pz_gs, (show g120 132 = g86 132 from funext fun j => hf122 132 j (by decide) (by decide) (by decide)), (show g86 132 = g 132 from funext fun j => hf88 132 j (by decide) (by decide) (by decide))]
                    have v154 : g149 133 ((g 126 0).toNat) = x141.toInt := by rw [← eg150, gs_c _ _ _ _ (by decide), gs_self]
                    have hw155 : g149 133 = (pz_up (g 133) ((g 126 0).toNat) x141.toInt) := by rw [← eg150, gs_r _ _ _ (by decide), pz_gs, gs_r _ _ _ (by decide), (show g120 133 = g86 133 from funext fun j => hf122 133 j (by decide) (by decide) (by decide)), (show g86 133 = g 133 from funext fun j => hf88 133 j (by decide) (by decide) (by decide))]
                    have v156 : g149 134 ((g 126 0).toNat) = x147.toInt := by rw [← eg150, gs_self]
                    have hw157 : g149 134 = (pz_up (g 134) ((g 126 0).toNat) x147.toInt) := by rw [← eg150, pz_gs, gs_r _ _ _ (by decide), gs_r _ _ _ (by decide), (show g120 134 = g86 134 from funext fun j => hf122 134 j (by decide) (by decide) (by decide)), (show g86 134 = g 134 from funext fun j => hf88 134 j (by decide) (by decide) (by decide))]
                    try have hj158 : IJ g149 := by rw [← eg150]; (repeat (first | with_reducible assumption | (refine IJ_c (by decide) (by decide) (by decide) ?_) | (refine IJ_take (by omega) (by omega) ?_) | (refine IJ_how (by omega) ?_) | (refine IJ_by (by omega) ?_)))
                    refine lv_aload_n hx hb dX9_give_209 rfl (lv_at hl 1 rfl) ?_
                    refine get_X9_35 hx hb hA hown hE hG t_h0 wd_4_165 dX9_give_210 (fun b159 (t_b159 : ty Γ b159 135) => ?_)
                    refine ty_iconst hx hb (4) dX9_give_213 (by decide) (fun x160 h161 => ?_)
                    refine lv_aload_n hx hb dX9_give_214 rfl (lv_at hl 1 rfl) ?_
                    refine get_X9_26 hx hb hA hown hE hG t_h0 wd_4_156 dX9_give_215 (fun x162 h163 => ?_)
                    have hk165 : g149 126 0 = g120 126 0 := hf151 126 0 (by decide) (by decide) (by decide)
                    refine ty_imul hx hb dX9_give_218 (fun x166 h167 => ?_)
                    try have h168 : x166.toInt = 4 * x162.toInt := ty_mull h167 (by omega) (by omega) (by omega)
                    refine ty_iconst hx hb (3) dX9_give_219 (by decide) (fun x169 h170 => ?_)
                    refine ty_iadd hx hb dX9_give_220 (fun x171 h172 => ?_)
                    try have h173 : x171.toInt = x166.toInt + x169.toInt := ty_add h172 (by omega) (by omega)
                    refine ty_iconst hx hb (0) dX9_give_221 (by decide) (fun x174 h175 => ?_)
                    refine ast_mI hx hb hE hG hS hU 35 rfl (n := 840) rfl (lo := -2147483648) (hi := 2147483647) rfl rfl rfl t_b159 (rgD _) (by omega) dX9_give_222 (fun H locs hG hS => ?_)
                    rw [show x171.toInt.toNat = (4 * (g 126 0).toNat + 3) by omega] at hG
                    refine lv_aload_n hx hb dX9_give_223 rfl (lv_at hl 1 rfl) ?_
                    refine lv_dup hx hb dX9_give_224 rfl ?_
                    refine get_X9_26 hx hb hA hown hE hG t_h0 wd_4_156 dX9_give_225 (fun x176 h177 => ?_)
                    replace h177 : x176.toInt = g149 126 0 := by rw [h177, gs_c _ _ _ _ (by decide)]
                    refine ty_iconst hx hb (1) dX9_give_228 (by decide) (fun x179 h180 => ?_)
                    refine ty_iadd hx hb dX9_give_229 (fun x181 h182 => ?_)
                    try have h183 : x181.toInt = x176.toInt + x179.toInt := ty_add h182 (by omega) (by omega)
                    refine put_X9_26 hx hb hA hown hE hG hS hU t_h0 wd_4_156 dX9_give_230 (fun H locs hG hS => ?_)
                    refine lv_aload_n hx hb dX9_give_233 rfl (lv_at hl 1 rfl) ?_
                    refine get_X9_26 hx hb hA hown hE hG t_h0 wd_4_156 dX9_give_234 (fun x184 h185 => ?_)
                    replace h185 : x184.toInt = x181.toInt := by rw [h185, gs_self]
                    refine ty_iconst hx hb (1) dX9_give_237 (by decide) (fun x187 h188 => ?_)
                    refine ty_isub hx hb dX9_give_238 (fun x189 h190 => ?_)
                    try have h191 : x189.toInt = x184.toInt - x187.toInt := ty_sub h190 (by omega) (by omega)
                    have e192 : (gs (gs g149 135 (4 * (g 126 0).toNat + 3) x174.toInt) 126 0 x181.toInt) 126 0 = x181.toInt := by rw [gs_self]
                    have hA9 : (gs (gs g149 135 (4 * (g 126 0).toNat + 3) x174.toInt) 126 0 x181.toInt) 132 = pz_up (g 132) (g 126 0).toNat 0 := by rw [gs_r _ _ _ (by decide), gs_r _ _ _ (by decide), hw153] <;> exact pz_upc (by omega) (by omega)
                    have hB9 : (gs (gs g149 135 (4 * (g 126 0).toNat + 3) x174.toInt) 126 0 x181.toInt) 134 = pz_up (g 134) (g 126 0).toNat (-1) := by rw [gs_r _ _ _ (by decide), gs_r _ _ _ (by decide), hw157] <;> exact pz_upc (by omega) (by omega)
                    have hIJ9 : IJ (gs (gs g149 135 (4 * (g 126 0).toNat + 3) x174.toInt) 126 0 x181.toInt) := IJ_give (g := g) (n := (g 126 0).toNat) (by omega) (by omega) hIJ (by omega) (fun j => by rw [pz_gs, hA9]) (fun j hj => by rw [hB9]; exact pz_up_n hj)
                    have e193 : (gs (gs g149 135 (4 * (g 126 0).toNat + 3) x174.toInt) 126 0 x181.toInt) 126 0 = x181.toInt := by rw [gs_self]
                    exact W.iret (v := x189) hx hb hr (fun t ht hW => ⟨⟨x189, (gs (gs g149 135 (4 * (g 126 0).toNat + 3) x174.toInt) 126 0 x181.toInt), rfl, ⟨(fun c j h100 h126 h127 h128 h129 h130 h131 h132 h133 h134 h135 => by rw [gs_c _ _ _ _ h126, gs_c _ _ _ _ h135, hf151 c j h132 h133 h134, hf122 c j h129 h130 h131, hf88 c j h100 h127 h128]), (by first | exact hIJ9 | ((repeat (first | with_reducible assumption | (refine IJ_c (by decide) (by decide) (by decide) ?_) | (refine IJ_take (by omega) (by omega) ?_) | (refine IJ_how (by omega) ?_) | (refine IJ_by (by omega) ?_))))), (by have hcd : gv_c (g 101 0) (g 104 0) (g 126 0) (g 112 0) (g 108) (g 109) (g 110) (ga_f (g 128) (g 129) (g 130) p2.toInt p3.toInt (g 111 0) (g 126 0).toNat) (g 132) p1.toInt p2.toInt p3.toInt = 0 := (by unfold gv_c; rw [if_neg (by omega), if_neg (by omega), if_neg (by omega), if_neg (by omega), if_neg (by omega), if_neg (by omega)]); exact ⟨fun _ => ⟨(by omega), (by omega), (by rw [gs_r _ _ _ (by decide), gs_r _ _ _ (by decide), (show g149 127 = g120 127 from funext fun j => hf151 127 j (by decide) (by decide) (by decide)), (show g120 127 = g86 127 from funext fun j => hf122 127 j (by decide) (by decide) (by decide)), hw91] <;> exact pz_upc (by omega) (by omega)), (by rw [gs_r _ _ _ (by decide), gs_r _ _ _ (by decide), (show g149 128 = g120 128 from funext fun j => hf151 128 j (by decide) (by decide) (by decide)), (show g120 128 = g86 128 from funext fun j => hf122 128 j (by decide) (by decide) (by decide)), hw93] <;> exact pz_upc (by omega) (by omega)), (by rw [gs_r _ _ _ (by decide), gs_r _ _ _ (by decide), (show g149 129 = g120 129 from funext fun j => hf151 129 j (by decide) (by decide) (by decide)), hw124] <;> exact pz_upc (by omega) (by omega)), (by rw [gs_r _ _ _ (by decide), gs_r _ _ _ (by decide), (show g149 130 = g120 130 from funext fun j => hf151 130 j (by decide) (by decide) (by decide)), hw126] <;> exact pz_upc (by omega) (by omega)), (by rw [gs_r _ _ _ (by decide), gs_r _ _ _ (by decide), (show g149 131 = g120 131 from funext fun j => hf151 131 j (by decide) (by decide) (by decide)), hw128] <;> exact pz_upc (by omega) (by omega)), (by rw [gs_r _ _ _ (by decide), gs_r _ _ _ (by decide), hw153] <;> exact pz_upc (by omega) (by omega)), (by rw [gs_r _ _ _ (by decide), gs_r _ _ _ (by decide), hw155] <;> exact pz_upc (by omega) (by omega)), (by rw [gs_r _ _ _ (by decide), gs_r _ _ _ (by decide), hw157] <;> exact pz_upc (by omega) (by omega)), (by rw [gs_r _ _ _ (by decide), pz_gs, (show g149 135 = g120 135 from funext fun j => hf151 135 j (by decide) (by decide) (by decide)), (show g120 135 = g86 135 from funext fun j => hf122 135 j (by decide) (by decide) (by decide)), (show g86 135 = g 135 from funext fun j => hf88 135 j (by decide) (by decide) (by decide))] <;> exact pz_upc (by omega) (by omega))⟩, fun q => absurd hcd q⟩)⟩, ok1 ht hG⟩, hS.F ht⟩) hS.2.2 dX9_give_239
                  · skip
                    refine ty_bipush hx hb (-6) dX9_give_118 (by decide) (fun x194 h195 => ?_)
                    exact W.iret (v := x194) hx hb hr (fun t ht hW => ⟨⟨x194, (gs g 100 0 x1.toInt), rfl, ⟨(fun c j h100 h126 h127 h128 h129 h130 h131 h132 h133 h134 h135 => by rw [gs_c _ _ _ _ h100]), (by first | exact hIJ9 | ((repeat (first | with_reducible assumption | (refine IJ_c (by decide) (by decide) (by decide) ?_) | (refine IJ_take (by omega) (by omega) ?_) | (refine IJ_how (by omega) ?_) | (refine IJ_by (by omega) ?_))))), (by have hcd : gv_c (g 101 0) (g 104 0) (g 126 0) (g 112 0) (g 108) (g 109) (g 110) (ga_f (g 128) (g 129) (g 130) p2.toInt p3.toInt (g 111 0) (g 126 0).toNat) (g 132) p1.toInt p2.toInt p3.toInt = -6 := (by unfold gv_c; rw [if_neg (by omega), if_neg (by omega), if_neg (by omega), if_neg (by omega), if_neg (by omega), if_pos (by omega)]); exact ⟨fun q => absurd (hcd.symm.trans q) (by decide), fun _ => ⟨(by rw [hcd]; omega), (by rw [gs_c _ _ _ _ (by decide)]), (by rw [gs_r _ _ _ (by decide)]), (by rw [gs_r _ _ _ (by decide)]), (by rw [gs_r _ _ _ (by decide)]), (by rw [gs_r _ _ _ (by decide)]), (by rw [gs_r _ _ _ (by decide)]), (by rw [gs_r _ _ _ (by decide)]), (by rw [gs_r _ _ _ (by decide)]), (by rw [gs_r _ _ _ (by decide)]), (by rw [gs_r _ _ _ (by decide)])⟩⟩)⟩, ok1 ht hG⟩, hS.F ht⟩) hS.2.2 dX9_give_120
              · skip
                refine lv_aload_n hx hb dX9_give_84 rfl (lv_at hl 1 rfl) ?_
                refine get_X9_32 hx hb hA hown hE hG t_h0 wd_4_162 dX9_give_85 (fun b196 (t_b196 : ty Γ b196 132) => ?_)
                refine lv_iload hx hb dX9_give_88 (lv_at hl 0 rfl) ?_
                refine ald_mI hx hb hE hG 32 rfl (n := 200) rfl (lo := 0) (hi := 5) rfl rfl t_b196 (by omega) dX9_give_90 (fun j198 x197 h199 h200 h201 => ?_)
                obtain rfl : j198 = x55.toInt.toNat := by omega
                rw [gs_c _ _ _ _ (by decide)] at h200
                replace h200 : x197.toInt = g 132 x55.toInt.toNat := h200
                replace h200 : x197.toInt = g 132 ((ga_f (g 128) (g 129) (g 130) p2.toInt p3.toInt (g 111 0) (g 126 0).toNat).toNat) := by rw [h200, show x55.toInt.toNat = ((ga_f (g 128) (g 129) (g 130) p2.toInt p3.toInt (g 111 0) (g 126 0).toNat).toNat) by omega]
                refine ty_iconst hx hb (4) dX9_give_91 (by decide) (fun x202 h203 => ?_)
                refine ty_icmp_eq (tgt := 98) hx hb dX9_give_92 (by decide) (fun c204 => ?_) (fun c204 => ?_)
                · skip
                  refine lv_aload_n hx hb dX9_give_98 rfl (lv_at hl 1 rfl) ?_
                  refine ty_iconst hx hb (0) dX9_give_99 (by decide) (fun x205 h206 => ?_)
                  have e207 : (gs g 100 0 x1.toInt) 126 0 = g 126 0 := by rw [gs_c _ _ _ _ (by decide)]
                  refine cI (va_runV (C := RX9) (As := [.int x205]) (rest := []) ⟨hx, hb, hml, hown, hA⟩ (k_X9_many l dC dI dA sz X Γ hU (gs g 100 0 x1.toInt) h0 t_h0 x205   (by omega)) ⟨callB_of 1 hA (al_A wd_5_128) rfl rfl rfl (hA _ wd_1_7) (hA _ wd_5_125) (by decide +kernel) ⟨Nat.le_of_ble_eq_true rfl, Nat.le_of_ble_eq_true rfl⟩, hA _ wd_5_127, hA _ ws_46⟩ ⟨bl, recv_X9 hE hG t_h0, fun U hU9 hW9 => ⟨rfl, by rw [hU9]; exact hG, hE.go hS hU9 hW9⟩⟩ rfl rfl hl.1 rfl (lv_room (Nat.le_of_ble_eq_true rfl)) dX9_give_100 ⟨Nat.zero_le _, Nat.zero_le _⟩) hS (fun x210 u208 H locs w209 hG hS => ?_)
                  obtain ⟨eu211, w209⟩ := w209
                  rw [eu211] at hG
                  rw [show (gs g 100 0 x1.toInt) 126 = (g 126) by rw [gs_r _ _ _ (by decide)]] at w209
                  rw [show (gs g 100 0 x1.toInt) 132 = (g 132) by rw [gs_r _ _ _ (by decide)]] at w209
                  rw [show x205.toInt = 0 by omega] at w209
                  refine ty_bipush hx hb (9) dX9_give_103 (by decide) (fun x212 h213 => ?_)
                  refine ty_icmp_eq (tgt := 118) hx hb dX9_give_105 (by decide) (fun c214 => ?_) (fun c214 => ?_)
                  · skip
                    refine ty_bipush hx hb (-6) dX9_give_118 (by decide) (fun x215 h216 => ?_)
                    exact W.iret (v := x215) hx hb hr (fun t ht hW => ⟨⟨x215, (gs g 100 0 x1.toInt), rfl, ⟨(fun c j h100 h126 h127 h128 h129 h130 h131 h132 h133 h134 h135 => by rw [gs_c _ _ _ _ h100]), (by first | exact hIJ9 | ((repeat (first | with_reducible assumption | (refine IJ_c (by decide) (by decide) (by decide) ?_) | (refine IJ_take (by omega) (by omega) ?_) | (refine IJ_how (by omega) ?_) | (refine IJ_by (by omega) ?_))))), (by have hcd : gv_c (g 101 0) (g 104 0) (g 126 0) (g 112 0) (g 108) (g 109) (g 110) (ga_f (g 128) (g 129) (g 130) p2.toInt p3.toInt (g 111 0) (g 126 0).toNat) (g 132) p1.toInt p2.toInt p3.toInt = -6 := (by unfold gv_c; rw [if_neg (by omega), if_neg (by omega), if_neg (by omega), if_neg (by omega), if_neg (by omega), if_pos (by omega)]); exact ⟨fun q => absurd (hcd.symm.trans q) (by decide), fun _ => ⟨(by rw [hcd]; omega), (by rw [gs_c _ _ _ _ (by decide)]), (by rw [gs_r _ _ _ (by decide)]), (by rw [gs_r _ _ _ (by decide)]), (by rw [gs_r _ _ _ (by decide)]), (by rw [gs_r _ _ _ (by decide)]), (by rw [gs_r _ _ _ (by decide)]), (by rw [gs_r _ _ _ (by decide)]), (by rw [gs_r _ _ _ (by decide)]), (by rw [gs_r _ _ _ (by decide)]), (by rw [gs_r _ _ _ (by decide)])⟩⟩)⟩, ok1 ht hG⟩, hS.F ht⟩) hS.2.2 dX9_give_120
                  · skip
                    refine lv_aload_n hx hb dX9_give_108 rfl (lv_at hl 1 rfl) ?_
                    refine get_X9_26 hx hb hA hown hE hG t_h0 wd_4_156 dX9_give_109 (fun x217 h218 => ?_)
                    replace h218 : x217.toInt = g 126 0 := by rw [h218, gs_c _ _ _ _ (by decide)]
                    refine ty_sipush hx hb (200) dX9_give_112 (by decide) (fun x220 h221 => ?_)
                    refine ty_icmp_ne (tgt := 121) hx hb dX9_give_115 (by decide) (fun c222 => ?_) (fun c222 => ?_)
                    · skip
                      refine lv_aload_n hx hb dX9_give_121 rfl (lv_at hl 1 rfl) ?_
                      refine get_X9_27 hx hb hA hown hE hG t_h0 wd_4_157 dX9_give_122 (fun b223 (t_b223 : ty Γ b223 127) => ?_)
                      refine lv_aload_n hx hb dX9_give_125 rfl (lv_at hl 1 rfl) ?_
                      refine get_X9_26 hx hb hA hown hE hG t_h0 wd_4_156 dX9_give_126 (fun x224 h225 => ?_)
                      replace h225 : x224.toInt = g 126 0 := by rw [h225, gs_c _ _ _ _ (by decide)]
                      refine lv_iload_n hx hb dX9_give_129 rfl (lv_at hl 2 rfl) ?_
                      refine ast_mI hx hb hE hG hS hU 27 rfl (n := 200) rfl (lo := 0) (hi := 9) rfl rfl rfl t_b223 (by omega) (by omega) dX9_give_130 (fun H locs hG hS => ?_)
                      rw [show x224.toInt.toNat = ((g 126 0).toNat) by omega] at hG
                      refine lv_aload_n hx hb dX9_give_131 rfl (lv_at hl 1 rfl) ?_
                      refine get_X9_28 hx hb hA hown hE hG t_h0 wd_4_158 dX9_give_132 (fun b227 (t_b227 : ty Γ b227 128) => ?_)
                      refine lv_aload_n hx hb dX9_give_135 rfl (lv_at hl 1 rfl) ?_
                      refine get_X9_26 hx hb hA hown hE hG t_h0 wd_4_156 dX9_give_136 (fun x228 h229 => ?_)
                      replace h229 : x228.toInt = g 126 0 := by rw [h229, gs_c _ _ _ _ (by decide), gs_c _ _ _ _ (by decide)]
                      refine lv_iload_n hx hb dX9_give_139 rfl (lv_at hl 3 rfl) ?_
                      refine ast_mI hx hb hE hG hS hU 28 rfl (n := 200) rfl (lo := 0) (hi := 5) rfl rfl rfl t_b227 (by omega) (by omega) dX9_give_140 (fun H locs hG hS => ?_)
                      rw [show x228.toInt.toNat = ((g 126 0).toNat) by omega] at hG
                      generalize eg232 : (gs (gs (gs g 100 0 x1.toInt) 127 ((g 126 0).toNat) p1.toInt) 128 ((g 126 0).toNat) p2.toInt) = g231 at hG
                      have hf233 : ∀ c j : Nat, c ≠ 100 → c ≠ 127 → c ≠ 128 → g231 c j = g c j := fun c j h100 h127 h128 => by rw [← eg232, gs_c _ _ _ _ h128, gs_c _ _ _ _ h127, gs_c _ _ _ _ h100]
                      have v234 : g231 100 0 = x1.toInt := by rw [← eg232, gs_c _ _ _ _ (by decide), gs_c _ _ _ _ (by decide), gs_self]
                      have v235 : g231 127 ((g 126 0).toNat) = p1.toInt := by rw [← eg232, gs_c _ _ _ _ (by decide), gs_self]
                      have hw236 : g231 127 = (pz_up (g 127) ((g 126 0).toNat) p1.toInt) := by rw [← eg232, gs_r _ _ _ (by decide), pz_gs, gs_r _ _ _ (by decide)]
                      have v237 : g231 128 ((g 126 0).toNat) = p2.toInt := by rw [← eg232, gs_self]
                      have hw238 : g231 128 = (pz_up (g 128) ((g 126 0).toNat) p2.toInt) := by rw [← eg232, pz_gs, gs_r _ _ _ (by decide), gs_r _ _ _ (by decide)]
                      have hj239 : IJ g231 := IJ_cg (hf233 126 0 (by decide) (by decide) (by decide)) (fun j => hf233 132 j (by decide) (by decide) (by decide)) (fun j => hf233 134 j (by decide) (by decide) (by decide)) (by (repeat (first | with_reducible assumption | (refine IJ_c (by decide) (by decide) (by decide) ?_) | (refine IJ_take (by omega) (by omega) ?_) | (refine IJ_how (by omega) ?_) | (refine IJ_by (by omega) ?_))))
                      refine lv_aload_n hx hb dX9_give_141 rfl (lv_at hl 1 rfl) ?_
                      refine get_X9_29 hx hb hA hown hE hG t_h0 wd_4_159 dX9_give_142 (fun b240 (t_b240 : ty Γ b240 129) => ?_)
                      refine lv_aload_n hx hb dX9_give_145 rfl (lv_at hl 1 rfl) ?_
                      refine get_X9_26 hx hb hA hown hE hG t_h0 wd_4_156 dX9_give_146 (fun x241 h242 => ?_)
                      have hk244 : g231 126 0 = g 126 0 := hf233 126 0 (by decide) (by decide) (by decide)
                      refine lv_iload_n hx hb dX9_give_149 rfl (lv_at hl 4 rfl) ?_
                      refine ast_mI hx hb hE hG hS hU 29 rfl (n := 200) rfl (lo := -2147483648) (hi := 2147483647) rfl rfl rfl t_b240 (rgD _) (by omega) dX9_give_150 (fun H locs hG hS => ?_)
                      rw [show x241.toInt.toNat = ((g 126 0).toNat) by omega] at hG
                      refine lv_aload_n hx hb dX9_give_151 rfl (lv_at hl 1 rfl) ?_
                      refine get_X9_30 hx hb hA hown hE hG t_h0 wd_4_160 dX9_give_152 (fun b245 (t_b245 : ty Γ b245 130) => ?_)
                      refine lv_aload_n hx hb dX9_give_155 rfl (lv_at hl 1 rfl) ?_
                      refine get_X9_26 hx hb hA hown hE hG t_h0 wd_4_156 dX9_give_156 (fun x246 h247 => ?_)
                      replace h247 : x246.toInt = g231 126 0 := by rw [h247, gs_c _ _ _ _ (by decide)]
                      refine lv_aload_n hx hb dX9_give_159 rfl (lv_at hl 1 rfl) ?_
                      refine get_X9_11 hx hb hA hown hE hG t_h0 wd_4_141 dX9_give_160 (fun x249 h250 => ?_)
                      replace h250 : x249.toInt = g231 111 0 := by rw [h250, gs_c _ _ _ _ (by decide)]
                      have hk252 : g231 111 0 = g 111 0 := hf233 111 0 (by decide) (by decide) (by decide)
                      refine ast_mI hx hb hE hG hS hU 30 rfl (n := 200) rfl (lo := -2147483648) (hi := 2147483647) rfl rfl rfl t_b245 (rgD _) (by omega) dX9_give_163 (fun H locs hG hS => ?_)
                      rw [show x246.toInt.toNat = ((g 126 0).toNat) by omega] at hG
                      refine lv_aload_n hx hb dX9_give_164 rfl (lv_at hl 1 rfl) ?_
                      refine get_X9_31 hx hb hA hown hE hG t_h0 wd_4_161 dX9_give_165 (fun b253 (t_b253 : ty Γ b253 131) => ?_)
                      refine lv_aload_n hx hb dX9_give_168 rfl (lv_at hl 1 rfl) ?_
                      refine get_X9_26 hx hb hA hown hE hG t_h0 wd_4_156 dX9_give_169 (fun x254 h255 => ?_)
                      replace h255 : x254.toInt = g231 126 0 := by rw [h255, gs_c _ _ _ _ (by decide), gs_c _ _ _ _ (by decide)]
                      refine lv_aload_n hx hb dX9_give_172 rfl (lv_at hl 1 rfl) ?_
                      refine lv_iload_n hx hb dX9_give_173 rfl (lv_at hl 3 rfl) ?_
                      refine lv_iload_n hx hb dX9_give_174 rfl (lv_at hl 4 rfl) ?_
                      have hk257 : g231 122 0 = g 122 0 := hf233 122 0 (by decide) (by decide) (by decide)
                      have e258 : (gs (gs g231 129 ((g 126 0).toNat) p3.toInt) 130 ((g 126 0).toNat) x249.toInt) 122 0 = g231 122 0 := by rw [gs_c _ _ _ _ (by decide), gs_c _ _ _ _ (by decide)]
                      have hk259 : g231 112 0 = g 112 0 := hf233 112 0 (by decide) (by decide) (by decide)
                      have e260 : (gs (gs g231 129 ((g 126 0).toNat) p3.toInt) 130 ((g 126 0).toNat) x249.toInt) 112 0 = g231 112 0 := by rw [gs_c _ _ _ _ (by decide), gs_c _ _ _ _ (by decide)]
                      refine cI (va_runV (C := RX9) (As := [.int p2, .int p3]) (rest := [.int x254, .ref b253]) ⟨hx, hb, hml, hown, hA⟩ (k_X9_worthOf l dC dI dA sz X Γ hU (gs (gs g231 129 ((g 126 0).toNat) p3.toInt) 130 ((g 126 0).toNat) x249.toInt) h0 t_h0 p2 p3   (by omega) (by omega) (by omega)) ⟨callB_of 2 hA (al_A wd_5_120) rfl rfl rfl (hA _ wd_1_7) (hA _ wd_5_117) (by decide +kernel) ⟨Nat.le_of_ble_eq_true rfl, Nat.le_of_ble_eq_true rfl⟩, hA _ wd_5_119, hA _ ws_45⟩ ⟨bl, recv_X9 hE hG t_h0, fun U hU9 hW9 => ⟨rfl, by rw [hU9]; exact hG, hE.go hS hU9 hW9⟩⟩ rfl rfl hl.1 rfl (lv_room (Nat.le_of_ble_eq_true rfl)) dX9_give_175 ⟨Nat.zero_le _, Nat.zero_le _⟩) hS (fun x263 u261 H locs w262 hG hS => ?_)
                      obtain ⟨eu264, w262⟩ := w262
                      rw [eu264] at hG
                      rw [show (gs (gs g231 129 ((g 126 0).toNat) p3.toInt) 130 ((g 126 0).toNat) x249.toInt) 123 = (g 123) by rw [gs_r _ _ _ (by decide), gs_r _ _ _ (by decide), (show g231 123 = g 123 from funext fun j => hf233 123 j (by decide) (by decide) (by decide))]] at w262
                      rw [show (gs (gs g231 129 ((g 126 0).toNat) p3.toInt) 130 ((g 126 0).toNat) x249.toInt) 103 = (g 103) by rw [gs_r _ _ _ (by decide), gs_r _ _ _ (by decide), (show g231 103 = g 103 from funext fun j => hf233 103 j (by decide) (by decide) (by decide))]] at w262
                      rw [show (gs (gs g231 129 ((g 126 0).toNat) p3.toInt) 130 ((g 126 0).toNat) x249.toInt) 112 = (g 112) by rw [gs_r _ _ _ (by decide), gs_r _ _ _ (by decide), (show g231 112 = g 112 from funext fun j => hf233 112 j (by decide) (by decide) (by decide))]] at w262
                      rw [show (gs (gs g231 129 ((g 126 0).toNat) p3.toInt) 130 ((g 126 0).toNat) x249.toInt) 122 = (g 122) by rw [gs_r _ _ _ (by decide), gs_r _ _ _ (by decide), (show g231 122 = g 122 from funext fun j => hf233 122 j (by decide) (by decide) (by decide))]] at w262
                      refine ast_mI hx hb hE hG hS hU 31 rfl (n := 200) rfl (lo := -2147483648) (hi := 2147483647) rfl rfl rfl t_b253 (rgD _) (by omega) dX9_give_178 (fun H locs hG hS => ?_)
                      rw [show x254.toInt.toNat = ((g 126 0).toNat) by omega] at hG
                      generalize eg266 : (gs (gs (gs g231 129 ((g 126 0).toNat) p3.toInt) 130 ((g 126 0).toNat) x249.toInt) 131 ((g 126 0).toNat) x263.toInt) = g265 at hG
                      have hf267 : ∀ c j : Nat, c ≠ 129 → c ≠ 130 → c ≠ 131 → g265 c j = g231 c j := fun c j h129 h130 h131 => by rw [← eg266, gs_c _ _ _ _ h131, gs_c _ _ _ _ h130, gs_c _ _ _ _ h129]
                      have v268 : g265 129 ((g 126 0).toNat) = p3.toInt := by rw [← eg266, gs_c _ _ _ _ (by decide), gs_c _ _ _ _ (by decide), gs_self]
                      have hw269 : g265 129 = (pz_up (g 129) ((g 126 0).toNat) p3.toInt) := by rw [← eg266, gs_r _ _ _ (by decide), gs_r _ _ _ (by decide), pz_gs, (show g231 129 = g 129 from funext fun j => hf233 129 j (by decide) (by decide) (by decide))]
                      have v270 : g265 130 ((g 126 0).toNat) = x249.toInt := by rw [← eg266, gs_c _ _ _ _ (by decide), gs_self]
                      have hw271 : g265 130 = (pz_up (g 130) ((g 126 0).toNat) x249.toInt) := by rw [← eg266, gs_r _ _ _ (by decide), pz_gs, gs_r _ _ _ (by decide), (show g231 130 = g 130 from funext fun j => hf233 130 j (by decide) (by decide) (by decide))]
                      have v272 : g265 131 ((g 126 0).toNat) = x263.toInt := by rw [← eg266, gs_self]
                      have hw273 : g265 131 = (pz_up (g 131) ((g 126 0).toNat) x263.toInt) := by rw [← eg266, pz_gs, gs_r _ _ _ (by decide), gs_r _ _ _ (by decide), (show g231 131 = g 131 from funext fun j => hf233 131 j (by decide) (by decide) (by decide))]
                      have hj274 : IJ g265 := IJ_cg (hf267 126 0 (by decide) (by decide) (by decide)) (fun j => hf267 132 j (by decide) (by decide) (by decide)) (fun j => hf267 134 j (by decide) (by decide) (by decide)) (by (repeat (first | with_reducible assumption | (refine IJ_c (by decide) (by decide) (by decide) ?_) | (refine IJ_take (by omega) (by omega) ?_) | (refine IJ_how (by omega) ?_) | (refine IJ_by (by omega) ?_))))
                      refine lv_aload_n hx hb dX9_give_179 rfl (lv_at hl 1 rfl) ?_
                      refine get_X9_32 hx hb hA hown hE hG t_h0 wd_4_162 dX9_give_180 (fun b275 (t_b275 : ty Γ b275 132) => ?_)
                      refine lv_aload_n hx hb dX9_give_183 rfl (lv_at hl 1 rfl) ?_
                      refine get_X9_26 hx hb hA hown hE hG t_h0 wd_4_156 dX9_give_184 (fun x276 h277 => ?_)
                      have hk279 : g265 126 0 = g231 126 0 := hf267 126 0 (by decide) (by decide) (by decide)
                      refine ty_iconst hx hb (0) dX9_give_187 (by decide) (fun x280 h281 => ?_)
                      refine ast_mI hx hb hE hG hS hU 32 rfl (n := 200) rfl (lo := 0) (hi := 5) rfl rfl rfl t_b275 (by omega) (by omega) dX9_give_188 (fun H locs hG hS => ?_)
                      rw [show x276.toInt.toNat = ((g 126 0).toNat) by omega] at hG
                      refine lv_aload_n hx hb dX9_give_189 rfl (lv_at hl 1 rfl) ?_
                      refine get_X9_33 hx hb hA hown hE hG t_h0 wd_4_163 dX9_give_190 (fun b282 (t_b282 : ty Γ b282 133) => ?_)
                      refine lv_aload_n hx hb dX9_give_193 rfl (lv_at hl 1 rfl) ?_
                      refine get_X9_26 hx hb hA hown hE hG t_h0 wd_4_156 dX9_give_194 (fun x283 h284 => ?_)
                      replace h284 : x283.toInt = g265 126 0 := by rw [h284, gs_c _ _ _ _ (by decide)]
                      refine ty_iconst hx hb (-1) dX9_give_197 (by decide) (fun x286 h287 => ?_)
                      refine ast_mI hx hb hE hG hS hU 33 rfl (n := 200) rfl (lo := -2147483648) (hi := 2147483647) rfl rfl rfl t_b282 (rgD _) (by omega) dX9_give_198 (fun H locs hG hS => ?_)
                      rw [show x283.toInt.toNat = ((g 126 0).toNat) by omega] at hG
                      refine lv_aload_n hx hb dX9_give_199 rfl (lv_at hl 1 rfl) ?_
                      refine get_X9_34 hx hb hA hown hE hG t_h0 wd_4_164 dX9_give_200 (fun b288 (t_b288 : ty Γ b288 134) => ?_)
                      refine lv_aload_n hx hb dX9_give_203 rfl (lv_at hl 1 rfl) ?_
                      refine get_X9_26 hx hb hA hown hE hG t_h0 wd_4_156 dX9_give_204 (fun x289 h290 => ?_)
                      replace h290 : x289.toInt = g265 126 0 := by rw [h290, gs_c _ _ _ _ (by decide), gs_c _ _ _ _ (by decide)]
                      refine ty_iconst hx hb (-1) dX9_give_207 (by decide) (fun x292 h293 => ?_)
                      refine ast_mI hx hb hE hG hS hU 34 rfl (n := 200) rfl (lo := -1) (hi := 9) rfl rfl rfl t_b288 (by omega) (by omega) dX9_give_208 (fun H locs hG hS => ?_)
                      rw [show x289.toInt.toNat = ((g 126 0).toNat) by omega] at hG
                      generalize eg295 : (gs (gs (gs g265 132 ((g 126 0).toNat) x280.toInt) 133 ((g 126 0).toNat) x286.toInt) 134 ((g 126 0).toNat) x292.toInt) = g294 at hG
                      have hf296 : ∀ c j : Nat, c ≠ 132 → c ≠ 133 → c ≠ 134 → g294 c j = g265 c j := fun c j h132 h133 h134 => by rw [← eg295, gs_c _ _ _ _ h134, gs_c _ _ _ _ h133, gs_c _ _ _ _ h132]
                      have v297 : g294 132 ((g 126 0).toNat) = x280.toInt := by rw [← eg295, gs_c _ _ _ _ (by decide), gs_c _ _ _ _ (by decide), gs_self]
                      have hw298 : g294 132 = (pz_up (g 132) ((g 126 0).toNat) x280.toInt) := by rw [← eg295, gs_r _ _ _ (by decide), gs_r _ _ _ (by decide), pz_gs, (show g265 132 = g231 132 from funext fun j => hf267 132 j (by decide) (by decide) (by decide)), (show g231 132 = g 132 from funext fun j => hf233 132 j (by decide) (by decide) (by decide))]
                      have v299 : g294 133 ((g 126 0).toNat) = x286.toInt := by rw [← eg295, gs_c _ _ _ _ (by decide), gs_self]
                      have hw300 : g294 133 = (pz_up (g 133) ((g 126 0).toNat) x286.toInt) := by rw [← eg295, gs_r _ _ _ (by decide), pz_gs, gs_r _ _ _ (by decide), (show g265 133 = g231 133 from funext fun j => hf267 133 j (by decide) (by decide) (by decide)), (show g231 133 = g 133 from funext fun j => hf233 133 j (by decide) (by decide) (by decide))]
                      have v301 : g294 134 ((g 126 0).toNat) = x292.toInt := by rw [← eg295, gs_self]
                      have hw302 : g294 134 = (pz_up (g 134) ((g 126 0).toNat) x292.toInt) := by rw [← eg295, pz_gs, gs_r _ _ _ (by decide), gs_r _ _ _ (by decide), (show g265 134 = g231 134 from funext fun j => hf267 134 j (by decide) (by decide) (by decide)), (show g231 134 = g 134 from funext fun j => hf233 134 j (by decide) (by decide) (by decide))]
                      try have hj303 : IJ g294 := by rw [← eg295]; (repeat (first | with_reducible assumption | (refine IJ_c (by decide) (by decide) (by decide) ?_) | (refine IJ_take (by omega) (by omega) ?_) | (refine IJ_how (by omega) ?_) | (refine IJ_by (by omega) ?_)))
                      refine lv_aload_n hx hb dX9_give_209 rfl (lv_at hl 1 rfl) ?_
                      refine get_X9_35 hx hb hA hown hE hG t_h0 wd_4_165 dX9_give_210 (fun b304 (t_b304 : ty Γ b304 135) => ?_)
                      refine ty_iconst hx hb (4) dX9_give_213 (by decide) (fun x305 h306 => ?_)
                      refine lv_aload_n hx hb dX9_give_214 rfl (lv_at hl 1 rfl) ?_
                      refine get_X9_26 hx hb hA hown hE hG t_h0 wd_4_156 dX9_give_215 (fun x307 h308 => ?_)
                      have hk310 : g294 126 0 = g265 126 0 := hf296 126 0 (by decide) (by decide) (by decide)
                      refine ty_imul hx hb dX9_give_218 (fun x311 h312 => ?_)
                      try have h313 : x311.toInt = 4 * x307.toInt := ty_mull h312 (by omega) (by omega) (by omega)
                      refine ty_iconst hx hb (3) dX9_give_219 (by decide) (fun x314 h315 => ?_)
                      refine ty_iadd hx hb dX9_give_220 (fun x316 h317 => ?_)
                      try have h318 : x316.toInt = x311.toInt + x314.toInt := ty_add h317 (by omega) (by omega)
                      refine ty_iconst hx hb (0) dX9_give_221 (by decide) (fun x319 h320 => ?_)
                      refine ast_mI hx hb hE hG hS hU 35 rfl (n := 840) rfl (lo := -2147483648) (hi := 2147483647) rfl rfl rfl t_b304 (rgD _) (by omega) dX9_give_222 (fun H locs hG hS => ?_)
                      rw [show x316.toInt.toNat = (4 * (g 126 0).toNat + 3) by omega] at hG
                      refine lv_aload_n hx hb dX9_give_223 rfl (lv_at hl 1 rfl) ?_
                      refine lv_dup hx hb dX9_give_224 rfl ?_
                      refine get_X9_26 hx hb hA hown hE hG t_h0 wd_4_156 dX9_give_225 (fun x321 h322 => ?_)
                      replace h322 : x321.toInt = g294 126 0 := by rw [h322, gs_c _ _ _ _ (by decide)]
                      refine ty_iconst hx hb (1) dX9_give_228 (by decide) (fun x324 h325 => ?_)
                      refine ty_iadd hx hb dX9_give_229 (fun x326 h327 => ?_)
                      try have h328 : x326.toInt = x321.toInt + x324.toInt := ty_add h327 (by omega) (by omega)
                      refine put_X9_26 hx hb hA hown hE hG hS hU t_h0 wd_4_156 dX9_give_230 (fun H locs hG hS => ?_)
                      refine lv_aload_n hx hb dX9_give_233 rfl (lv_at hl 1 rfl) ?_
                      refine get_X9_26 hx hb hA hown hE hG t_h0 wd_4_156 dX9_give_234 (fun x329 h330 => ?_)
                      replace h330 : x329.toInt = x326.toInt := by rw [h330, gs_self]
                      refine ty_iconst hx hb (1) dX9_give_237 (by decide) (fun x332 h333 => ?_)
                      refine ty_isub hx hb dX9_give_238 (fun x334 h335 => ?_)
                      try have h336 : x334.toInt = x329.toInt - x332.toInt := ty_sub h335 (by omega) (by omega)
                      have e337 : (gs (gs g294 135 (4 * (g 126 0).toNat + 3) x319.toInt) 126 0 x326.toInt) 126 0 = x326.toInt := by rw [gs_self]
                      have hA9 : (gs (gs g294 135 (4 * (g 126 0).toNat + 3) x319.toInt) 126 0 x326.toInt) 132 = pz_up (g 132) (g 126 0).toNat 0 := by rw [gs_r _ _ _ (by decide), gs_r _ _ _ (by decide), hw298] <;> exact pz_upc (by omega) (by omega)
                      have hB9 : (gs (gs g294 135 (4 * (g 126 0).toNat + 3) x319.toInt) 126 0 x326.toInt) 134 = pz_up (g 134) (g 126 0).toNat (-1) := by rw [gs_r _ _ _ (by decide), gs_r _ _ _ (by decide), hw302] <;> exact pz_upc (by omega) (by omega)
                      have hIJ9 : IJ (gs (gs g294 135 (4 * (g 126 0).toNat + 3) x319.toInt) 126 0 x326.toInt) := IJ_give (g := g) (n := (g 126 0).toNat) (by omega) (by omega) hIJ (by omega) (fun j => by rw [pz_gs, hA9]) (fun j hj => by rw [hB9]; exact pz_up_n hj)
                      have e338 : (gs (gs g294 135 (4 * (g 126 0).toNat + 3) x319.toInt) 126 0 x326.toInt) 126 0 = x326.toInt := by rw [gs_self]
                      exact W.iret (v := x334) hx hb hr (fun t ht hW => ⟨⟨x334, (gs (gs g294 135 (4 * (g 126 0).toNat + 3) x319.toInt) 126 0 x326.toInt), rfl, ⟨(fun c j h100 h126 h127 h128 h129 h130 h131 h132 h133 h134 h135 => by rw [gs_c _ _ _ _ h126, gs_c _ _ _ _ h135, hf296 c j h132 h133 h134, hf267 c j h129 h130 h131, hf233 c j h100 h127 h128]), (by first | exact hIJ9 | ((repeat (first | with_reducible assumption | (refine IJ_c (by decide) (by decide) (by decide) ?_) | (refine IJ_take (by omega) (by omega) ?_) | (refine IJ_how (by omega) ?_) | (refine IJ_by (by omega) ?_))))), (by have hcd : gv_c (g 101 0) (g 104 0) (g 126 0) (g 112 0) (g 108) (g 109) (g 110) (ga_f (g 128) (g 129) (g 130) p2.toInt p3.toInt (g 111 0) (g 126 0).toNat) (g 132) p1.toInt p2.toInt p3.toInt = 0 := (by unfold gv_c; rw [if_neg (by omega), if_neg (by omega), if_neg (by omega), if_neg (by omega), if_neg (by omega), if_neg (by omega)]); exact ⟨fun _ => ⟨(by omega), (by omega), (by rw [gs_r _ _ _ (by decide), gs_r _ _ _ (by decide), (show g294 127 = g265 127 from funext fun j => hf296 127 j (by decide) (by decide) (by decide)), (show g265 127 = g231 127 from funext fun j => hf267 127 j (by decide) (by decide) (by decide)), hw236] <;> exact pz_upc (by omega) (by omega)), (by rw [gs_r _ _ _ (by decide), gs_r _ _ _ (by decide), (show g294 128 = g265 128 from funext fun j => hf296 128 j (by decide) (by decide) (by decide)), (show g265 128 = g231 128 from funext fun j => hf267 128 j (by decide) (by decide) (by decide)), hw238] <;> exact pz_upc (by omega) (by omega)), (by rw [gs_r _ _ _ (by decide), gs_r _ _ _ (by decide), (show g294 129 = g265 129 from funext fun j => hf296 129 j (by decide) (by decide) (by decide)), hw269] <;> exact pz_upc (by omega) (by omega)), (by rw [gs_r _ _ _ (by decide), gs_r _ _ _ (by decide), (show g294 130 = g265 130 from funext fun j => hf296 130 j (by decide) (by decide) (by decide)), hw271] <;> exact pz_upc (by omega) (by omega)), (by rw [gs_r _ _ _ (by decide), gs_r _ _ _ (by decide), (show g294 131 = g265 131 from funext fun j => hf296 131 j (by decide) (by decide) (by decide)), hw273] <;> exact pz_upc (by omega) (by omega)), (by rw [gs_r _ _ _ (by decide), gs_r _ _ _ (by decide), hw298] <;> exact pz_upc (by omega) (by omega)), (by rw [gs_r _ _ _ (by decide), gs_r _ _ _ (by decide), hw300] <;> exact pz_upc (by omega) (by omega)), (by rw [gs_r _ _ _ (by decide), gs_r _ _ _ (by decide), hw302] <;> exact pz_upc (by omega) (by omega)), (by rw [gs_r _ _ _ (by decide), pz_gs, (show g294 135 = g265 135 from funext fun j => hf296 135 j (by decide) (by decide) (by decide)), (show g265 135 = g231 135 from funext fun j => hf267 135 j (by decide) (by decide) (by decide)), (show g231 135 = g 135 from funext fun j => hf233 135 j (by decide) (by decide) (by decide))] <;> exact pz_upc (by omega) (by omega))⟩, fun q => absurd hcd q⟩)⟩, ok1 ht hG⟩, hS.F ht⟩) hS.2.2 dX9_give_239
                    · skip
                      refine ty_bipush hx hb (-6) dX9_give_118 (by decide) (fun x339 h340 => ?_)
                      exact W.iret (v := x339) hx hb hr (fun t ht hW => ⟨⟨x339, (gs g 100 0 x1.toInt), rfl, ⟨(fun c j h100 h126 h127 h128 h129 h130 h131 h132 h133 h134 h135 => by rw [gs_c _ _ _ _ h100]), (by first | exact hIJ9 | ((repeat (first | with_reducible assumption | (refine IJ_c (by decide) (by decide) (by decide) ?_) | (refine IJ_take (by omega) (by omega) ?_) | (refine IJ_how (by omega) ?_) | (refine IJ_by (by omega) ?_))))), (by have hcd : gv_c (g 101 0) (g 104 0) (g 126 0) (g 112 0) (g 108) (g 109) (g 110) (ga_f (g 128) (g 129) (g 130) p2.toInt p3.toInt (g 111 0) (g 126 0).toNat) (g 132) p1.toInt p2.toInt p3.toInt = -6 := (by unfold gv_c; rw [if_neg (by omega), if_neg (by omega), if_neg (by omega), if_neg (by omega), if_neg (by omega), if_pos (by omega)]); exact ⟨fun q => absurd (hcd.symm.trans q) (by decide), fun _ => ⟨(by rw [hcd]; omega), (by rw [gs_c _ _ _ _ (by decide)]), (by rw [gs_r _ _ _ (by decide)]), (by rw [gs_r _ _ _ (by decide)]), (by rw [gs_r _ _ _ (by decide)]), (by rw [gs_r _ _ _ (by decide)]), (by rw [gs_r _ _ _ (by decide)]), (by rw [gs_r _ _ _ (by decide)]), (by rw [gs_r _ _ _ (by decide)]), (by rw [gs_r _ _ _ (by decide)]), (by rw [gs_r _ _ _ (by decide)])⟩⟩)⟩, ok1 ht hG⟩, hS.F ht⟩) hS.2.2 dX9_give_120
                · skip
                  refine ty_bipush hx hb (-5) dX9_give_95 (by decide) (fun x341 h342 => ?_)
                  exact W.iret (v := x341) hx hb hr (fun t ht hW => ⟨⟨x341, (gs g 100 0 x1.toInt), rfl, ⟨(fun c j h100 h126 h127 h128 h129 h130 h131 h132 h133 h134 h135 => by rw [gs_c _ _ _ _ h100]), (by first | exact hIJ9 | ((repeat (first | with_reducible assumption | (refine IJ_c (by decide) (by decide) (by decide) ?_) | (refine IJ_take (by omega) (by omega) ?_) | (refine IJ_how (by omega) ?_) | (refine IJ_by (by omega) ?_))))), (by have hcd : gv_c (g 101 0) (g 104 0) (g 126 0) (g 112 0) (g 108) (g 109) (g 110) (ga_f (g 128) (g 129) (g 130) p2.toInt p3.toInt (g 111 0) (g 126 0).toNat) (g 132) p1.toInt p2.toInt p3.toInt = -5 := (by unfold gv_c; rw [if_neg (by omega), if_neg (by omega), if_neg (by omega), if_neg (by omega), if_pos (by omega)]); exact ⟨fun q => absurd (hcd.symm.trans q) (by decide), fun _ => ⟨(by rw [hcd]; omega), (by rw [gs_c _ _ _ _ (by decide)]), (by rw [gs_r _ _ _ (by decide)]), (by rw [gs_r _ _ _ (by decide)]), (by rw [gs_r _ _ _ (by decide)]), (by rw [gs_r _ _ _ (by decide)]), (by rw [gs_r _ _ _ (by decide)]), (by rw [gs_r _ _ _ (by decide)]), (by rw [gs_r _ _ _ (by decide)]), (by rw [gs_r _ _ _ (by decide)]), (by rw [gs_r _ _ _ (by decide)])⟩⟩)⟩, ok1 ht hG⟩, hS.F ht⟩) hS.2.2 dX9_give_97
            · skip
              refine ty_bipush hx hb (-4) dX9_give_67 (by decide) (fun x343 h344 => ?_)
              exact W.iret (v := x343) hx hb hr (fun t ht hW => ⟨⟨x343, (gs g 100 0 x1.toInt), rfl, ⟨(fun c j h100 h126 h127 h128 h129 h130 h131 h132 h133 h134 h135 => by rw [gs_c _ _ _ _ h100]), (by first | exact hIJ9 | ((repeat (first | with_reducible assumption | (refine IJ_c (by decide) (by decide) (by decide) ?_) | (refine IJ_take (by omega) (by omega) ?_) | (refine IJ_how (by omega) ?_) | (refine IJ_by (by omega) ?_))))), (by have hcd : gv_c (g 101 0) (g 104 0) (g 126 0) (g 112 0) (g 108) (g 109) (g 110) (ga_f (g 128) (g 129) (g 130) p2.toInt p3.toInt (g 111 0) (g 126 0).toNat) (g 132) p1.toInt p2.toInt p3.toInt = -4 := (by unfold gv_c; rw [if_neg (by omega), if_neg (by omega), if_neg (by omega), if_pos (by omega)]); exact ⟨fun q => absurd (hcd.symm.trans q) (by decide), fun _ => ⟨(by rw [hcd]; omega), (by rw [gs_c _ _ _ _ (by decide)]), (by rw [gs_r _ _ _ (by decide)]), (by rw [gs_r _ _ _ (by decide)]), (by rw [gs_r _ _ _ (by decide)]), (by rw [gs_r _ _ _ (by decide)]), (by rw [gs_r _ _ _ (by decide)]), (by rw [gs_r _ _ _ (by decide)]), (by rw [gs_r _ _ _ (by decide)]), (by rw [gs_r _ _ _ (by decide)]), (by rw [gs_r _ _ _ (by decide)])⟩⟩)⟩, ok1 ht hG⟩, hS.F ht⟩) hS.2.2 dX9_give_69
          · skip
            refine ty_bipush hx hb (-3) dX9_give_50 (by decide) (fun x345 h346 => ?_)
            exact W.iret (v := x345) hx hb hr (fun t ht hW => ⟨⟨x345, (gs g 100 0 x1.toInt), rfl, ⟨(fun c j h100 h126 h127 h128 h129 h130 h131 h132 h133 h134 h135 => by rw [gs_c _ _ _ _ h100]), (by first | exact hIJ9 | ((repeat (first | with_reducible assumption | (refine IJ_c (by decide) (by decide) (by decide) ?_) | (refine IJ_take (by omega) (by omega) ?_) | (refine IJ_how (by omega) ?_) | (refine IJ_by (by omega) ?_))))), (by have hcd : gv_c (g 101 0) (g 104 0) (g 126 0) (g 112 0) (g 108) (g 109) (g 110) (ga_f (g 128) (g 129) (g 130) p2.toInt p3.toInt (g 111 0) (g 126 0).toNat) (g 132) p1.toInt p2.toInt p3.toInt = -3 := (by unfold gv_c; rw [if_neg (by omega), if_neg (by omega), if_pos (by omega)]); exact ⟨fun q => absurd (hcd.symm.trans q) (by decide), fun _ => ⟨(by rw [hcd]; omega), (by rw [gs_c _ _ _ _ (by decide)]), (by rw [gs_r _ _ _ (by decide)]), (by rw [gs_r _ _ _ (by decide)]), (by rw [gs_r _ _ _ (by decide)]), (by rw [gs_r _ _ _ (by decide)]), (by rw [gs_r _ _ _ (by decide)]), (by rw [gs_r _ _ _ (by decide)]), (by rw [gs_r _ _ _ (by decide)]), (by rw [gs_r _ _ _ (by decide)]), (by rw [gs_r _ _ _ (by decide)])⟩⟩)⟩, ok1 ht hG⟩, hS.F ht⟩) hS.2.2 dX9_give_52
        · skip
          refine ty_bipush hx hb (-2) dX9_give_39 (by decide) (fun x347 h348 => ?_)
          exact W.iret (v := x347) hx hb hr (fun t ht hW => ⟨⟨x347, (gs g 100 0 x1.toInt), rfl, ⟨(fun c j h100 h126 h127 h128 h129 h130 h131 h132 h133 h134 h135 => by rw [gs_c _ _ _ _ h100]), (by first | exact hIJ9 | ((repeat (first | with_reducible assumption | (refine IJ_c (by decide) (by decide) (by decide) ?_) | (refine IJ_take (by omega) (by omega) ?_) | (refine IJ_how (by omega) ?_) | (refine IJ_by (by omega) ?_))))), (by have hcd : gv_c (g 101 0) (g 104 0) (g 126 0) (g 112 0) (g 108) (g 109) (g 110) (ga_f (g 128) (g 129) (g 130) p2.toInt p3.toInt (g 111 0) (g 126 0).toNat) (g 132) p1.toInt p2.toInt p3.toInt = -2 := (by unfold gv_c; rw [if_neg (by omega), if_pos (by omega)]); exact ⟨fun q => absurd (hcd.symm.trans q) (by decide), fun _ => ⟨(by rw [hcd]; omega), (by rw [gs_c _ _ _ _ (by decide)]), (by rw [gs_r _ _ _ (by decide)]), (by rw [gs_r _ _ _ (by decide)]), (by rw [gs_r _ _ _ (by decide)]), (by rw [gs_r _ _ _ (by decide)]), (by rw [gs_r _ _ _ (by decide)]), (by rw [gs_r _ _ _ (by decide)]), (by rw [gs_r _ _ _ (by decide)]), (by rw [gs_r _ _ _ (by decide)]), (by rw [gs_r _ _ _ (by decide)])⟩⟩)⟩, ok1 ht hG⟩, hS.F ht⟩) hS.2.2 dX9_give_41
      · skip
        refine ty_iconst hx hb (-1) dX9_give_22 (by decide) (fun x349 h350 => ?_)
        exact W.iret (v := x349) hx hb hr (fun t ht hW => ⟨⟨x349, (gs g 100 0 x1.toInt), rfl, ⟨(fun c j h100 h126 h127 h128 h129 h130 h131 h132 h133 h134 h135 => by rw [gs_c _ _ _ _ h100]), (by first | exact hIJ9 | ((repeat (first | with_reducible assumption | (refine IJ_c (by decide) (by decide) (by decide) ?_) | (refine IJ_take (by omega) (by omega) ?_) | (refine IJ_how (by omega) ?_) | (refine IJ_by (by omega) ?_))))), (by have hcd : gv_c (g 101 0) (g 104 0) (g 126 0) (g 112 0) (g 108) (g 109) (g 110) (ga_f (g 128) (g 129) (g 130) p2.toInt p3.toInt (g 111 0) (g 126 0).toNat) (g 132) p1.toInt p2.toInt p3.toInt = -1 := (by unfold gv_c; rw [if_pos (by omega)]); exact ⟨fun q => absurd (hcd.symm.trans q) (by decide), fun _ => ⟨(by rw [hcd]; omega), (by rw [gs_c _ _ _ _ (by decide)]), (by rw [gs_r _ _ _ (by decide)]), (by rw [gs_r _ _ _ (by decide)]), (by rw [gs_r _ _ _ (by decide)]), (by rw [gs_r _ _ _ (by decide)]), (by rw [gs_r _ _ _ (by decide)]), (by rw [gs_r _ _ _ (by decide)]), (by rw [gs_r _ _ _ (by decide)]), (by rw [gs_r _ _ _ (by decide)]), (by rw [gs_r _ _ _ (by decide)])⟩⟩)⟩, ok1 ht hG⟩, hS.F ht⟩) hS.2.2 dX9_give_23
  · skip
    refine ty_if_eq (tgt := 22) hx hb dX9_give_10 (by decide) (fun c351 => ?_) (fun c351 => ?_)
    · skip
      refine ty_iconst hx hb (-1) dX9_give_22 (by decide) (fun x352 h353 => ?_)
      exact W.iret (v := x352) hx hb hr (fun t ht hW => ⟨⟨x352, (gs g 100 0 x1.toInt), rfl, ⟨(fun c j h100 h126 h127 h128 h129 h130 h131 h132 h133 h134 h135 => by rw [gs_c _ _ _ _ h100]), (by first | exact hIJ9 | ((repeat (first | with_reducible assumption | (refine IJ_c (by decide) (by decide) (by decide) ?_) | (refine IJ_take (by omega) (by omega) ?_) | (refine IJ_how (by omega) ?_) | (refine IJ_by (by omega) ?_))))), (by have hcd : gv_c (g 101 0) (g 104 0) (g 126 0) (g 112 0) (g 108) (g 109) (g 110) (ga_f (g 128) (g 129) (g 130) p2.toInt p3.toInt (g 111 0) (g 126 0).toNat) (g 132) p1.toInt p2.toInt p3.toInt = -1 := (by unfold gv_c; rw [if_pos (by omega)]); exact ⟨fun q => absurd (hcd.symm.trans q) (by decide), fun _ => ⟨(by rw [hcd]; omega), (by rw [gs_c _ _ _ _ (by decide)]), (by rw [gs_r _ _ _ (by decide)]), (by rw [gs_r _ _ _ (by decide)]), (by rw [gs_r _ _ _ (by decide)]), (by rw [gs_r _ _ _ (by decide)]), (by rw [gs_r _ _ _ (by decide)]), (by rw [gs_r _ _ _ (by decide)]), (by rw [gs_r _ _ _ (by decide)]), (by rw [gs_r _ _ _ (by decide)]), (by rw [gs_r _ _ _ (by decide)])⟩⟩)⟩, ok1 ht hG⟩, hS.F ht⟩) hS.2.2 dX9_give_23
    · exfalso; omega
