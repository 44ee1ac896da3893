set_option maxHeartbeats 4000000 in
set_option maxRecDepth 100000 in
/-- WeekBankModel.give:  -/
theorem k_X9_give (l : Launch) (dC : Nat → ClassId) (dI : Nat → Nat → Nat) (dA : Nat → ClassId) (sz : Nat) (X : va_W) (Γ : ty_G) (hU : Un Γ) (g : gh) (h0 : Nat) (t_h0 : ty Γ h0 30) (p1 : Int32) (p2 : Int32) (p3 : Int32) (m1 : 0 ≤ g 101 0 ∧ g 101 0 ≤ 6) (m4 : 0 ≤ g 104 0 ∧ g 104 0 ≤ 10) (m26 : 0 ≤ g 126 0 ∧ g 126 0 ≤ 200) (m22 : 0 ≤ g 122 0 ∧ g 122 0 ≤ 30) (hIJ : IJ g) : Met l yX9_give (.code yX9_give cX9_give 5 (Option.some Jvm.ClassFile.FieldType.int) :: AL) ({ frames := 2, cells := 0, slots := 0, locals := 51 }) (PCx dC dI dA sz X Γ g [.ref h0, .int p1, .int p2, .int p3]) (va_Qi (fun (r : Int32) (u : gh) => (∀ c j : Nat, c ≠ 100 → c ≠ 126 → c ≠ 127 → c ≠ 128 → c ≠ 129 → c ≠ 130 → c ≠ 131 → c ≠ 132 → c ≠ 133 → c ≠ 134 → c ≠ 135 → u c j = g c j) ∧ ((0 ≤ u 126 0 ∧ u 126 0 ≤ 200)) ∧ (IJ u)) (okb dC dI dA sz X Γ) (ty_A sz)) 0 0 (ty_A sz) := by
  refine Met.ofW (cc := cX9_give) (maxL := 5) (ret := (Option.some Jvm.ClassFile.FieldType.int)) (by decide) rfl ?_
  intro p e s m args below meth c s₁ B hml hv
  obtain ⟨rfl, hG, hE⟩ := hv
  have hx := B.exec
  have hb := B.bytes
  have hr := B.returns
  have hts := atoms_spec B.pre
  have hA : ∀ w ∈ AL, w.before _ s = true := fun w h => hts w (List.mem_cons_of_mem _ h)
  have hown : s.vm.findClass RX9 = some m.cls := findClass_of_methodNamed B.named
  have hlocks := B.notSynchronized
  have hS : va_S (ty_A sz) s.heap s.heap [] := va_S.rf
  have hl := lv_entry ([.ref h0, .int p1, .int p2, .int p3]) (n := 5) (Nat.le_of_ble_eq_true rfl)
  rw [lg_entry_eq]
  generalize (lg_sl ([.ref h0, .int p1, .int p2, .int p3]) ++ List.replicate (5 - (lg_sl ([.ref h0, .int p1, .int p2, .int p3])).length) Slot.unset).toArray = ls at hl ⊢
  have hl : lv_has ls 5 [(0, .ref h0), (1, .int p1), (2, .int p2), (3, .int p3)] := hl
  refine lv_aload_n hx hb dX9_give_0 rfl (lv_at hl 0 rfl) ?_
  refine ty_iconst hx hb (0) dX9_give_1 (by decide) (fun x1 h2 => ?_)
  refine put_X9_0 hx hb hA hown hE hG hS hU t_h0 wd_4_130 dX9_give_2 (fun H locs hG hS => ?_)
  refine lv_aload_n hx hb dX9_give_5 rfl (lv_at hl 0 rfl) ?_
  refine lv_iload_n hx hb dX9_give_6 rfl (lv_at hl 1 rfl) ?_
  have e3 : (gs g 100 0 x1.toInt) 104 0 = g 104 0 := by simp [gs]
  have e4 : (gs g 100 0 x1.toInt) 104 0 = g 104 0 := by simp [gs]
  refine cI (va_runV (C := RX9) (As := [.int p1]) (rest := []) ⟨hx, hb, hml, hown, hA⟩ (k_X9_isAlive l dC dI dA sz X Γ hU (gs g 100 0 x1.toInt) h0 t_h0 p1   (by omega)) ⟨callB_of 1 hA (al_A wd_5_54) rfl rfl rfl (hA _ wd_1_7) (hA _ wd_5_51) (by decide +kernel) ⟨Nat.le_of_ble_eq_true rfl, Nat.le_of_ble_eq_true rfl⟩, hA _ wd_5_53, hA _ ws_37⟩ ⟨bl, recv_X9 hE hG t_h0, fun U hU9 hW9 => ⟨rfl, by rw [hU9]; exact hG, hE.go hS hU9 hW9⟩⟩ rfl rfl hl.1 rfl (lv_room (Nat.le_of_ble_eq_true rfl)) dX9_give_7 ⟨Nat.zero_le _, Nat.zero_le _⟩) hS (fun x7 u5 H locs w6 hG hS => ?_)
  obtain ⟨eu8, w6⟩ := w6
  rw [eu8] at hG
  refine ty_if_eq (tgt := 22) hx hb dX9_give_10 (by decide) (fun c9 => ?_) (fun c9 => ?_)
  · skip
    refine ty_iconst hx hb (-1) dX9_give_22 (by decide) (fun x10 h11 => ?_)
    have e12 : (gs g 100 0 x1.toInt) 126 0 = g 126 0 := by simp [gs]
    exact W.iret (v := x10) hx hb hr (fun t ht hW => ⟨⟨x10, (gs g 100 0 x1.toInt), rfl, ⟨(fun c j h100 h126 h127 h128 h129 h130 h131 h132 h133 h134 h135 => by rw [gs_c _ _ _ _ h100]), (by omega), (by first | exact hIJ9 | ((repeat (first | with_reducible assumption | (refine IJ_c (by decide) (by decide) (by decide) ?_) | (refine IJ_take (by omega) (by omega) ?_) | (refine IJ_how (by omega) ?_) | (refine IJ_by (by omega) ?_)))))⟩, ok1 ht hG⟩, hS.F ht⟩) hS.2.2 dX9_give_23
  · skip
    refine lv_aload_n hx hb dX9_give_13 rfl (lv_at hl 0 rfl) ?_
    refine lv_iload_n hx hb dX9_give_14 rfl (lv_at hl 2 rfl) ?_
    refine lv_iload_n hx hb dX9_give_15 rfl (lv_at hl 3 rfl) ?_
    have e13 : (gs g 100 0 x1.toInt) 101 0 = g 101 0 := by simp [gs]
    refine cI (va_runV (C := RX9) (As := [.int p2, .int p3]) (rest := []) ⟨hx, hb, hml, hown, hA⟩ (k_X9_isPlace l dC dI dA sz X Γ hU (gs g 100 0 x1.toInt) h0 t_h0 p2 p3   ) ⟨callB_of 2 hA (al_A wd_5_50) rfl rfl rfl (hA _ wd_1_7) (hA _ wd_5_47) (by decide +kernel) ⟨Nat.le_of_ble_eq_true rfl, Nat.le_of_ble_eq_true rfl⟩, hA _ wd_5_49, hA _ ws_36⟩ ⟨bl, recv_X9 hE hG t_h0, fun U hU9 hW9 => ⟨rfl, by rw [hU9]; exact hG, hE.go hS hU9 hW9⟩⟩ rfl rfl hl.1 rfl (lv_room (Nat.le_of_ble_eq_true rfl)) dX9_give_16 ⟨Nat.zero_le _, Nat.zero_le _⟩) hS (fun x16 u14 H locs w15 hG hS => ?_)
    obtain ⟨eu17, w15⟩ := w15
    rw [eu17] at hG
    refine ty_if_ne (tgt := 24) hx hb dX9_give_19 (by decide) (fun c18 => ?_) (fun c18 => ?_)
    · skip
      refine lv_aload_n hx hb dX9_give_24 rfl (lv_at hl 0 rfl) ?_
      refine get_X9_9 hx hb hA hown hE hG t_h0 wd_4_139 dX9_give_25 (fun b19 (t_b19 : ty Γ b19 109) => ?_)
      refine ty_bipush hx hb (53) dX9_give_28 (by decide) (fun x20 h21 => ?_)
      refine lv_iload_n hx hb dX9_give_30 rfl (lv_at hl 2 rfl) ?_
      refine ty_imul hx hb dX9_give_31 (fun x22 h23 => ?_)
      try have h24 : x22.toInt = 53 * p2.toInt := ty_mull h23 (by omega) (by omega) (by omega)
      refine lv_iload_n hx hb dX9_give_32 rfl (lv_at hl 3 rfl) ?_
      refine ty_iadd hx hb dX9_give_33 (fun x25 h26 => ?_)
      try have h27 : x25.toInt = x22.toInt + p3.toInt := ty_add h26 (by omega) (by omega)
      refine ald_mI hx hb hE hG 9 rfl (n := 318) rfl (lo := -2147483648) (hi := 2147483647) rfl rfl t_b19 (by omega) dX9_give_34 (fun j29 x28 h30 h31 h32 => ?_)
      clear h32
      refine lv_iload_n hx hb dX9_give_35 rfl (lv_at hl 1 rfl) ?_
      refine ty_icmp_eq (tgt := 42) hx hb dX9_give_36 (by decide) (fun c33 => ?_) (fun c33 => ?_)
      · skip
        refine lv_iload_n hx hb dX9_give_42 rfl (lv_at hl 3 rfl) ?_
        refine lv_aload_n hx hb dX9_give_43 rfl (lv_at hl 0 rfl) ?_
        refine get_X9_12 hx hb hA hown hE hG t_h0 wd_4_142 dX9_give_44 (fun x34 h35 => ?_)
        replace h35 : x34.toInt = g 112 0 := by rw [h35]; simp [gs]
        refine ty_icmp_gt (tgt := 53) hx hb dX9_give_47 (by decide) (fun c37 => ?_) (fun c37 => ?_)
        · skip
          refine lv_aload_n hx hb dX9_give_53 rfl (lv_at hl 0 rfl) ?_
          refine get_X9_10 hx hb hA hown hE hG t_h0 wd_4_140 dX9_give_54 (fun b38 (t_b38 : ty Γ b38 110) => ?_)
          refine ty_bipush hx hb (53) dX9_give_57 (by decide) (fun x39 h40 => ?_)
          refine lv_iload_n hx hb dX9_give_59 rfl (lv_at hl 2 rfl) ?_
          refine ty_imul hx hb dX9_give_60 (fun x41 h42 => ?_)
          try have h43 : x41.toInt = 53 * p2.toInt := ty_mull h42 (by omega) (by omega) (by omega)
          refine lv_iload_n hx hb dX9_give_61 rfl (lv_at hl 3 rfl) ?_
          refine ty_iadd hx hb dX9_give_62 (fun x44 h45 => ?_)
          try have h46 : x44.toInt = x41.toInt + p3.toInt := ty_add h45 (by omega) (by omega)
          refine ald_mZ hx hb hE hG 10 rfl (n := 318) rfl (lo := 0) (hi := 1) rfl rfl t_b38 (by omega) dX9_give_63 (fun j48 x47 h49 h50 h51 => ?_)
          refine ty_if_eq (tgt := 70) hx hb dX9_give_64 (by decide) (fun c52 => ?_) (fun c52 => ?_)
          · skip
            refine lv_aload_n hx hb dX9_give_70 rfl (lv_at hl 0 rfl) ?_
            refine lv_iload_n hx hb dX9_give_71 rfl (lv_at hl 2 rfl) ?_
            refine lv_iload_n hx hb dX9_give_72 rfl (lv_at hl 3 rfl) ?_
            have e53 : (gs g 100 0 x1.toInt) 126 0 = g 126 0 := by simp [gs]
            have e54 : (gs g 100 0 x1.toInt) 126 0 = g 126 0 := by simp [gs]
            refine cI (va_runV (C := RX9) (As := [.int p2, .int p3]) (rest := []) ⟨hx, hb, hml, hown, hA⟩ (k_X9_givenAt l dC dI dA sz X Γ hU (gs g 100 0 x1.toInt) h0 t_h0 p2 p3   (by omega)) ⟨callB_of 2 hA (al_A wd_5_58) rfl rfl rfl (hA _ wd_1_7) (hA _ wd_5_55) (by decide +kernel) ⟨Nat.le_of_ble_eq_true rfl, Nat.le_of_ble_eq_true rfl⟩, hA _ wd_5_57, hA _ ws_38⟩ ⟨bl, recv_X9 hE hG t_h0, fun U hU9 hW9 => ⟨rfl, by rw [hU9]; exact hG, hE.go hS hU9 hW9⟩⟩ rfl rfl hl.1 rfl (lv_room (Nat.le_of_ble_eq_true rfl)) dX9_give_73 ⟨Nat.zero_le _, Nat.zero_le _⟩) hS (fun x57 u55 H locs w56 hG hS => ?_)
            obtain ⟨eu58, w56⟩ := w56
            rw [eu58] at hG
            refine lv_istore (lv' := [(4, .int x57), (0, .ref h0), (1, .int p1), (2, .int p2), (3, .int p3)]) hx hb dX9_give_76 hl (by decide) rfl (fun ls hl => ?_)
            refine lv_iload hx hb dX9_give_78 (lv_at hl 0 rfl) ?_
            refine ty_iconst hx hb (-1) dX9_give_80 (by decide) (fun x59 h60 => ?_)
            refine ty_icmp_eq (tgt := 98) hx hb dX9_give_81 (by decide) (fun c61 => ?_) (fun c61 => ?_)
            · skip
              refine lv_aload_n hx hb dX9_give_98 rfl (lv_at hl 1 rfl) ?_
              refine ty_iconst hx hb (0) dX9_give_99 (by decide) (fun x62 h63 => ?_)
              have e64 : (gs g 100 0 x1.toInt) 126 0 = g 126 0 := by simp [gs]
              have e65 : (gs g 100 0 x1.toInt) 126 0 = g 126 0 := by simp [gs]
              refine cI (va_runV (C := RX9) (As := [.int x62]) (rest := []) ⟨hx, hb, hml, hown, hA⟩ (k_X9_many l dC dI dA sz X Γ hU (gs g 100 0 x1.toInt) h0 t_h0 x62   (by omega)) ⟨callB_of 1 hA (al_A wd_5_128) rfl rfl rfl (hA _ wd_1_7) (hA _ wd_5_125) (by decide +kernel) ⟨Nat.le_of_ble_eq_true rfl, Nat.le_of_ble_eq_true rfl⟩, hA _ wd_5_127, hA _ ws_46⟩ ⟨bl, recv_X9 hE hG t_h0, fun U hU9 hW9 => ⟨rfl, by rw [hU9]; exact hG, hE.go hS hU9 hW9⟩⟩ rfl rfl hl.1 rfl (lv_room (Nat.le_of_ble_eq_true rfl)) dX9_give_100 ⟨Nat.zero_le _, Nat.zero_le _⟩) hS (fun x68 u66 H locs w67 hG hS => ?_)
              obtain ⟨eu69, w67⟩ := w67
              rw [eu69] at hG
              try have hm9 : x68.toInt = (cnt (g 126 0).toNat (g 132) 0 : Int) := by have e9 := cnt_eq (u := (gs g 100 0 x1.toInt)) (g := g) (v := 0) (by simp [gs]) (fun j => by simp [gs]); rw [show x62.toInt = 0 by omega] at w67; omega
              refine ty_bipush hx hb (9) dX9_give_103 (by decide) (fun x70 h71 => ?_)
              refine ty_icmp_eq (tgt := 118) hx hb dX9_give_105 (by decide) (fun c72 => ?_) (fun c72 => ?_)
              · skip
                refine ty_bipush hx hb (-6) dX9_give_118 (by decide) (fun x73 h74 => ?_)
                have e75 : (gs g 100 0 x1.toInt) 126 0 = g 126 0 := by simp [gs]
                exact W.iret (v := x73) hx hb hr (fun t ht hW => ⟨⟨x73, (gs g 100 0 x1.toInt), rfl, ⟨(fun c j h100 h126 h127 h128 h129 h130 h131 h132 h133 h134 h135 => by rw [gs_c _ _ _ _ h100]), (by omega), (by first | exact hIJ9 | ((repeat (first | with_reducible assumption | (refine IJ_c (by decide) (by decide) (by decide) ?_) | (refine IJ_take (by omega) (by omega) ?_) | (refine IJ_how (by omega) ?_) | (refine IJ_by (by omega) ?_)))))⟩, ok1 ht hG⟩, hS.F ht⟩) hS.2.2 dX9_give_120
              · skip
                refine lv_aload_n hx hb dX9_give_108 rfl (lv_at hl 1 rfl) ?_
                refine get_X9_26 hx hb hA hown hE hG t_h0 wd_4_156 dX9_give_109 (fun x76 h77 => ?_)
                replace h77 : x76.toInt = g 126 0 := by rw [h77]; simp [gs]
                refine ty_sipush hx hb (200) dX9_give_112 (by decide) (fun x79 h80 => ?_)
                refine ty_icmp_ne (tgt := 121) hx hb dX9_give_115 (by decide) (fun c81 => ?_) (fun c81 => ?_)
                · skip
                  refine lv_aload_n hx hb dX9_give_121 rfl (lv_at hl 1 rfl) ?_
                  refine get_X9_27 hx hb hA hown hE hG t_h0 wd_4_157 dX9_give_122 (fun b82 (t_b82 : ty Γ b82 127) => ?_)
                  refine lv_aload_n hx hb dX9_give_125 rfl (lv_at hl 1 rfl) ?_
                  refine get_X9_26 hx hb hA hown hE hG t_h0 wd_4_156 dX9_give_126 (fun x83 h84 => ?_)
                  replace h84 : x83.toInt = g 126 0 := by rw [h84]; simp [gs]
                  refine lv_iload_n hx hb dX9_give_129 rfl (lv_at hl 2 rfl) ?_
                  refine ast_mI hx hb hE hG hS hU 27 rfl (n := 200) rfl (lo := 0) (hi := 9) rfl rfl rfl t_b82 (by omega) (by omega) dX9_give_130 (fun H locs hG hS => ?_)
                  refine lv_aload_n hx hb dX9_give_131 rfl (lv_at hl 1 rfl) ?_
                  refine get_X9_28 hx hb hA hown hE hG t_h0 wd_4_158 dX9_give_132 (fun b86 (t_b86 : ty Γ b86 128) => ?_)
                  refine lv_aload_n hx hb dX9_give_135 rfl (lv_at hl 1 rfl) ?_
                  refine get_X9_26 hx hb hA hown hE hG t_h0 wd_4_156 dX9_give_136 (fun x87 h88 => ?_)
                  replace h88 : x87.toInt = g 126 0 := by rw [h88]; simp [gs]
                  refine lv_iload_n hx hb dX9_give_139 rfl (lv_at hl 3 rfl) ?_
                  refine ast_mI hx hb hE hG hS hU 28 rfl (n := 200) rfl (lo := 0) (hi := 5) rfl rfl rfl t_b86 (by omega) (by omega) dX9_give_140 (fun H locs hG hS => ?_)
                  generalize eg91 : (gs (gs (gs g 100 0 x1.toInt) 127 x83.toInt.toNat p1.toInt) 128 x87.toInt.toNat p2.toInt) = g90 at hG
                  have hf92 : ∀ c j : Nat, c ≠ 100 → c ≠ 127 → c ≠ 128 → g90 c j = g c j := fun c j h100 h127 h128 => by rw [← eg91, gs_c _ _ _ _ h128, gs_c _ _ _ _ h127, gs_c _ _ _ _ h100]
                  have v93 : g90 100 0 = x1.toInt := by rw [← eg91, gs_c _ _ _ _ (by decide), gs_c _ _ _ _ (by decide), gs_self]
                  have v94 : g90 127 x83.toInt.toNat = p1.toInt := by rw [← eg91, gs_c _ _ _ _ (by decide), gs_self]
                  have hw95 : g90 127 = gs g 127 x83.toInt.toNat p1.toInt 127 := funext fun j => by rw [← eg91, gs_c _ _ _ _ (by decide)]; exact gs_in (by rw [gs_c _ _ _ _ (by decide)])
                  have v96 : g90 128 x87.toInt.toNat = p2.toInt := by rw [← eg91, gs_self]
                  have hw97 : g90 128 = gs g 128 x87.toInt.toNat p2.toInt 128 := funext fun j => by rw [← eg91]; exact gs_in (by rw [gs_c _ _ _ _ (by decide), gs_c _ _ _ _ (by decide)])
                  have hj98 : IJ g90 := IJ_cg (hf92 126 0 (by decide) (by decide) (by decide)) (fun j => hf92 132 j (by decide) (by decide) (by decide)) (fun j => hf92 134 j (by decide) (by decide) (by decide)) (by (repeat (first | with_reducible assumption | (refine IJ_c (by decide) (by decide) (by decide) ?_) | (refine IJ_take (by omega) (by omega) ?_) | (refine IJ_how (by omega) ?_) | (refine IJ_by (by omega) ?_))))
                  refine lv_aload_n hx hb dX9_give_141 rfl (lv_at hl 1 rfl) ?_
                  refine get_X9_29 hx hb hA hown hE hG t_h0 wd_4_159 dX9_give_142 (fun b99 (t_b99 : ty Γ b99 129) => ?_)
                  refine lv_aload_n hx hb dX9_give_145 rfl (lv_at hl 1 rfl) ?_
                  refine get_X9_26 hx hb hA hown hE hG t_h0 wd_4_156 dX9_give_146 (fun x100 h101 => ?_)
                  have hk103 : g90 126 0 = g 126 0 := hf92 126 0 (by decide) (by decide) (by decide)
                  refine lv_iload_n hx hb dX9_give_149 rfl (lv_at hl 4 rfl) ?_
                  refine ast_mI hx hb hE hG hS hU 29 rfl (n := 200) rfl (lo := -2147483648) (hi := 2147483647) rfl rfl rfl t_b99 (rgD _) (by omega) dX9_give_150 (fun H locs hG hS => ?_)
                  refine lv_aload_n hx hb dX9_give_151 rfl (lv_at hl 1 rfl) ?_
                  refine get_X9_30 hx hb hA hown hE hG t_h0 wd_4_160 dX9_give_152 (fun b104 (t_b104 : ty Γ b104 130) => ?_)
                  refine lv_aload_n hx hb dX9_give_155 rfl (lv_at hl 1 rfl) ?_
                  refine get_X9_26 hx hb hA hown hE hG t_h0 wd_4_156 dX9_give_156 (fun x105 h106 => ?_)
                  replace h106 : x105.toInt = g90 126 0 := by rw [h106]; simp [gs]
                  refine lv_aload_n hx hb dX9_give_159 rfl (lv_at hl 1 rfl) ?_
                  refine get_X9_11 hx hb hA hown hE hG t_h0 wd_4_141 dX9_give_160 (fun x108 h109 => ?_)
                  replace h109 : x108.toInt = g90 111 0 := by rw [h109]; simp [gs]
                  have hk111 : g90 111 0 = g 111 0 := hf92 111 0 (by decide) (by decide) (by decide)
                  refine ast_mI hx hb hE hG hS hU 30 rfl (n := 200) rfl (lo := -2147483648) (hi := 2147483647) rfl rfl rfl t_b104 (rgD _) (by omega) dX9_give_163 (fun H locs hG hS => ?_)
                  refine lv_aload_n hx hb dX9_give_164 rfl (lv_at hl 1 rfl) ?_
                  refine get_X9_31 hx hb hA hown hE hG t_h0 wd_4_161 dX9_give_165 (fun b112 (t_b112 : ty Γ b112 131) => ?_)
                  refine lv_aload_n hx hb dX9_give_168 rfl (lv_at hl 1 rfl) ?_
                  refine get_X9_26 hx hb hA hown hE hG t_h0 wd_4_156 dX9_give_169 (fun x113 h114 => ?_)
                  replace h114 : x113.toInt = g90 126 0 := by rw [h114]; simp [gs]
                  refine lv_aload_n hx hb dX9_give_172 rfl (lv_at hl 1 rfl) ?_
                  refine lv_iload_n hx hb dX9_give_173 rfl (lv_at hl 3 rfl) ?_
                  refine lv_iload_n hx hb dX9_give_174 rfl (lv_at hl 4 rfl) ?_
                  have hk116 : g90 122 0 = g 122 0 := hf92 122 0 (by decide) (by decide) (by decide)
                  have e117 : (gs (gs g90 129 x100.toInt.toNat p3.toInt) 130 x105.toInt.toNat x108.toInt) 122 0 = g90 122 0 := by simp [gs]
                  refine cI (va_runV (C := RX9) (As := [.int p2, .int p3]) (rest := [.int x113, .ref b112]) ⟨hx, hb, hml, hown, hA⟩ (k_X9_worthOf l dC dI dA sz X Γ hU (gs (gs g90 129 x100.toInt.toNat p3.toInt) 130 x105.toInt.toNat x108.toInt) h0 t_h0 p2 p3   (by omega) (by omega)) ⟨callB_of 2 hA (al_A wd_5_120) rfl rfl rfl (hA _ wd_1_7) (hA _ wd_5_117) (by decide +kernel) ⟨Nat.le_of_ble_eq_true rfl, Nat.le_of_ble_eq_true rfl⟩, hA _ wd_5_119, hA _ ws_45⟩ ⟨bl, recv_X9 hE hG t_h0, fun U hU9 hW9 => ⟨rfl, by rw [hU9]; exact hG, hE.go hS hU9 hW9⟩⟩ rfl rfl hl.1 rfl (lv_room (Nat.le_of_ble_eq_true rfl)) dX9_give_175 ⟨Nat.zero_le _, Nat.zero_le _⟩) hS (fun x120 u118 H locs w119 hG hS => ?_)
                  have eu121 := w119
                  rw [eu121] at hG
                  refine ast_mI hx hb hE hG hS hU 31 rfl (n := 200) rfl (lo := -2147483648) (hi := 2147483647) rfl rfl rfl t_b112 (rgD _) (by omega) dX9_give_178 (fun H locs hG hS => ?_)
                  generalize eg123 : (gs (gs (gs g90 129 x100.toInt.toNat p3.toInt) 130 x105.toInt.toNat x108.toInt) 131 x113.toInt.toNat x120.toInt) = g122 at hG
                  have hf124 : ∀ c j : Nat, c ≠ 129 → c ≠ 130 → c ≠ 131 → g122 c j = g90 c j := fun c j h129 h130 h131 => by rw [← eg123, gs_c _ _ _ _ h131, gs_c _ _ _ _ h130, gs_c _ _ _ _ h129]
                  have v125 : g122 129 x100.toInt.toNat = p3.toInt := by rw [← eg123, gs_c _ _ _ _ (by decide), gs_c _ _ _ _ (by decide), gs_self]
                  have hw126 : g122 129 = gs g90 129 x100.toInt.toNat p3.toInt 129 := funext fun j => by rw [← eg123, gs_c _ _ _ _ (by decide), gs_c _ _ _ _ (by decide)]
                  have v127 : g122 130 x105.toInt.toNat = x108.toInt := by rw [← eg123, gs_c _ _ _ _ (by decide), gs_self]
                  have hw128 : g122 130 = gs g90 130 x105.toInt.toNat x108.toInt 130 := funext fun j => by rw [← eg123, gs_c _ _ _ _ (by decide)]; exact gs_in (by rw [gs_c _ _ _ _ (by decide)])
                  have v129 : g122 131 x113.toInt.toNat = x120.toInt := by rw [← eg123, gs_self]
                  have hw130 : g122 131 = gs g90 131 x113.toInt.toNat x120.toInt 131 := funext fun j => by rw [← eg123]; exact gs_in (by rw [gs_c _ _ _ _ (by decide), gs_c _ _ _ _ (by decide)])
                  have hj131 : IJ g122 := IJ_cg (hf124 126 0 (by decide) (by decide) (by decide)) (fun j => hf124 132 j (by decide) (by decide) (by decide)) (fun j => hf124 134 j (by decide) (by decide) (by decide)) (by (repeat (first | with_reducible assumption | (refine IJ_c (by decide) (by decide) (by decide) ?_) | (refine IJ_take (by omega) (by omega) ?_) | (refine IJ_how (by omega) ?_) | (refine IJ_by (by omega) ?_))))
                  refine lv_aload_n hx hb dX9_give_179 rfl (lv_at hl 1 rfl) ?_
                  refine get_X9_32 hx hb hA hown hE hG t_h0 wd_4_162 dX9_give_180 (fun b132 (t_b132 : ty Γ b132 132) => ?_)
                  refine lv_aload_n hx hb dX9_give_183 rfl (lv_at hl 1 rfl) ?_
                  refine get_X9_26 hx hb hA hown hE hG t_h0 wd_4_156 dX9_give_184 (fun x133 h134 => ?_)
                  have hk136 : g122 126 0 = g90 126 0 := hf124 126 0 (by decide) (by decide) (by decide)
                  refine ty_iconst hx hb (0) dX9_give_187 (by decide) (fun x137 h138 => ?_)
                  refine ast_mI hx hb hE hG hS hU 32 rfl (n := 200) rfl (lo := -2147483648) (hi := 2147483647) rfl rfl rfl t_b132 (rgD _) (by omega) dX9_give_188 (fun H locs hG hS => ?_)
                  refine lv_aload_n hx hb dX9_give_189 rfl (lv_at hl 1 rfl) ?_
                  refine get_X9_33 hx hb hA hown hE hG t_h0 wd_4_163 dX9_give_190 (fun b139 (t_b139 : ty Γ b139 133) => ?_)
                  refine lv_aload_n hx hb dX9_give_193 rfl (lv_at hl 1 rfl) ?_
                  refine get_X9_26 hx hb hA hown hE hG t_h0 wd_4_156 dX9_give_194 (fun x140 h141 => ?_)
                  replace h141 : x140.toInt = g122 126 0 := by rw [h141]; simp [gs]
                  refine ty_iconst hx hb (-1) dX9_give_197 (by decide) (fun x143 h144 => ?_)
                  refine ast_mI hx hb hE hG hS hU 33 rfl (n := 200) rfl (lo := -2147483648) (hi := 2147483647) rfl rfl rfl t_b139 (rgD _) (by omega) dX9_give_198 (fun H locs hG hS => ?_)
                  refine lv_aload_n hx hb dX9_give_199 rfl (lv_at hl 1 rfl) ?_
                  refine get_X9_34 hx hb hA hown hE hG t_h0 wd_4_164 dX9_give_200 (fun b145 (t_b145 : ty Γ b145 134) => ?_)
                  refine lv_aload_n hx hb dX9_give_203 rfl (lv_at hl 1 rfl) ?_
                  refine get_X9_26 hx hb hA hown hE hG t_h0 wd_4_156 dX9_give_204 (fun x146 h147 => ?_)
                  replace h147 : x146.toInt = g122 126 0 := by rw [h147]; simp [gs]
                  refine ty_iconst hx hb (-1) dX9_give_207 (by decide) (fun x149 h150 => ?_)
                  refine ast_mI hx hb hE hG hS hU 34 rfl (n := 200) rfl (lo := -1) (hi := 9) rfl rfl rfl t_b145 (by omega) (by omega) dX9_give_208 (fun H locs hG hS => ?_)
                  generalize eg152 : (gs (gs (gs g122 132 x133.toInt.toNat x137.toInt) 133 x140.toInt.toNat x143.toInt) 134 x146.toInt.toNat x149.toInt) = g151 at hG
                  have hf153 : ∀ c j : Nat, c ≠ 132 → c ≠ 133 → c ≠ 134 → g151 c j = g122 c j := fun c j h132 h133 h134 => by rw [← eg152, gs_c _ _ _ _ h134, gs_c _ _ _ _ h133, gs_c _ _ _ _ h132]
                  have v154 : g151 132 x133.toInt.toNat = x137.toInt := by rw [← eg152, gs_c _ _ _ _ (by decide), gs_c _ _ _ _ (by decide), gs_self]
                  have hw155 : g151 132 = gs g122 132 x133.toInt.toNat x137.toInt 132 := funext fun j => by rw [← eg152, gs_c _ _ _ _ (by decide), gs_c _ _ _ _ (by decide)]
                  have v156 : g151 133 x140.toInt.toNat = x143.toInt := by rw [← eg152, gs_c _ _ _ _ (by decide), gs_self]
                  have hw157 : g151 133 = gs g122 133 x140.toInt.toNat x143.toInt 133 := funext fun j => by rw [← eg152, gs_c _ _ _ _ (by decide)]; exact gs_in (by rw [gs_c _ _ _ _ (by decide)])
                  have v158 : g151 134 x146.toInt.toNat = x149.toInt := by rw [← eg152, gs_self]
                  have hw159 : g151 134 = gs g122 134 x146.toInt.toNat x149.toInt 134 := funext fun j => by rw [← eg152]; exact gs_in (by rw [gs_c _ _ _ _ (by decide), gs_c _ _ _ _ (by decide)])
                  try have hj160 : IJ g151 := by rw [← eg152]; (repeat (first | with_reducible assumption | (refine IJ_c (by decide) (by decide) (by decide) ?_) | (refine IJ_take (by omega) (by omega) ?_) | (refine IJ_how (by omega) ?_) | (refine IJ_by (by omega) ?_)))
                  refine lv_aload_n hx hb dX9_give_209 rfl (lv_at hl 1 rfl) ?_
                  refine get_X9_35 hx hb hA hown hE hG t_h0 wd_4_165 dX9_give_210 (fun b161 (t_b161 : ty Γ b161 135) => ?_)
                  refine ty_iconst hx hb (4) dX9_give_213 (by decide) (fun x162 h163 => ?_)
                  refine lv_aload_n hx hb dX9_give_214 rfl (lv_at hl 1 rfl) ?_
                  refine get_X9_26 hx hb hA hown hE hG t_h0 wd_4_156 dX9_give_215 (fun x164 h165 => ?_)
                  have hk167 : g151 126 0 = g122 126 0 := hf153 126 0 (by decide) (by decide) (by decide)
                  refine ty_imul hx hb dX9_give_218 (fun x168 h169 => ?_)
                  try have h170 : x168.toInt = 4 * x164.toInt := ty_mull h169 (by omega) (by omega) (by omega)
                  refine ty_iconst hx hb (3) dX9_give_219 (by decide) (fun x171 h172 => ?_)
                  refine ty_iadd hx hb dX9_give_220 (fun x173 h174 => ?_)
                  try have h175 : x173.toInt = x168.toInt + x171.toInt := ty_add h174 (by omega) (by omega)
                  refine ty_iconst hx hb (0) dX9_give_221 (by decide) (fun x176 h177 => ?_)
                  refine ast_mI hx hb hE hG hS hU 35 rfl (n := 840) rfl (lo := -2147483648) (hi := 2147483647) rfl rfl rfl t_b161 (rgD _) (by omega) dX9_give_222 (fun H locs hG hS => ?_)
                  refine lv_aload_n hx hb dX9_give_223 rfl (lv_at hl 1 rfl) ?_
                  refine lv_dup hx hb dX9_give_224 rfl ?_
                  refine get_X9_26 hx hb hA hown hE hG t_h0 wd_4_156 dX9_give_225 (fun x178 h179 => ?_)
                  replace h179 : x178.toInt = g151 126 0 := by rw [h179]; simp [gs]
                  refine ty_iconst hx hb (1) dX9_give_228 (by decide) (fun x181 h182 => ?_)
                  refine ty_iadd hx hb dX9_give_229 (fun x183 h184 => ?_)
                  try have h185 : x183.toInt = x178.toInt + x181.toInt := ty_add h184 (by omega) (by omega)
                  refine put_X9_26 hx hb hA hown hE hG hS hU t_h0 wd_4_156 dX9_give_230 (fun H locs hG hS => ?_)
                  refine lv_aload_n hx hb dX9_give_233 rfl (lv_at hl 1 rfl) ?_
                  refine get_X9_26 hx hb hA hown hE hG t_h0 wd_4_156 dX9_give_234 (fun x186 h187 => ?_)
                  replace h187 : x186.toInt = x183.toInt := by rw [h187]; simp [gs]
                  refine ty_iconst hx hb (1) dX9_give_237 (by decide) (fun x189 h190 => ?_)
                  refine ty_isub hx hb dX9_give_238 (fun x191 h192 => ?_)
                  try have h193 : x191.toInt = x186.toInt - x189.toInt := ty_sub h192 (by omega) (by omega)
                  have hr194 : (gs (gs g151 135 x173.toInt.toNat x176.toInt) 126 0 x183.toInt) 132 = (gs g122 132 x133.toInt.toNat x137.toInt) 132 := funext fun j => by rw [gs_c _ _ _ _ (by decide), gs_c _ _ _ _ (by decide), hw155]
                  have hA9 : g122 132 = g 132 := funext fun j => by rw [hf124 132 j (by decide) (by decide) (by decide), hf92 132 j (by decide) (by decide) (by decide)]
                  have hr195 : (gs (gs g151 135 x173.toInt.toNat x176.toInt) 126 0 x183.toInt) 134 = (gs g122 134 x146.toInt.toNat x149.toInt) 134 := funext fun j => by rw [gs_c _ _ _ _ (by decide), gs_c _ _ _ _ (by decide), hw159]
                  have hB9 : g122 134 = g 134 := funext fun j => by rw [hf124 134 j (by decide) (by decide) (by decide), hf92 134 j (by decide) (by decide) (by decide)]
                  have hC9 : (gs (gs g151 135 x173.toInt.toNat x176.toInt) 126 0 x183.toInt) 126 0 = x183.toInt := by simp [gs]
                  have hIJ9 : IJ (gs (gs g151 135 x173.toInt.toNat x176.toInt) 126 0 x183.toInt) := IJ_give (g := g) (n := (g 126 0).toNat) (by omega) (by have := hIJ.2; omega) hIJ (by omega) (fun j => by rw [hr194, show x133.toInt.toNat = (g 126 0).toNat by omega, show x137.toInt = 0 by omega]; exact gs_in (congrFun hA9 j)) (fun j hj => by rw [hr195, gs_j _ _ _ _ (by omega)]; exact congrFun hB9 j)
                  have e196 : (gs (gs g151 135 x173.toInt.toNat x176.toInt) 126 0 x183.toInt) 126 0 = x183.toInt := by simp [gs]
                  exact W.iret (v := x191) hx hb hr (fun t ht hW => ⟨⟨x191, (gs (gs g151 135 x173.toInt.toNat x176.toInt) 126 0 x183.toInt), rfl, ⟨(fun c j h100 h126 h127 h128 h129 h130 h131 h132 h133 h134 h135 => by rw [gs_c _ _ _ _ h126, gs_c _ _ _ _ h135, hf153 c j h132 h133 h134, hf124 c j h129 h130 h131, hf92 c j h100 h127 h128]), (by omega), (by first | exact hIJ9 | ((repeat (first | with_reducible assumption | (refine IJ_c (by decide) (by decide) (by decide) ?_) | (refine IJ_take (by omega) (by omega) ?_) | (refine IJ_how (by omega) ?_) | (refine IJ_by (by omega) ?_)))))⟩, ok1 ht hG⟩, hS.F ht⟩) hS.2.2 dX9_give_239
                · skip
                  refine ty_bipush hx hb (-6) dX9_give_118 (by decide) (fun x197 h198 => ?_)
                  have e199 : (gs g 100 0 x1.toInt) 126 0 = g 126 0 := by simp [gs]
                  exact W.iret (v := x197) hx hb hr (fun t ht hW => ⟨⟨x197, (gs g 100 0 x1.toInt), rfl, ⟨(fun c j h100 h126 h127 h128 h129 h130 h131 h132 h133 h134 h135 => by rw [gs_c _ _ _ _ h100]), (by omega), (by first | exact hIJ9 | ((repeat (first | with_reducible assumption | (refine IJ_c (by decide) (by decide) (by decide) ?_) | (refine IJ_take (by omega) (by omega) ?_) | (refine IJ_how (by omega) ?_) | (refine IJ_by (by omega) ?_)))))⟩, ok1 ht hG⟩, hS.F ht⟩) hS.2.2 dX9_give_120
            · skip
              refine lv_aload_n hx hb dX9_give_84 rfl (lv_at hl 1 rfl) ?_
              refine get_X9_32 hx hb hA hown hE hG t_h0 wd_4_162 dX9_give_85 (fun b200 (t_b200 : ty Γ b200 132) => ?_)
              refine lv_iload hx hb dX9_give_88 (lv_at hl 0 rfl) ?_
              refine ald_mI hx hb hE hG 32 rfl (n := 200) rfl (lo := -2147483648) (hi := 2147483647) rfl rfl t_b200 (by omega) dX9_give_90 (fun j202 x201 h203 h204 h205 => ?_)
              clear h205
              refine ty_iconst hx hb (4) dX9_give_91 (by decide) (fun x206 h207 => ?_)
              refine ty_icmp_eq (tgt := 98) hx hb dX9_give_92 (by decide) (fun c208 => ?_) (fun c208 => ?_)
              · skip
                refine lv_aload_n hx hb dX9_give_98 rfl (lv_at hl 1 rfl) ?_
                refine ty_iconst hx hb (0) dX9_give_99 (by decide) (fun x209 h210 => ?_)
                have e211 : (gs g 100 0 x1.toInt) 126 0 = g 126 0 := by simp [gs]
                have e212 : (gs g 100 0 x1.toInt) 126 0 = g 126 0 := by simp [gs]
                refine cI (va_runV (C := RX9) (As := [.int x209]) (rest := []) ⟨hx, hb, hml, hown, hA⟩ (k_X9_many l dC dI dA sz X Γ hU (gs g 100 0 x1.toInt) h0 t_h0 x209   (by omega)) ⟨callB_of 1 hA (al_A wd_5_128) rfl rfl rfl (hA _ wd_1_7) (hA _ wd_5_125) (by decide +kernel) ⟨Nat.le_of_ble_eq_true rfl, Nat.le_of_ble_eq_true rfl⟩, hA _ wd_5_127, hA _ ws_46⟩ ⟨bl, recv_X9 hE hG t_h0, fun U hU9 hW9 => ⟨rfl, by rw [hU9]; exact hG, hE.go hS hU9 hW9⟩⟩ rfl rfl hl.1 rfl (lv_room (Nat.le_of_ble_eq_true rfl)) dX9_give_100 ⟨Nat.zero_le _, Nat.zero_le _⟩) hS (fun x215 u213 H locs w214 hG hS => ?_)
                obtain ⟨eu216, w214⟩ := w214
                rw [eu216] at hG
                try have hm9 : x215.toInt = (cnt (g 126 0).toNat (g 132) 0 : Int) := by have e9 := cnt_eq (u := (gs g 100 0 x1.toInt)) (g := g) (v := 0) (by simp [gs]) (fun j => by simp [gs]); rw [show x209.toInt = 0 by omega] at w214; omega
                refine ty_bipush hx hb (9) dX9_give_103 (by decide) (fun x217 h218 => ?_)
                refine ty_icmp_eq (tgt := 118) hx hb dX9_give_105 (by decide) (fun c219 => ?_) (fun c219 => ?_)
                · skip
                  refine ty_bipush hx hb (-6) dX9_give_118 (by decide) (fun x220 h221 => ?_)
                  have e222 : (gs g 100 0 x1.toInt) 126 0 = g 126 0 := by simp [gs]
                  exact W.iret (v := x220) hx hb hr (fun t ht hW => ⟨⟨x220, (gs g 100 0 x1.toInt), rfl, ⟨(fun c j h100 h126 h127 h128 h129 h130 h131 h132 h133 h134 h135 => by rw [gs_c _ _ _ _ h100]), (by omega), (by first | exact hIJ9 | ((repeat (first | with_reducible assumption | (refine IJ_c (by decide) (by decide) (by decide) ?_) | (refine IJ_take (by omega) (by omega) ?_) | (refine IJ_how (by omega) ?_) | (refine IJ_by (by omega) ?_)))))⟩, ok1 ht hG⟩, hS.F ht⟩) hS.2.2 dX9_give_120
                · skip
                  refine lv_aload_n hx hb dX9_give_108 rfl (lv_at hl 1 rfl) ?_
                  refine get_X9_26 hx hb hA hown hE hG t_h0 wd_4_156 dX9_give_109 (fun x223 h224 => ?_)
                  replace h224 : x223.toInt = g 126 0 := by rw [h224]; simp [gs]
                  refine ty_sipush hx hb (200) dX9_give_112 (by decide) (fun x226 h227 => ?_)
                  refine ty_icmp_ne (tgt := 121) hx hb dX9_give_115 (by decide) (fun c228 => ?_) (fun c228 => ?_)
                  · skip
                    refine lv_aload_n hx hb dX9_give_121 rfl (lv_at hl 1 rfl) ?_
                    refine get_X9_27 hx hb hA hown hE hG t_h0 wd_4_157 dX9_give_122 (fun b229 (t_b229 : ty Γ b229 127) => ?_)
                    refine lv_aload_n hx hb dX9_give_125 rfl (lv_at hl 1 rfl) ?_
                    refine get_X9_26 hx hb hA hown hE hG t_h0 wd_4_156 dX9_give_126 (fun x230 h231 => ?_)
                    replace h231 : x230.toInt = g 126 0 := by rw [h231]; simp [gs]
                    refine lv_iload_n hx hb dX9_give_129 rfl (lv_at hl 2 rfl) ?_
                    refine ast_mI hx hb hE hG hS hU 27 rfl (n := 200) rfl (lo := 0) (hi := 9) rfl rfl rfl t_b229 (by omega) (by omega) dX9_give_130 (fun H locs hG hS => ?_)
                    refine lv_aload_n hx hb dX9_give_131 rfl (lv_at hl 1 rfl) ?_
                    refine get_X9_28 hx hb hA hown hE hG t_h0 wd_4_158 dX9_give_132 (fun b233 (t_b233 : ty Γ b233 128) => ?_)
                    refine lv_aload_n hx hb dX9_give_135 rfl (lv_at hl 1 rfl) ?_
                    refine get_X9_26 hx hb hA hown hE hG t_h0 wd_4_156 dX9_give_136 (fun x234 h235 => ?_)
                    replace h235 : x234.toInt = g 126 0 := by rw [h235]; simp [gs]
                    refine lv_iload_n hx hb dX9_give_139 rfl (lv_at hl 3 rfl) ?_
                    refine ast_mI hx hb hE hG hS hU 28 rfl (n := 200) rfl (lo := 0) (hi := 5) rfl rfl rfl t_b233 (by omega) (by omega) dX9_give_140 (fun H locs hG hS => ?_)
                    generalize eg238 : (gs (gs (gs g 100 0 x1.toInt) 127 x230.toInt.toNat p1.toInt) 128 x234.toInt.toNat p2.toInt) = g237 at hG
                    have hf239 : ∀ c j : Nat, c ≠ 100 → c ≠ 127 → c ≠ 128 → g237 c j = g c j := fun c j h100 h127 h128 => by rw [← eg238, gs_c _ _ _ _ h128, gs_c _ _ _ _ h127, gs_c _ _ _ _ h100]
                    have v240 : g237 100 0 = x1.toInt := by rw [← eg238, gs_c _ _ _ _ (by decide), gs_c _ _ _ _ (by decide), gs_self]
                    have v241 : g237 127 x230.toInt.toNat = p1.toInt := by rw [← eg238, gs_c _ _ _ _ (by decide), gs_self]
                    have hw242 : g237 127 = gs g 127 x230.toInt.toNat p1.toInt 127 := funext fun j => by rw [← eg238, gs_c _ _ _ _ (by decide)]; exact gs_in (by rw [gs_c _ _ _ _ (by decide)])
                    have v243 : g237 128 x234.toInt.toNat = p2.toInt := by rw [← eg238, gs_self]
                    have hw244 : g237 128 = gs g 128 x234.toInt.toNat p2.toInt 128 := funext fun j => by rw [← eg238]; exact gs_in (by rw [gs_c _ _ _ _ (by decide), gs_c _ _ _ _ (by decide)])
                    have hj245 : IJ g237 := IJ_cg (hf239 126 0 (by decide) (by decide) (by decide)) (fun j => hf239 132 j (by decide) (by decide) (by decide)) (fun j => hf239 134 j (by decide) (by decide) (by decide)) (by (repeat (first | with_reducible assumption | (refine IJ_c (by decide) (by decide) (by decide) ?_) | (refine IJ_take (by omega) (by omega) ?_) | (refine IJ_how (by omega) ?_) | (refine IJ_by (by omega) ?_))))
                    refine lv_aload_n hx hb dX9_give_141 rfl (lv_at hl 1 rfl) ?_
                    refine get_X9_29 hx hb hA hown hE hG t_h0 wd_4_159 dX9_give_142 (fun b246 (t_b246 : ty Γ b246 129) => ?_)
                    refine lv_aload_n hx hb dX9_give_145 rfl (lv_at hl 1 rfl) ?_
                    refine get_X9_26 hx hb hA hown hE hG t_h0 wd_4_156 dX9_give_146 (fun x247 h248 => ?_)
                    have hk250 : g237 126 0 = g 126 0 := hf239 126 0 (by decide) (by decide) (by decide)
                    refine lv_iload_n hx hb dX9_give_149 rfl (lv_at hl 4 rfl) ?_
                    refine ast_mI hx hb hE hG hS hU 29 rfl (n := 200) rfl (lo := -2147483648) (hi := 2147483647) rfl rfl rfl t_b246 (rgD _) (by omega) dX9_give_150 (fun H locs hG hS => ?_)
                    refine lv_aload_n hx hb dX9_give_151 rfl (lv_at hl 1 rfl) ?_
                    refine get_X9_30 hx hb hA hown hE hG t_h0 wd_4_160 dX9_give_152 (fun b251 (t_b251 : ty Γ b251 130) => ?_)
                    refine lv_aload_n hx hb dX9_give_155 rfl (lv_at hl 1 rfl) ?_
                    refine get_X9_26 hx hb hA hown hE hG t_h0 wd_4_156 dX9_give_156 (fun x252 h253 => ?_)
                    replace h253 : x252.toInt = g237 126 0 := by rw [h253]; simp [gs]
                    refine lv_aload_n hx hb dX9_give_159 rfl (lv_at hl 1 rfl) ?_
                    refine get_X9_11 hx hb hA hown hE hG t_h0 wd_4_141 dX9_give_160 (fun x255 h256 => ?_)
                    replace h256 : x255.toInt = g237 111 0 := by rw [h256]; simp [gs]
                    have hk258 : g237 111 0 = g 111 0 := hf239 111 0 (by decide) (by decide) (by decide)
                    refine ast_mI hx hb hE hG hS hU 30 rfl (n := 200) rfl (lo := -2147483648) (hi := 2147483647) rfl rfl rfl t_b251 (rgD _) (by omega) dX9_give_163 (fun H locs hG hS => ?_)
                    refine lv_aload_n hx hb dX9_give_164 rfl (lv_at hl 1 rfl) ?_
                    refine get_X9_31 hx hb hA hown hE hG t_h0 wd_4_161 dX9_give_165 (fun b259 (t_b259 : ty Γ b259 131) => ?_)
                    refine lv_aload_n hx hb dX9_give_168 rfl (lv_at hl 1 rfl) ?_
                    refine get_X9_26 hx hb hA hown hE hG t_h0 wd_4_156 dX9_give_169 (fun x260 h261 => ?_)
                    replace h261 : x260.toInt = g237 126 0 := by rw [h261]; simp [gs]
                    refine lv_aload_n hx hb dX9_give_172 rfl (lv_at hl 1 rfl) ?_
                    refine lv_iload_n hx hb dX9_give_173 rfl (lv_at hl 3 rfl) ?_
                    refine lv_iload_n hx hb dX9_give_174 rfl (lv_at hl 4 rfl) ?_
                    have hk263 : g237 122 0 = g 122 0 := hf239 122 0 (by decide) (by decide) (by decide)
                    have e264 : (gs (gs g237 129 x247.toInt.toNat p3.toInt) 130 x252.toInt.toNat x255.toInt) 122 0 = g237 122 0 := by simp [gs]
                    refine cI (va_runV (C := RX9) (As := [.int p2, .int p3]) (rest := [.int x260, .ref b259]) ⟨hx, hb, hml, hown, hA⟩ (k_X9_worthOf l dC dI dA sz X Γ hU (gs (gs g237 129 x247.toInt.toNat p3.toInt) 130 x252.toInt.toNat x255.toInt) h0 t_h0 p2 p3   (by omega) (by omega)) ⟨callB_of 2 hA (al_A wd_5_120) rfl rfl rfl (hA _ wd_1_7) (hA _ wd_5_117) (by decide +kernel) ⟨Nat.le_of_ble_eq_true rfl, Nat.le_of_ble_eq_true rfl⟩, hA _ wd_5_119, hA _ ws_45⟩ ⟨bl, recv_X9 hE hG t_h0, fun U hU9 hW9 => ⟨rfl, by rw [hU9]; exact hG, hE.go hS hU9 hW9⟩⟩ rfl rfl hl.1 rfl (lv_room (Nat.le_of_ble_eq_true rfl)) dX9_give_175 ⟨Nat.zero_le _, Nat.zero_le _⟩) hS (fun x267 u265 H locs w266 hG hS => ?_)
                    have eu268 := w266
                    rw [eu268] at hG
                    refine ast_mI hx hb hE hG hS hU 31 rfl (n := 200) rfl (lo := -2147483648) (hi := 2147483647) rfl rfl rfl t_b259 (rgD _) (by omega) dX9_give_178 (fun H locs hG hS => ?_)
                    generalize eg270 : (gs (gs (gs g237 129 x247.toInt.toNat p3.toInt) 130 x252.toInt.toNat x255.toInt) 131 x260.toInt.toNat x267.toInt) = g269 at hG
                    have hf271 : ∀ c j : Nat, c ≠ 129 → c ≠ 130 → c ≠ 131 → g269 c j = g237 c j := fun c j h129 h130 h131 => by rw [← eg270, gs_c _ _ _ _ h131, gs_c _ _ _ _ h130, gs_c _ _ _ _ h129]
                    have v272 : g269 129 x247.toInt.toNat = p3.toInt := by rw [← eg270, gs_c _ _ _ _ (by decide), gs_c _ _ _ _ (by decide), gs_self]
                    have hw273 : g269 129 = gs g237 129 x247.toInt.toNat p3.toInt 129 := funext fun j => by rw [← eg270, gs_c _ _ _ _ (by decide), gs_c _ _ _ _ (by decide)]
                    have v274 : g269 130 x252.toInt.toNat = x255.toInt := by rw [← eg270, gs_c _ _ _ _ (by decide), gs_self]
                    have hw275 : g269 130 = gs g237 130 x252.toInt.toNat x255.toInt 130 := funext fun j => by rw [← eg270, gs_c _ _ _ _ (by decide)]; exact gs_in (by rw [gs_c _ _ _ _ (by decide)])
                    have v276 : g269 131 x260.toInt.toNat = x267.toInt := by rw [← eg270, gs_self]
                    have hw277 : g269 131 = gs g237 131 x260.toInt.toNat x267.toInt 131 := funext fun j => by rw [← eg270]; exact gs_in (by rw [gs_c _ _ _ _ (by decide), gs_c _ _ _ _ (by decide)])
                    have hj278 : IJ g269 := IJ_cg (hf271 126 0 (by decide) (by decide) (by decide)) (fun j => hf271 132 j (by decide) (by decide) (by decide)) (fun j => hf271 134 j (by decide) (by decide) (by decide)) (by (repeat (first | with_reducible assumption | (refine IJ_c (by decide) (by decide) (by decide) ?_) | (refine IJ_take (by omega) (by omega) ?_) | (refine IJ_how (by omega) ?_) | (refine IJ_by (by omega) ?_))))
                    refine lv_aload_n hx hb dX9_give_179 rfl (lv_at hl 1 rfl) ?_
                    refine get_X9_32 hx hb hA hown hE hG t_h0 wd_4_162 dX9_give_180 (fun b279 (t_b279 : ty Γ b279 132) => ?_)
                    refine lv_aload_n hx hb dX9_give_183 rfl (lv_at hl 1 rfl) ?_
                    refine get_X9_26 hx hb hA hown hE hG t_h0 wd_4_156 dX9_give_184 (fun x280 h281 => ?_)
                    have hk283 : g269 126 0 = g237 126 0 := hf271 126 0 (by decide) (by decide) (by decide)
                    refine ty_iconst hx hb (0) dX9_give_187 (by decide) (fun x284 h285 => ?_)
                    refine ast_mI hx hb hE hG hS hU 32 rfl (n := 200) rfl (lo := -2147483648) (hi := 2147483647) rfl rfl rfl t_b279 (rgD _) (by omega) dX9_give_188 (fun H locs hG hS => ?_)
                    refine lv_aload_n hx hb dX9_give_189 rfl (lv_at hl 1 rfl) ?_
                    refine get_X9_33 hx hb hA hown hE hG t_h0 wd_4_163 dX9_give_190 (fun b286 (t_b286 : ty Γ b286 133) => ?_)
                    refine lv_aload_n hx hb dX9_give_193 rfl (lv_at hl 1 rfl) ?_
                    refine get_X9_26 hx hb hA hown hE hG t_h0 wd_4_156 dX9_give_194 (fun x287 h288 => ?_)
                    replace h288 : x287.toInt = g269 126 0 := by rw [h288]; simp [gs]
                    refine ty_iconst hx hb (-1) dX9_give_197 (by decide) (fun x290 h291 => ?_)
                    refine ast_mI hx hb hE hG hS hU 33 rfl (n := 200) rfl (lo := -2147483648) (hi := 2147483647) rfl rfl rfl t_b286 (rgD _) (by omega) dX9_give_198 (fun H locs hG hS => ?_)
                    refine lv_aload_n hx hb dX9_give_199 rfl (lv_at hl 1 rfl) ?_
                    refine get_X9_34 hx hb hA hown hE hG t_h0 wd_4_164 dX9_give_200 (fun b292 (t_b292 : ty Γ b292 134) => ?_)
                    refine lv_aload_n hx hb dX9_give_203 rfl (lv_at hl 1 rfl) ?_
                    refine get_X9_26 hx hb hA hown hE hG t_h0 wd_4_156 dX9_give_204 (fun x293 h294 => ?_)
                    replace h294 : x293.toInt = g269 126 0 := by rw [h294]; simp [gs]
                    refine ty_iconst hx hb (-1) dX9_give_207 (by decide) (fun x296 h297 => ?_)
                    refine ast_mI hx hb hE hG hS hU 34 rfl (n := 200) rfl (lo := -1) (hi := 9) rfl rfl rfl t_b292 (by omega) (by omega) dX9_give_208 (fun H locs hG hS => ?_)
                    generalize eg299 : (gs (gs (gs g269 132 x280.toInt.toNat x284.toInt) 133 x287.toInt.toNat x290.toInt) 134 x293.toInt.toNat x296.toInt) = g298 at hG
                    have hf300 : ∀ c j : Nat, c ≠ 132 → c ≠ 133 → c ≠ 134 → g298 c j = g269 c j := fun c j h132 h133 h134 => by rw [← eg299, gs_c _ _ _ _ h134, gs_c _ _ _ _ h133, gs_c _ _ _ _ h132]
                    have v301 : g298 132 x280.toInt.toNat = x284.toInt := by rw [← eg299, gs_c _ _ _ _ (by decide), gs_c _ _ _ _ (by decide), gs_self]
                    have hw302 : g298 132 = gs g269 132 x280.toInt.toNat x284.toInt 132 := funext fun j => by rw [← eg299, gs_c _ _ _ _ (by decide), gs_c _ _ _ _ (by decide)]
                    have v303 : g298 133 x287.toInt.toNat = x290.toInt := by rw [← eg299, gs_c _ _ _ _ (by decide), gs_self]
                    have hw304 : g298 133 = gs g269 133 x287.toInt.toNat x290.toInt 133 := funext fun j => by rw [← eg299, gs_c _ _ _ _ (by decide)]; exact gs_in (by rw [gs_c _ _ _ _ (by decide)])
                    have v305 : g298 134 x293.toInt.toNat = x296.toInt := by rw [← eg299, gs_self]
                    have hw306 : g298 134 = gs g269 134 x293.toInt.toNat x296.toInt 134 := funext fun j => by rw [← eg299]; exact gs_in (by rw [gs_c _ _ _ _ (by decide), gs_c _ _ _ _ (by decide)])
                    try have hj307 : IJ g298 := by rw [← eg299]; (repeat (first | with_reducible assumption | (refine IJ_c (by decide) (by decide) (by decide) ?_) | (refine IJ_take (by omega) (by omega) ?_) | (refine IJ_how (by omega) ?_) | (refine IJ_by (by omega) ?_)))
                    refine lv_aload_n hx hb dX9_give_209 rfl (lv_at hl 1 rfl) ?_
                    refine get_X9_35 hx hb hA hown hE hG t_h0 wd_4_165 dX9_give_210 (fun b308 (t_b308 : ty Γ b308 135) => ?_)
                    refine ty_iconst hx hb (4) dX9_give_213 (by decide) (fun x309 h310 => ?_)
                    refine lv_aload_n hx hb dX9_give_214 rfl (lv_at hl 1 rfl) ?_
                    refine get_X9_26 hx hb hA hown hE hG t_h0 wd_4_156 dX9_give_215 (fun x311 h312 => ?_)
                    have hk314 : g298 126 0 = g269 126 0 := hf300 126 0 (by decide) (by decide) (by decide)
                    refine ty_imul hx hb dX9_give_218 (fun x315 h316 => ?_)
                    try have h317 : x315.toInt = 4 * x311.toInt := ty_mull h316 (by omega) (by omega) (by omega)
                    refine ty_iconst hx hb (3) dX9_give_219 (by decide) (fun x318 h319 => ?_)
                    refine ty_iadd hx hb dX9_give_220 (fun x320 h321 => ?_)
                    try have h322 : x320.toInt = x315.toInt + x318.toInt := ty_add h321 (by omega) (by omega)
                    refine ty_iconst hx hb (0) dX9_give_221 (by decide) (fun x323 h324 => ?_)
                    refine ast_mI hx hb hE hG hS hU 35 rfl (n := 840) rfl (lo := -2147483648) (hi := 2147483647) rfl rfl rfl t_b308 (rgD _) (by omega) dX9_give_222 (fun H locs hG hS => ?_)
                    refine lv_aload_n hx hb dX9_give_223 rfl (lv_at hl 1 rfl) ?_
                    refine lv_dup hx hb dX9_give_224 rfl ?_
                    refine get_X9_26 hx hb hA hown hE hG t_h0 wd_4_156 dX9_give_225 (fun x325 h326 => ?_)
                    replace h326 : x325.toInt = g298 126 0 := by rw [h326]; simp [gs]
                    refine ty_iconst hx hb (1) dX9_give_228 (by decide) (fun x328 h329 => ?_)
                    refine ty_iadd hx hb dX9_give_229 (fun x330 h331 => ?_)
                    try have h332 : x330.toInt = x325.toInt + x328.toInt := ty_add h331 (by omega) (by omega)
                    refine put_X9_26 hx hb hA hown hE hG hS hU t_h0 wd_4_156 dX9_give_230 (fun H locs hG hS => ?_)
                    refine lv_aload_n hx hb dX9_give_233 rfl (lv_at hl 1 rfl) ?_
                    refine get_X9_26 hx hb hA hown hE hG t_h0 wd_4_156 dX9_give_234 (fun x333 h334 => ?_)
                    replace h334 : x333.toInt = x330.toInt := by rw [h334]; simp [gs]
                    refine ty_iconst hx hb (1) dX9_give_237 (by decide) (fun x336 h337 => ?_)
                    refine ty_isub hx hb dX9_give_238 (fun x338 h339 => ?_)
                    try have h340 : x338.toInt = x333.toInt - x336.toInt := ty_sub h339 (by omega) (by omega)
                    have hr341 : (gs (gs g298 135 x320.toInt.toNat x323.toInt) 126 0 x330.toInt) 132 = (gs g269 132 x280.toInt.toNat x284.toInt) 132 := funext fun j => by rw [gs_c _ _ _ _ (by decide), gs_c _ _ _ _ (by decide), hw302]
                    have hA9 : g269 132 = g 132 := funext fun j => by rw [hf271 132 j (by decide) (by decide) (by decide), hf239 132 j (by decide) (by decide) (by decide)]
                    have hr342 : (gs (gs g298 135 x320.toInt.toNat x323.toInt) 126 0 x330.toInt) 134 = (gs g269 134 x293.toInt.toNat x296.toInt) 134 := funext fun j => by rw [gs_c _ _ _ _ (by decide), gs_c _ _ _ _ (by decide), hw306]
                    have hB9 : g269 134 = g 134 := funext fun j => by rw [hf271 134 j (by decide) (by decide) (by decide), hf239 134 j (by decide) (by decide) (by decide)]
                    have hC9 : (gs (gs g298 135 x320.toInt.toNat x323.toInt) 126 0 x330.toInt) 126 0 = x330.toInt := by simp [gs]
                    have hIJ9 : IJ (gs (gs g298 135 x320.toInt.toNat x323.toInt) 126 0 x330.toInt) := IJ_give (g := g) (n := (g 126 0).toNat) (by omega) (by have := hIJ.2; omega) hIJ (by omega) (fun j => by rw [hr341, show x280.toInt.toNat = (g 126 0).toNat by omega, show x284.toInt = 0 by omega]; exact gs_in (congrFun hA9 j)) (fun j hj => by rw [hr342, gs_j _ _ _ _ (by omega)]; exact congrFun hB9 j)
                    have e343 : (gs (gs g298 135 x320.toInt.toNat x323.toInt) 126 0 x330.toInt) 126 0 = x330.toInt := by simp [gs]
                    exact W.iret (v := x338) hx hb hr (fun t ht hW => ⟨⟨x338, (gs (gs g298 135 x320.toInt.toNat x323.toInt) 126 0 x330.toInt), rfl, ⟨(fun c j h100 h126 h127 h128 h129 h130 h131 h132 h133 h134 h135 => by rw [gs_c _ _ _ _ h126, gs_c _ _ _ _ h135, hf300 c j h132 h133 h134, hf271 c j h129 h130 h131, hf239 c j h100 h127 h128]), (by omega), (by first | exact hIJ9 | ((repeat (first | with_reducible assumption | (refine IJ_c (by decide) (by decide) (by decide) ?_) | (refine IJ_take (by omega) (by omega) ?_) | (refine IJ_how (by omega) ?_) | (refine IJ_by (by omega) ?_)))))⟩, ok1 ht hG⟩, hS.F ht⟩) hS.2.2 dX9_give_239
                  · skip
                    refine ty_bipush hx hb (-6) dX9_give_118 (by decide) (fun x344 h345 => ?_)
                    have e346 : (gs g 100 0 x1.toInt) 126 0 = g 126 0 := by simp [gs]
                    exact W.iret (v := x344) hx hb hr (fun t ht hW => ⟨⟨x344, (gs g 100 0 x1.toInt), rfl, ⟨(fun c j h100 h126 h127 h128 h129 h130 h131 h132 h133 h134 h135 => by rw [gs_c _ _ _ _ h100]), (by omega), (by first | exact hIJ9 | ((repeat (first | with_reducible assumption | (refine IJ_c (by decide) (by decide) (by decide) ?_) | (refine IJ_take (by omega) (by omega) ?_) | (refine IJ_how (by omega) ?_) | (refine IJ_by (by omega) ?_)))))⟩, ok1 ht hG⟩, hS.F ht⟩) hS.2.2 dX9_give_120
              · skip
                refine ty_bipush hx hb (-5) dX9_give_95 (by decide) (fun x347 h348 => ?_)
                have e349 : (gs g 100 0 x1.toInt) 126 0 = g 126 0 := by simp [gs]
                exact W.iret (v := x347) hx hb hr (fun t ht hW => ⟨⟨x347, (gs g 100 0 x1.toInt), rfl, ⟨(fun c j h100 h126 h127 h128 h129 h130 h131 h132 h133 h134 h135 => by rw [gs_c _ _ _ _ h100]), (by omega), (by first | exact hIJ9 | ((repeat (first | with_reducible assumption | (refine IJ_c (by decide) (by decide) (by decide) ?_) | (refine IJ_take (by omega) (by omega) ?_) | (refine IJ_how (by omega) ?_) | (refine IJ_by (by omega) ?_)))))⟩, ok1 ht hG⟩, hS.F ht⟩) hS.2.2 dX9_give_97
          · skip
            refine ty_bipush hx hb (-4) dX9_give_67 (by decide) (fun x350 h351 => ?_)
            have e352 : (gs g 100 0 x1.toInt) 126 0 = g 126 0 := by simp [gs]
            exact W.iret (v := x350) hx hb hr (fun t ht hW => ⟨⟨x350, (gs g 100 0 x1.toInt), rfl, ⟨(fun c j h100 h126 h127 h128 h129 h130 h131 h132 h133 h134 h135 => by rw [gs_c _ _ _ _ h100]), (by omega), (by first | exact hIJ9 | ((repeat (first | with_reducible assumption | (refine IJ_c (by decide) (by decide) (by decide) ?_) | (refine IJ_take (by omega) (by omega) ?_) | (refine IJ_how (by omega) ?_) | (refine IJ_by (by omega) ?_)))))⟩, ok1 ht hG⟩, hS.F ht⟩) hS.2.2 dX9_give_69
        · skip
          refine ty_bipush hx hb (-3) dX9_give_50 (by decide) (fun x353 h354 => ?_)
          have e355 : (gs g 100 0 x1.toInt) 126 0 = g 126 0 := by simp [gs]
          exact W.iret (v := x353) hx hb hr (fun t ht hW => ⟨⟨x353, (gs g 100 0 x1.toInt), rfl, ⟨(fun c j h100 h126 h127 h128 h129 h130 h131 h132 h133 h134 h135 => by rw [gs_c _ _ _ _ h100]), (by omega), (by first | exact hIJ9 | ((repeat (first | with_reducible assumption | (refine IJ_c (by decide) (by decide) (by decide) ?_) | (refine IJ_take (by omega) (by omega) ?_) | (refine IJ_how (by omega) ?_) | (refine IJ_by (by omega) ?_)))))⟩, ok1 ht hG⟩, hS.F ht⟩) hS.2.2 dX9_give_52
      · skip
        refine ty_bipush hx hb (-2) dX9_give_39 (by decide) (fun x356 h357 => ?_)
        have e358 : (gs g 100 0 x1.toInt) 126 0 = g 126 0 := by simp [gs]
        exact W.iret (v := x356) hx hb hr (fun t ht hW => ⟨⟨x356, (gs g 100 0 x1.toInt), rfl, ⟨(fun c j h100 h126 h127 h128 h129 h130 h131 h132 h133 h134 h135 => by rw [gs_c _ _ _ _ h100]), (by omega), (by first | exact hIJ9 | ((repeat (first | with_reducible assumption | (refine IJ_c (by decide) (by decide) (by decide) ?_) | (refine IJ_take (by omega) (by omega) ?_) | (refine IJ_how (by omega) ?_) | (refine IJ_by (by omega) ?_)))))⟩, ok1 ht hG⟩, hS.F ht⟩) hS.2.2 dX9_give_41
    · skip
      refine ty_iconst hx hb (-1) dX9_give_22 (by decide) (fun x359 h360 => ?_)
      have e361 : (gs g 100 0 x1.toInt) 126 0 = g 126 0 := by simp [gs]
      exact W.iret (v := x359) hx hb hr (fun t ht hW => ⟨⟨x359, (gs g 100 0 x1.toInt), rfl, ⟨(fun c j h100 h126 h127 h128 h129 h130 h131 h132 h133 h134 h135 => by rw [gs_c _ _ _ _ h100]), (by omega), (by first | exact hIJ9 | ((repeat (first | with_reducible assumption | (refine IJ_c (by decide) (by decide) (by decide) ?_) | (refine IJ_take (by omega) (by omega) ?_) | (refine IJ_how (by omega) ?_) | (refine IJ_by (by omega) ?_)))))⟩, ok1 ht hG⟩, hS.F ht⟩) hS.2.2 dX9_give_23
