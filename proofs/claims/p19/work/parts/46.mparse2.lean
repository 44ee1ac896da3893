set_option maxHeartbeats 4000000 in
set_option maxRecDepth 100000 in
/-- WeekBankModel.readStatement:  -/
theorem k_X9_readStatement (l : Launch) (dC : Nat → ClassId) (dI : Nat → Nat → Nat) (dA : Nat → ClassId) (sz : Nat) (X : va_W) (Γ : ty_G) (hU : Un Γ) (g : gh) (h0 : Nat) (t_h0 : ty Γ h0 30) (hp : 0 ≤ g 116 0 ∧ g 116 0 ≤ g 115 0 ∧ g 115 0 ≤ g 114 0 ∧ g 114 0 ≤ 300) (hf : g 119 0 = 0 ∧ 0 ≤ g 124 0 ∧ g 124 0 ≤ 30) : Met l yX9_readStatement (.code yX9_readStatement cX9_readStatement 3 (Option.none : Option Jvm.ClassFile.FieldType) :: AL) ({ frames := 5, cells := 0, slots := 0, locals := 107 }) (PCx dC dI dA sz X Γ g [.ref h0]) (va_Qv (fun (u : gh) => (∀ c j : Nat, c ≠ 115 → c ≠ 116 → c ≠ 117 → c ≠ 118 → c ≠ 119 → c ≠ 120 → c ≠ 124 → c ≠ 125 → u c j = g c j) ∧ ((0 ≤ u 116 0 ∧ u 116 0 ≤ u 115 0 ∧ u 115 0 ≤ g 114 0) ∧ (0 ≤ u 119 0 ∧ u 119 0 ≤ 3) ∧ (g 124 0 ≤ u 124 0 ∧ u 124 0 ≤ 30) ∧ (u 119 0 = 0 → u 124 0 = g 124 0 + 1))) (okb dC dI dA sz X Γ) (ty_A sz)) 0 0 (ty_A sz) := by
  refine Met.ofW (cc := cX9_readStatement) (maxL := 3) (ret := (Option.none : Option Jvm.ClassFile.FieldType)) (by decide) rfl ?_
  intro p e s m args below meth c s₁ B hml hv
  obtain ⟨rfl, hG, hE⟩ := hv
  have hx := B.exec
  have hb := B.bytes
  have hr := B.returns
  have hts := atoms_spec B.pre
  have hA : ∀ w ∈ AL, w.before _ s = true := fun w h => hts w (List.mem_cons_of_mem _ h)
  have hown : s.vm.findClass RX9 = some m.cls := findClass_of_methodNamed B.named
  have hlocks := B.notSynchronized
  have hS : va_S (ty_A sz) s.heap s.heap [] := va_S.rf
  have hES := hE.2.1.2.2.2.2.2.2
  have hl := lv_entry ([.ref h0]) (n := 3) (Nat.le_of_ble_eq_true rfl)
  rw [lg_entry_eq]
  generalize (lg_sl ([.ref h0]) ++ List.replicate (3 - (lg_sl ([.ref h0])).length) Slot.unset).toArray = ls at hl ⊢
  have hl : lv_has ls 3 [(0, .ref h0)] := hl
  refine lv_aload_n hx hb dX9_readStatement_0 rfl (lv_at hl 0 rfl) ?_
  refine va_ldcS hx hb hown (hES.1 6 (by decide)).1 dX9_readStatement_1 ?_
  refine cI (va_runV (C := RX9) (As := [.ref (dI 100 6)]) (rest := []) ⟨hx, hb, hml, hown, hA⟩ (k_X9_isWord l dC dI dA sz X Γ hU g h0 t_h0 6 (by decide)   (by omega)) ⟨callB_of 1 hA (al_A wd_5_93) rfl rfl rfl (hA _ wd_1_7) (hA _ wd_5_90) (by decide +kernel) ⟨Nat.le_of_ble_eq_true rfl, Nat.le_of_ble_eq_true rfl⟩, hA _ wd_5_92, hA _ ws_42⟩ ⟨bl, recv_X9 hE hG t_h0, fun U hU9 hW9 => ⟨rfl, by rw [hU9]; exact hG, hE.go hS hU9 hW9⟩⟩ rfl rfl hl.1 rfl (lv_room (Nat.le_of_ble_eq_true rfl)) dX9_readStatement_3 ⟨Nat.zero_le _, Nat.zero_le _⟩) hS (fun x3 u1 H locs w2 hG hS => ?_)
  obtain ⟨eu4, w2⟩ := w2
  rw [eu4] at hG
  refine ty_if_eq (tgt := 13) hx hb dX9_readStatement_6 (by decide) (fun c5 => ?_) (fun c5 => ?_)
  · skip
    refine lv_aload_n hx hb dX9_readStatement_13 rfl (lv_at hl 0 rfl) ?_
    refine va_ldcS hx hb hown (hES.1 7 (by decide)).1 dX9_readStatement_14 ?_
    refine cI (va_runV (C := RX9) (As := [.ref (dI 100 7)]) (rest := []) ⟨hx, hb, hml, hown, hA⟩ (k_X9_isWord l dC dI dA sz X Γ hU g h0 t_h0 7 (by decide)   (by omega)) ⟨callB_of 1 hA (al_A wd_5_93) rfl rfl rfl (hA _ wd_1_7) (hA _ wd_5_90) (by decide +kernel) ⟨Nat.le_of_ble_eq_true rfl, Nat.le_of_ble_eq_true rfl⟩, hA _ wd_5_92, hA _ ws_42⟩ ⟨bl, recv_X9 hE hG t_h0, fun U hU9 hW9 => ⟨rfl, by rw [hU9]; exact hG, hE.go hS hU9 hW9⟩⟩ rfl rfl hl.1 rfl (lv_room (Nat.le_of_ble_eq_true rfl)) dX9_readStatement_16 ⟨Nat.zero_le _, Nat.zero_le _⟩) hS (fun x8 u6 H locs w7 hG hS => ?_)
    obtain ⟨eu9, w7⟩ := w7
    rw [eu9] at hG
    refine ty_if_eq (tgt := 26) hx hb dX9_readStatement_19 (by decide) (fun c10 => ?_) (fun c10 => ?_)
    · skip
      refine lv_aload_n hx hb dX9_readStatement_26 rfl (lv_at hl 0 rfl) ?_
      refine va_ldcS hx hb hown (hES.1 8 (by decide)).1 dX9_readStatement_27 ?_
      refine cI (va_runV (C := RX9) (As := [.ref (dI 100 8)]) (rest := []) ⟨hx, hb, hml, hown, hA⟩ (k_X9_isWord l dC dI dA sz X Γ hU g h0 t_h0 8 (by decide)   (by omega)) ⟨callB_of 1 hA (al_A wd_5_93) rfl rfl rfl (hA _ wd_1_7) (hA _ wd_5_90) (by decide +kernel) ⟨Nat.le_of_ble_eq_true rfl, Nat.le_of_ble_eq_true rfl⟩, hA _ wd_5_92, hA _ ws_42⟩ ⟨bl, recv_X9 hE hG t_h0, fun U hU9 hW9 => ⟨rfl, by rw [hU9]; exact hG, hE.go hS hU9 hW9⟩⟩ rfl rfl hl.1 rfl (lv_room (Nat.le_of_ble_eq_true rfl)) dX9_readStatement_29 ⟨Nat.zero_le _, Nat.zero_le _⟩) hS (fun x13 u11 H locs w12 hG hS => ?_)
      obtain ⟨eu14, w12⟩ := w12
      rw [eu14] at hG
      refine ty_if_eq (tgt := 39) hx hb dX9_readStatement_32 (by decide) (fun c15 => ?_) (fun c15 => ?_)
      · skip
        refine lv_aload_n hx hb dX9_readStatement_39 rfl (lv_at hl 0 rfl) ?_
        refine va_ldcS hx hb hown (hES.1 9 (by decide)).1 dX9_readStatement_40 ?_
        refine cI (va_runV (C := RX9) (As := [.ref (dI 100 9)]) (rest := []) ⟨hx, hb, hml, hown, hA⟩ (k_X9_isWord l dC dI dA sz X Γ hU g h0 t_h0 9 (by decide)   (by omega)) ⟨callB_of 1 hA (al_A wd_5_93) rfl rfl rfl (hA _ wd_1_7) (hA _ wd_5_90) (by decide +kernel) ⟨Nat.le_of_ble_eq_true rfl, Nat.le_of_ble_eq_true rfl⟩, hA _ wd_5_92, hA _ ws_42⟩ ⟨bl, recv_X9 hE hG t_h0, fun U hU9 hW9 => ⟨rfl, by rw [hU9]; exact hG, hE.go hS hU9 hW9⟩⟩ rfl rfl hl.1 rfl (lv_room (Nat.le_of_ble_eq_true rfl)) dX9_readStatement_42 ⟨Nat.zero_le _, Nat.zero_le _⟩) hS (fun x18 u16 H locs w17 hG hS => ?_)
        obtain ⟨eu19, w17⟩ := w17
        rw [eu19] at hG
        refine ty_if_eq (tgt := 52) hx hb dX9_readStatement_45 (by decide) (fun c20 => ?_) (fun c20 => ?_)
        · skip
          refine ty_iconst hx hb (-1) dX9_readStatement_52 (by decide) (fun x21 h22 => ?_)
          refine lv_istore_n (lv' := [(1, .int x21), (0, .ref h0)]) hx hb dX9_readStatement_53 rfl hl (by decide) rfl (fun ls hl => ?_)
          refine lv_iload_n hx hb dX9_readStatement_54 rfl (lv_at hl 0 rfl) ?_
          refine ty_iconst hx hb (-1) dX9_readStatement_55 (by decide) (fun x23 h24 => ?_)
          refine ty_icmp_ne (tgt := 67) hx hb dX9_readStatement_56 (by decide) (fun c25 => ?_) (fun c25 => ?_)
          · exfalso; omega
          · skip
            refine lv_aload_n hx hb dX9_readStatement_59 rfl (lv_at hl 1 rfl) ?_
            refine ty_iconst hx hb (1) dX9_readStatement_60 (by decide) (fun x26 h27 => ?_)
            refine cV (va_runV (C := RX9) (As := [.int x26]) (rest := []) ⟨hx, hb, hml, hown, hA⟩ (k_X9_fails l dC dI dA sz X Γ hU g h0 t_h0 x26   ) ⟨callB_of 1 hA (al_A wd_5_102) rfl rfl rfl (hA _ wd_1_7) (hA _ wd_5_99) (by decide +kernel) ⟨Nat.le_of_ble_eq_true rfl, Nat.le_of_ble_eq_true rfl⟩, hA _ wd_5_101, hA _ ws_43⟩ ⟨bl, recv_X9 hE hG t_h0, fun U hU9 hW9 => ⟨rfl, by rw [hU9]; exact hG, hE.go hS hU9 hW9⟩⟩ rfl rfl hl.1 rfl (lv_room (Nat.le_of_ble_eq_true rfl)) dX9_readStatement_61 ⟨Nat.zero_le _, Nat.zero_le _⟩) hS (fun u28 H locs w29 hG hS => ?_)
            obtain ⟨hf30, w29⟩ := w29
            refine lv_goto (tgt := 81) hx hb dX9_readStatement_64 (by decide) ?_
            refine lv_aload_n hx hb dX9_readStatement_81 rfl (lv_at hl 1 rfl) ?_
            refine get_X9_19 hx hb hA hown hE hG t_h0 wd_4_149 dX9_readStatement_82 (fun x31 h32 => ?_)
            refine ty_if_eq (tgt := 89) hx hb dX9_readStatement_85 (by decide) (fun c34 => ?_) (fun c34 => ?_)
            · skip
              refine ty_iconst hx hb (4) dX9_readStatement_89 (by decide) (fun x35 h36 => ?_)
              refine lv_aload_n hx hb dX9_readStatement_90 rfl (lv_at hl 1 rfl) ?_
              refine get_X9_24 hx hb hA hown hE hG t_h0 wd_4_154 dX9_readStatement_91 (fun x37 h38 => ?_)
              have hk40 : u28 124 0 = g 124 0 := hf30 124 0 (by decide) (by decide)
              refine ty_imul hx hb dX9_readStatement_94 (fun x41 h42 => ?_)
              try have h43 : x41.toInt = 4 * x37.toInt := ty_mull h42 (by omega) (by omega) (by omega)
              refine lv_istore_n (lv' := [(2, .int x41), (1, .int x21), (0, .ref h0)]) hx hb dX9_readStatement_95 rfl hl (by decide) rfl (fun ls hl => ?_)
              refine lv_aload_n hx hb dX9_readStatement_96 rfl (lv_at hl 2 rfl) ?_
              refine lv_dup hx hb dX9_readStatement_97 rfl ?_
              refine get_X9_24 hx hb hA hown hE hG t_h0 wd_4_154 dX9_readStatement_98 (fun x44 h45 => ?_)
              refine ty_iconst hx hb (1) dX9_readStatement_101 (by decide) (fun x47 h48 => ?_)
              refine ty_iadd hx hb dX9_readStatement_102 (fun x49 h50 => ?_)
              try have h51 : x49.toInt = x44.toInt + x47.toInt := ty_add h50 (by omega) (by omega)
              refine put_X9_24 hx hb hA hown hE hG hS hU t_h0 wd_4_154 dX9_readStatement_103 (fun H locs hG hS => ?_)
              refine lv_aload_n hx hb dX9_readStatement_106 rfl (lv_at hl 2 rfl) ?_
              refine get_X9_25 hx hb hA hown hE hG t_h0 wd_4_155 dX9_readStatement_107 (fun b52 (t_b52 : ty Γ b52 125) => ?_)
              refine lv_iload_n hx hb dX9_readStatement_110 rfl (lv_at hl 0 rfl) ?_
              refine lv_iload_n hx hb dX9_readStatement_111 rfl (lv_at hl 1 rfl) ?_
              refine ast_mI hx hb hE hG hS hU 25 rfl (n := 120) rfl (lo := -2147483648) (hi := 2147483647) rfl rfl rfl t_b52 (rgD _) (by omega) dX9_readStatement_112 (fun H locs hG hS => ?_)
              refine lv_aload_n hx hb dX9_readStatement_113 rfl (lv_at hl 2 rfl) ?_
              have hk53 : u28 114 0 = g 114 0 := hf30 114 0 (by decide) (by decide)
              have e54 : (gs (gs u28 124 0 x49.toInt) 125 x41.toInt.toNat x21.toInt) 114 0 = u28 114 0 := by simp [gs]
              have hk55 : u28 115 0 = g 115 0 := hf30 115 0 (by decide) (by decide)
              have e56 : (gs (gs u28 124 0 x49.toInt) 125 x41.toInt.toNat x21.toInt) 115 0 = u28 115 0 := by simp [gs]
              have e57 : (gs (gs u28 124 0 x49.toInt) 125 x41.toInt.toNat x21.toInt) 114 0 = u28 114 0 := by simp [gs]
              refine cV (va_runV (C := RX9) (As := []) (rest := []) ⟨hx, hb, hml, hown, hA⟩ (k_X9_next l dC dI dA sz X Γ hU (gs (gs u28 124 0 x49.toInt) 125 x41.toInt.toNat x21.toInt) h0 t_h0   (by omega)) ⟨callB_of 0 hA (al_A wd_5_74) rfl rfl rfl (hA _ wd_1_7) (hA _ wd_5_71) (by decide +kernel) ⟨Nat.le_of_ble_eq_true rfl, Nat.le_of_ble_eq_true rfl⟩, hA _ wd_5_73, hA _ ws_39⟩ ⟨bl, recv_X9 hE hG t_h0, fun U hU9 hW9 => ⟨rfl, by rw [hU9]; exact hG, hE.go hS hU9 hW9⟩⟩ rfl rfl hl.1 rfl (lv_room (Nat.le_of_ble_eq_true rfl)) dX9_readStatement_114 ⟨Nat.zero_le _, Nat.zero_le _⟩) hS (fun u58 H locs w59 hG hS => ?_)
              obtain ⟨hf60, w59⟩ := w59
              refine lv_iload_n hx hb dX9_readStatement_117 rfl (lv_at hl 1 rfl) ?_
              refine ty_iconst hx hb (3) dX9_readStatement_118 (by decide) (fun x61 h62 => ?_)
              refine ty_icmp_ne (tgt := 177) hx hb dX9_readStatement_119 (by decide) (fun c63 => ?_) (fun c63 => ?_)
              · skip
                refine lv_aload_n hx hb dX9_readStatement_177 rfl (lv_at hl 2 rfl) ?_
                refine get_X9_25 hx hb hA hown hE hG t_h0 wd_4_155 dX9_readStatement_178 (fun b64 (t_b64 : ty Γ b64 125) => ?_)
                refine lv_iload_n hx hb dX9_readStatement_181 rfl (lv_at hl 0 rfl) ?_
                refine ty_iconst hx hb (1) dX9_readStatement_182 (by decide) (fun x65 h66 => ?_)
                refine ty_iadd hx hb dX9_readStatement_183 (fun x67 h68 => ?_)
                try have h69 : x67.toInt = x41.toInt + x65.toInt := ty_add h68 (by omega) (by omega)
                refine lv_iload_n hx hb dX9_readStatement_184 rfl (lv_at hl 1 rfl) ?_
                refine ty_if_ne (tgt := 198) hx hb dX9_readStatement_185 (by decide) (fun c70 => ?_) (fun c70 => ?_)
                · skip
                  refine lv_iload_n hx hb dX9_readStatement_198 rfl (lv_at hl 1 rfl) ?_
                  refine ty_iconst hx hb (1) dX9_readStatement_199 (by decide) (fun x71 h72 => ?_)
                  refine ty_icmp_ne (tgt := 212) hx hb dX9_readStatement_200 (by decide) (fun c73 => ?_) (fun c73 => ?_)
                  · skip
                    refine lv_aload_n hx hb dX9_readStatement_212 rfl (lv_at hl 2 rfl) ?_
                    refine ty_iconst hx hb (0) dX9_readStatement_213 (by decide) (fun x74 h75 => ?_)
                    refine ty_bipush hx hb (52) dX9_readStatement_214 (by decide) (fun x76 h77 => ?_)
                    have hk78 : u58 114 0 = (gs (gs u28 124 0 x49.toInt) 125 x41.toInt.toNat x21.toInt) 114 0 := hf60 114 0 (by decide) (by decide) (by decide) (by decide)
                    have hk78 : u58 114 0 = u28 114 0 := by rw [hk78]; simp [gs]
                    have hk79 : u58 119 0 = (gs (gs u28 124 0 x49.toInt) 125 x41.toInt.toNat x21.toInt) 119 0 := hf60 119 0 (by decide) (by decide) (by decide) (by decide)
                    have hk79 : u58 119 0 = u28 119 0 := by rw [hk79]; simp [gs]
                    refine cI (va_runV (C := RX9) (As := [.int x74, .int x76]) (rest := [.int x67, .ref b64]) ⟨hx, hb, hml, hown, hA⟩ (k_X9_number l dC dI dA sz X Γ hU u58 h0 t_h0 x74 x76   (by omega) (by omega)) ⟨callB_of 2 hA (al_A wd_5_108) rfl rfl rfl (hA _ wd_1_7) (hA _ wd_5_105) (by decide +kernel) ⟨Nat.le_of_ble_eq_true rfl, Nat.le_of_ble_eq_true rfl⟩, hA _ wd_5_107, hA _ ws_44⟩ ⟨bl, recv_X9 hE hG t_h0, fun U hU9 hW9 => ⟨rfl, by rw [hU9]; exact hG, hE.go hS hU9 hW9⟩⟩ rfl rfl hl.1 rfl (lv_room (Nat.le_of_ble_eq_true rfl)) dX9_readStatement_216 ⟨Nat.zero_le _, Nat.zero_le _⟩) hS (fun x82 u80 H locs w81 hG hS => ?_)
                    obtain ⟨hf83, w81⟩ := w81
                    refine ast_mI hx hb hE hG hS hU 25 rfl (n := 120) rfl (lo := -2147483648) (hi := 2147483647) rfl rfl rfl t_b64 (rgD _) (by omega) dX9_readStatement_219 (fun H locs hG hS => ?_)
                    refine lv_aload_n hx hb dX9_readStatement_220 rfl (lv_at hl 2 rfl) ?_
                    refine get_X9_25 hx hb hA hown hE hG t_h0 wd_4_155 dX9_readStatement_221 (fun b84 (t_b84 : ty Γ b84 125) => ?_)
                    refine lv_iload_n hx hb dX9_readStatement_224 rfl (lv_at hl 0 rfl) ?_
                    refine ty_iconst hx hb (2) dX9_readStatement_225 (by decide) (fun x85 h86 => ?_)
                    refine ty_iadd hx hb dX9_readStatement_226 (fun x87 h88 => ?_)
                    try have h89 : x87.toInt = x41.toInt + x85.toInt := ty_add h88 (by omega) (by omega)
                    refine lv_iload_n hx hb dX9_readStatement_227 rfl (lv_at hl 1 rfl) ?_
                    refine ty_if_ne (tgt := 248) hx hb dX9_readStatement_228 (by decide) (fun c90 => ?_) (fun c90 => ?_)
                    · skip
                      refine lv_aload_n hx hb dX9_readStatement_248 rfl (lv_at hl 2 rfl) ?_
                      refine ty_iconst hx hb (0) dX9_readStatement_249 (by decide) (fun x91 h92 => ?_)
                      refine ty_sipush hx hb (9999) dX9_readStatement_250 (by decide) (fun x93 h94 => ?_)
                      have hk95 : u80 114 0 = u58 114 0 := hf83 114 0 (by decide) (by decide) (by decide) (by decide) (by decide) (by decide)
                      have e96 : (gs u80 125 x67.toInt.toNat x82.toInt) 114 0 = u80 114 0 := by simp [gs]
                      have e97 : (gs u80 125 x67.toInt.toNat x82.toInt) 115 0 = u80 115 0 := by simp [gs]
                      have e98 : (gs u80 125 x67.toInt.toNat x82.toInt) 116 0 = u80 116 0 := by simp [gs]
                      have e99 : (gs u80 125 x67.toInt.toNat x82.toInt) 119 0 = u80 119 0 := by simp [gs]
                      have e100 : (gs u80 125 x67.toInt.toNat x82.toInt) 114 0 = u80 114 0 := by simp [gs]
                      refine cI (va_runV (C := RX9) (As := [.int x91, .int x93]) (rest := [.int x87, .ref b84]) ⟨hx, hb, hml, hown, hA⟩ (k_X9_number l dC dI dA sz X Γ hU (gs u80 125 x67.toInt.toNat x82.toInt) h0 t_h0 x91 x93   (by omega) (by omega)) ⟨callB_of 2 hA (al_A wd_5_108) rfl rfl rfl (hA _ wd_1_7) (hA _ wd_5_105) (by decide +kernel) ⟨Nat.le_of_ble_eq_true rfl, Nat.le_of_ble_eq_true rfl⟩, hA _ wd_5_107, hA _ ws_44⟩ ⟨bl, recv_X9 hE hG t_h0, fun U hU9 hW9 => ⟨rfl, by rw [hU9]; exact hG, hE.go hS hU9 hW9⟩⟩ rfl rfl hl.1 rfl (lv_room (Nat.le_of_ble_eq_true rfl)) dX9_readStatement_253 ⟨Nat.zero_le _, Nat.zero_le _⟩) hS (fun x103 u101 H locs w102 hG hS => ?_)
                      obtain ⟨hf104, w102⟩ := w102
                      refine ast_mI hx hb hE hG hS hU 25 rfl (n := 120) rfl (lo := -2147483648) (hi := 2147483647) rfl rfl rfl t_b84 (rgD _) (by omega) dX9_readStatement_256 (fun H locs hG hS => ?_)
                      refine lv_iload_n hx hb dX9_readStatement_257 rfl (lv_at hl 1 rfl) ?_
                      refine ty_if_ne (tgt := 277) hx hb dX9_readStatement_258 (by decide) (fun c105 => ?_) (fun c105 => ?_)
                      · skip
                        refine lv_aload_n hx hb dX9_readStatement_277 rfl (lv_at hl 2 rfl) ?_
                        refine get_X9_19 hx hb hA hown hE hG t_h0 wd_4_149 dX9_readStatement_278 (fun x106 h107 => ?_)
                        replace h107 : x106.toInt = u101 119 0 := by rw [h107]; simp [gs]
                        refine ty_if_ne (tgt := 297) hx hb dX9_readStatement_281 (by decide) (fun c109 => ?_) (fun c109 => ?_)
                        · skip
                          refine lv_aload_n hx hb dX9_readStatement_297 rfl (lv_at hl 2 rfl) ?_
                          refine get_X9_19 hx hb hA hown hE hG t_h0 wd_4_149 dX9_readStatement_298 (fun x110 h111 => ?_)
                          replace h111 : x110.toInt = u101 119 0 := by rw [h111]; simp [gs]
                          refine ty_if_ne (tgt := 308) hx hb dX9_readStatement_301 (by decide) (fun c113 => ?_) (fun c113 => ?_)
                          · skip
                            have e114 : (gs u101 125 x87.toInt.toNat x103.toInt) 115 0 = u101 115 0 := by simp [gs]
                            have e115 : (gs u101 125 x87.toInt.toNat x103.toInt) 116 0 = u101 116 0 := by simp [gs]
                            have e116 : (gs u101 125 x87.toInt.toNat x103.toInt) 119 0 = u101 119 0 := by simp [gs]
                            have hk117 : u101 124 0 = (gs u80 125 x67.toInt.toNat x82.toInt) 124 0 := hf104 124 0 (by decide) (by decide) (by decide) (by decide) (by decide) (by decide)
                            have hk117 : u101 124 0 = u80 124 0 := by rw [hk117]; simp [gs]
                            have hk118 : u80 124 0 = u58 124 0 := hf83 124 0 (by decide) (by decide) (by decide) (by decide) (by decide) (by decide)
                            have hk119 : u58 124 0 = (gs (gs u28 124 0 x49.toInt) 125 x41.toInt.toNat x21.toInt) 124 0 := hf60 124 0 (by decide) (by decide) (by decide) (by decide)
                            have hk119 : u58 124 0 = x49.toInt := by rw [hk119]; simp [gs]
                            have e120 : (gs u101 125 x87.toInt.toNat x103.toInt) 124 0 = u101 124 0 := by simp [gs]
                            exact W.vret hx hb hr (fun t ht hW => ⟨⟨(gs u101 125 x87.toInt.toNat x103.toInt), rfl, ⟨(fun c j h115 h116 h117 h118 h119 h120 h124 h125 => by rw [gs_c _ _ _ _ h125, hf104 c j h115 h116 h117 h118 h119 h120, gs_c _ _ _ _ h125, hf83 c j h115 h116 h117 h118 h119 h120, hf60 c j h115 h116 h117 h118, gs_c _ _ _ _ h125, gs_c _ _ _ _ h124, hf30 c j h119 h120]), (by omega)⟩, ok1 ht hG⟩, hS.F ht⟩) hS.2.2 dX9_readStatement_308
                          · skip
                            refine lv_aload_n hx hb dX9_readStatement_304 rfl (lv_at hl 2 rfl) ?_
                            have hk121 : u101 114 0 = (gs u80 125 x67.toInt.toNat x82.toInt) 114 0 := hf104 114 0 (by decide) (by decide) (by decide) (by decide) (by decide) (by decide)
                            have hk121 : u101 114 0 = u80 114 0 := by rw [hk121]; simp [gs]
                            have e122 : (gs u101 125 x87.toInt.toNat x103.toInt) 114 0 = u101 114 0 := by simp [gs]
                            have e123 : (gs u101 125 x87.toInt.toNat x103.toInt) 115 0 = u101 115 0 := by simp [gs]
                            have e124 : (gs u101 125 x87.toInt.toNat x103.toInt) 114 0 = u101 114 0 := by simp [gs]
                            refine cV (va_runV (C := RX9) (As := []) (rest := []) ⟨hx, hb, hml, hown, hA⟩ (k_X9_next l dC dI dA sz X Γ hU (gs u101 125 x87.toInt.toNat x103.toInt) h0 t_h0   (by omega)) ⟨callB_of 0 hA (al_A wd_5_74) rfl rfl rfl (hA _ wd_1_7) (hA _ wd_5_71) (by decide +kernel) ⟨Nat.le_of_ble_eq_true rfl, Nat.le_of_ble_eq_true rfl⟩, hA _ wd_5_73, hA _ ws_39⟩ ⟨bl, recv_X9 hE hG t_h0, fun U hU9 hW9 => ⟨rfl, by rw [hU9]; exact hG, hE.go hS hU9 hW9⟩⟩ rfl rfl hl.1 rfl (lv_room (Nat.le_of_ble_eq_true rfl)) dX9_readStatement_305 ⟨Nat.zero_le _, Nat.zero_le _⟩) hS (fun u125 H locs w126 hG hS => ?_)
                            obtain ⟨hf127, w126⟩ := w126
                            have hk128 : u125 119 0 = (gs u101 125 x87.toInt.toNat x103.toInt) 119 0 := hf127 119 0 (by decide) (by decide) (by decide) (by decide)
                            have hk128 : u125 119 0 = u101 119 0 := by rw [hk128]; simp [gs]
                            have hk129 : u125 124 0 = (gs u101 125 x87.toInt.toNat x103.toInt) 124 0 := hf127 124 0 (by decide) (by decide) (by decide) (by decide)
                            have hk129 : u125 124 0 = u101 124 0 := by rw [hk129]; simp [gs]
                            have hk130 : u101 124 0 = (gs u80 125 x67.toInt.toNat x82.toInt) 124 0 := hf104 124 0 (by decide) (by decide) (by decide) (by decide) (by decide) (by decide)
                            have hk130 : u101 124 0 = u80 124 0 := by rw [hk130]; simp [gs]
                            have hk131 : u80 124 0 = u58 124 0 := hf83 124 0 (by decide) (by decide) (by decide) (by decide) (by decide) (by decide)
                            have hk132 : u58 124 0 = (gs (gs u28 124 0 x49.toInt) 125 x41.toInt.toNat x21.toInt) 124 0 := hf60 124 0 (by decide) (by decide) (by decide) (by decide)
                            have hk132 : u58 124 0 = x49.toInt := by rw [hk132]; simp [gs]
                            exact W.vret hx hb hr (fun t ht hW => ⟨⟨u125, rfl, ⟨(fun c j h115 h116 h117 h118 h119 h120 h124 h125 => by rw [hf127 c j h115 h116 h117 h118, gs_c _ _ _ _ h125, hf104 c j h115 h116 h117 h118 h119 h120, gs_c _ _ _ _ h125, hf83 c j h115 h116 h117 h118 h119 h120, hf60 c j h115 h116 h117 h118, gs_c _ _ _ _ h125, gs_c _ _ _ _ h124, hf30 c j h119 h120]), (by omega)⟩, ok1 ht hG⟩, hS.F ht⟩) hS.2.2 dX9_readStatement_308
                        · skip
                          refine lv_aload_n hx hb dX9_readStatement_284 rfl (lv_at hl 2 rfl) ?_
                          refine get_X9_17 hx hb hA hown hE hG t_h0 wd_4_147 dX9_readStatement_285 (fun x133 h134 => ?_)
                          replace h134 : x133.toInt = u101 117 0 := by rw [h134]; simp [gs]
                          refine ty_iconst hx hb (4) dX9_readStatement_288 (by decide) (fun x136 h137 => ?_)
                          refine ty_icmp_eq (tgt := 297) hx hb dX9_readStatement_289 (by decide) (fun c138 => ?_) (fun c138 => ?_)
                          · skip
                            refine lv_aload_n hx hb dX9_readStatement_297 rfl (lv_at hl 2 rfl) ?_
                            refine get_X9_19 hx hb hA hown hE hG t_h0 wd_4_149 dX9_readStatement_298 (fun x139 h140 => ?_)
                            replace h140 : x139.toInt = u101 119 0 := by rw [h140]; simp [gs]
                            refine ty_if_ne (tgt := 308) hx hb dX9_readStatement_301 (by decide) (fun c142 => ?_) (fun c142 => ?_)
                            · skip
                              have e143 : (gs u101 125 x87.toInt.toNat x103.toInt) 115 0 = u101 115 0 := by simp [gs]
                              have e144 : (gs u101 125 x87.toInt.toNat x103.toInt) 116 0 = u101 116 0 := by simp [gs]
                              have e145 : (gs u101 125 x87.toInt.toNat x103.toInt) 119 0 = u101 119 0 := by simp [gs]
                              have hk146 : u101 124 0 = (gs u80 125 x67.toInt.toNat x82.toInt) 124 0 := hf104 124 0 (by decide) (by decide) (by decide) (by decide) (by decide) (by decide)
                              have hk146 : u101 124 0 = u80 124 0 := by rw [hk146]; simp [gs]
                              have hk147 : u80 124 0 = u58 124 0 := hf83 124 0 (by decide) (by decide) (by decide) (by decide) (by decide) (by decide)
                              have hk148 : u58 124 0 = (gs (gs u28 124 0 x49.toInt) 125 x41.toInt.toNat x21.toInt) 124 0 := hf60 124 0 (by decide) (by decide) (by decide) (by decide)
                              have hk148 : u58 124 0 = x49.toInt := by rw [hk148]; simp [gs]
                              have e149 : (gs u101 125 x87.toInt.toNat x103.toInt) 124 0 = u101 124 0 := by simp [gs]
                              exact W.vret hx hb hr (fun t ht hW => ⟨⟨(gs u101 125 x87.toInt.toNat x103.toInt), rfl, ⟨(fun c j h115 h116 h117 h118 h119 h120 h124 h125 => by rw [gs_c _ _ _ _ h125, hf104 c j h115 h116 h117 h118 h119 h120, gs_c _ _ _ _ h125, hf83 c j h115 h116 h117 h118 h119 h120, hf60 c j h115 h116 h117 h118, gs_c _ _ _ _ h125, gs_c _ _ _ _ h124, hf30 c j h119 h120]), (by omega)⟩, ok1 ht hG⟩, hS.F ht⟩) hS.2.2 dX9_readStatement_308
                            · skip
                              refine lv_aload_n hx hb dX9_readStatement_304 rfl (lv_at hl 2 rfl) ?_
                              have hk150 : u101 114 0 = (gs u80 125 x67.toInt.toNat x82.toInt) 114 0 := hf104 114 0 (by decide) (by decide) (by decide) (by decide) (by decide) (by decide)
                              have hk150 : u101 114 0 = u80 114 0 := by rw [hk150]; simp [gs]
                              have e151 : (gs u101 125 x87.toInt.toNat x103.toInt) 114 0 = u101 114 0 := by simp [gs]
                              have e152 : (gs u101 125 x87.toInt.toNat x103.toInt) 115 0 = u101 115 0 := by simp [gs]
                              have e153 : (gs u101 125 x87.toInt.toNat x103.toInt) 114 0 = u101 114 0 := by simp [gs]
                              refine cV (va_runV (C := RX9) (As := []) (rest := []) ⟨hx, hb, hml, hown, hA⟩ (k_X9_next l dC dI dA sz X Γ hU (gs u101 125 x87.toInt.toNat x103.toInt) h0 t_h0   (by omega)) ⟨callB_of 0 hA (al_A wd_5_74) rfl rfl rfl (hA _ wd_1_7) (hA _ wd_5_71) (by decide +kernel) ⟨Nat.le_of_ble_eq_true rfl, Nat.le_of_ble_eq_true rfl⟩, hA _ wd_5_73, hA _ ws_39⟩ ⟨bl, recv_X9 hE hG t_h0, fun U hU9 hW9 => ⟨rfl, by rw [hU9]; exact hG, hE.go hS hU9 hW9⟩⟩ rfl rfl hl.1 rfl (lv_room (Nat.le_of_ble_eq_true rfl)) dX9_readStatement_305 ⟨Nat.zero_le _, Nat.zero_le _⟩) hS (fun u154 H locs w155 hG hS => ?_)
                              obtain ⟨hf156, w155⟩ := w155
                              have hk157 : u154 119 0 = (gs u101 125 x87.toInt.toNat x103.toInt) 119 0 := hf156 119 0 (by decide) (by decide) (by decide) (by decide)
                              have hk157 : u154 119 0 = u101 119 0 := by rw [hk157]; simp [gs]
                              have hk158 : u154 124 0 = (gs u101 125 x87.toInt.toNat x103.toInt) 124 0 := hf156 124 0 (by decide) (by decide) (by decide) (by decide)
                              have hk158 : u154 124 0 = u101 124 0 := by rw [hk158]; simp [gs]
                              have hk159 : u101 124 0 = (gs u80 125 x67.toInt.toNat x82.toInt) 124 0 := hf104 124 0 (by decide) (by decide) (by decide) (by decide) (by decide) (by decide)
                              have hk159 : u101 124 0 = u80 124 0 := by rw [hk159]; simp [gs]
                              have hk160 : u80 124 0 = u58 124 0 := hf83 124 0 (by decide) (by decide) (by decide) (by decide) (by decide) (by decide)
                              have hk161 : u58 124 0 = (gs (gs u28 124 0 x49.toInt) 125 x41.toInt.toNat x21.toInt) 124 0 := hf60 124 0 (by decide) (by decide) (by decide) (by decide)
                              have hk161 : u58 124 0 = x49.toInt := by rw [hk161]; simp [gs]
                              exact W.vret hx hb hr (fun t ht hW => ⟨⟨u154, rfl, ⟨(fun c j h115 h116 h117 h118 h119 h120 h124 h125 => by rw [hf156 c j h115 h116 h117 h118, gs_c _ _ _ _ h125, hf104 c j h115 h116 h117 h118 h119 h120, gs_c _ _ _ _ h125, hf83 c j h115 h116 h117 h118 h119 h120, hf60 c j h115 h116 h117 h118, gs_c _ _ _ _ h125, gs_c _ _ _ _ h124, hf30 c j h119 h120]), (by omega)⟩, ok1 ht hG⟩, hS.F ht⟩) hS.2.2 dX9_readStatement_308
                          · skip
                            refine lv_aload_n hx hb dX9_readStatement_292 rfl (lv_at hl 2 rfl) ?_
                            refine ty_iconst hx hb (1) dX9_readStatement_293 (by decide) (fun x162 h163 => ?_)
                            have e164 : (gs u101 125 x87.toInt.toNat x103.toInt) 119 0 = u101 119 0 := by simp [gs]
                            have e165 : (gs u101 125 x87.toInt.toNat x103.toInt) 119 0 = u101 119 0 := by simp [gs]
                            refine cV (va_runV (C := RX9) (As := [.int x162]) (rest := []) ⟨hx, hb, hml, hown, hA⟩ (k_X9_fails l dC dI dA sz X Γ hU (gs u101 125 x87.toInt.toNat x103.toInt) h0 t_h0 x162   ) ⟨callB_of 1 hA (al_A wd_5_102) rfl rfl rfl (hA _ wd_1_7) (hA _ wd_5_99) (by decide +kernel) ⟨Nat.le_of_ble_eq_true rfl, Nat.le_of_ble_eq_true rfl⟩, hA _ wd_5_101, hA _ ws_43⟩ ⟨bl, recv_X9 hE hG t_h0, fun U hU9 hW9 => ⟨rfl, by rw [hU9]; exact hG, hE.go hS hU9 hW9⟩⟩ rfl rfl hl.1 rfl (lv_room (Nat.le_of_ble_eq_true rfl)) dX9_readStatement_294 ⟨Nat.zero_le _, Nat.zero_le _⟩) hS (fun u166 H locs w167 hG hS => ?_)
                            obtain ⟨hf168, w167⟩ := w167
                            refine lv_aload_n hx hb dX9_readStatement_297 rfl (lv_at hl 2 rfl) ?_
                            refine get_X9_19 hx hb hA hown hE hG t_h0 wd_4_149 dX9_readStatement_298 (fun x169 h170 => ?_)
                            refine ty_if_ne (tgt := 308) hx hb dX9_readStatement_301 (by decide) (fun c172 => ?_) (fun c172 => ?_)
                            · skip
                              have hk173 : u166 115 0 = (gs u101 125 x87.toInt.toNat x103.toInt) 115 0 := hf168 115 0 (by decide) (by decide)
                              have hk173 : u166 115 0 = u101 115 0 := by rw [hk173]; simp [gs]
                              have hk174 : u166 116 0 = (gs u101 125 x87.toInt.toNat x103.toInt) 116 0 := hf168 116 0 (by decide) (by decide)
                              have hk174 : u166 116 0 = u101 116 0 := by rw [hk174]; simp [gs]
                              have hk175 : u166 124 0 = (gs u101 125 x87.toInt.toNat x103.toInt) 124 0 := hf168 124 0 (by decide) (by decide)
                              have hk175 : u166 124 0 = u101 124 0 := by rw [hk175]; simp [gs]
                              have hk176 : u101 124 0 = (gs u80 125 x67.toInt.toNat x82.toInt) 124 0 := hf104 124 0 (by decide) (by decide) (by decide) (by decide) (by decide) (by decide)
                              have hk176 : u101 124 0 = u80 124 0 := by rw [hk176]; simp [gs]
                              have hk177 : u80 124 0 = u58 124 0 := hf83 124 0 (by decide) (by decide) (by decide) (by decide) (by decide) (by decide)
                              have hk178 : u58 124 0 = (gs (gs u28 124 0 x49.toInt) 125 x41.toInt.toNat x21.toInt) 124 0 := hf60 124 0 (by decide) (by decide) (by decide) (by decide)
                              have hk178 : u58 124 0 = x49.toInt := by rw [hk178]; simp [gs]
                              exact W.vret hx hb hr (fun t ht hW => ⟨⟨u166, rfl, ⟨(fun c j h115 h116 h117 h118 h119 h120 h124 h125 => by rw [hf168 c j h119 h120, gs_c _ _ _ _ h125, hf104 c j h115 h116 h117 h118 h119 h120, gs_c _ _ _ _ h125, hf83 c j h115 h116 h117 h118 h119 h120, hf60 c j h115 h116 h117 h118, gs_c _ _ _ _ h125, gs_c _ _ _ _ h124, hf30 c j h119 h120]), (by omega)⟩, ok1 ht hG⟩, hS.F ht⟩) hS.2.2 dX9_readStatement_308
                            · skip
                              refine lv_aload_n hx hb dX9_readStatement_304 rfl (lv_at hl 2 rfl) ?_
                              have hk179 : u166 114 0 = (gs u101 125 x87.toInt.toNat x103.toInt) 114 0 := hf168 114 0 (by decide) (by decide)
                              have hk179 : u166 114 0 = u101 114 0 := by rw [hk179]; simp [gs]
                              have hk180 : u101 114 0 = (gs u80 125 x67.toInt.toNat x82.toInt) 114 0 := hf104 114 0 (by decide) (by decide) (by decide) (by decide) (by decide) (by decide)
                              have hk180 : u101 114 0 = u80 114 0 := by rw [hk180]; simp [gs]
                              have hk181 : u166 115 0 = (gs u101 125 x87.toInt.toNat x103.toInt) 115 0 := hf168 115 0 (by decide) (by decide)
                              have hk181 : u166 115 0 = u101 115 0 := by rw [hk181]; simp [gs]
                              refine cV (va_runV (C := RX9) (As := []) (rest := []) ⟨hx, hb, hml, hown, hA⟩ (k_X9_next l dC dI dA sz X Γ hU u166 h0 t_h0   (by omega)) ⟨callB_of 0 hA (al_A wd_5_74) rfl rfl rfl (hA _ wd_1_7) (hA _ wd_5_71) (by decide +kernel) ⟨Nat.le_of_ble_eq_true rfl, Nat.le_of_ble_eq_true rfl⟩, hA _ wd_5_73, hA _ ws_39⟩ ⟨bl, recv_X9 hE hG t_h0, fun U hU9 hW9 => ⟨rfl, by rw [hU9]; exact hG, hE.go hS hU9 hW9⟩⟩ rfl rfl hl.1 rfl (lv_room (Nat.le_of_ble_eq_true rfl)) dX9_readStatement_305 ⟨Nat.zero_le _, Nat.zero_le _⟩) hS (fun u182 H locs w183 hG hS => ?_)
                              obtain ⟨hf184, w183⟩ := w183
                              have hk185 : u182 119 0 = u166 119 0 := hf184 119 0 (by decide) (by decide) (by decide) (by decide)
                              have hk186 : u182 124 0 = u166 124 0 := hf184 124 0 (by decide) (by decide) (by decide) (by decide)
                              have hk187 : u166 124 0 = (gs u101 125 x87.toInt.toNat x103.toInt) 124 0 := hf168 124 0 (by decide) (by decide)
                              have hk187 : u166 124 0 = u101 124 0 := by rw [hk187]; simp [gs]
                              have hk188 : u101 124 0 = (gs u80 125 x67.toInt.toNat x82.toInt) 124 0 := hf104 124 0 (by decide) (by decide) (by decide) (by decide) (by decide) (by decide)
                              have hk188 : u101 124 0 = u80 124 0 := by rw [hk188]; simp [gs]
                              have hk189 : u80 124 0 = u58 124 0 := hf83 124 0 (by decide) (by decide) (by decide) (by decide) (by decide) (by decide)
                              have hk190 : u58 124 0 = (gs (gs u28 124 0 x49.toInt) 125 x41.toInt.toNat x21.toInt) 124 0 := hf60 124 0 (by decide) (by decide) (by decide) (by decide)
                              have hk190 : u58 124 0 = x49.toInt := by rw [hk190]; simp [gs]
                              exact W.vret hx hb hr (fun t ht hW => ⟨⟨u182, rfl, ⟨(fun c j h115 h116 h117 h118 h119 h120 h124 h125 => by rw [hf184 c j h115 h116 h117 h118, hf168 c j h119 h120, gs_c _ _ _ _ h125, hf104 c j h115 h116 h117 h118 h119 h120, gs_c _ _ _ _ h125, hf83 c j h115 h116 h117 h118 h119 h120, hf60 c j h115 h116 h117 h118, gs_c _ _ _ _ h125, gs_c _ _ _ _ h124, hf30 c j h119 h120]), (by omega)⟩, ok1 ht hG⟩, hS.F ht⟩) hS.2.2 dX9_readStatement_308
                      · exfalso; omega
                    · exfalso; omega
                  · exfalso; omega
                · exfalso; omega
              · exfalso; omega
            · skip
              have hk191 : u28 115 0 = g 115 0 := hf30 115 0 (by decide) (by decide)
              have hk192 : u28 116 0 = g 116 0 := hf30 116 0 (by decide) (by decide)
              have hk193 : u28 124 0 = g 124 0 := hf30 124 0 (by decide) (by decide)
              exact W.vret hx hb hr (fun t ht hW => ⟨⟨u28, rfl, ⟨(fun c j h115 h116 h117 h118 h119 h120 h124 h125 => by rw [hf30 c j h119 h120]), (by omega)⟩, ok1 ht hG⟩, hS.F ht⟩) hS.2.2 dX9_readStatement_88
        · skip
          refine ty_iconst hx hb (3) dX9_readStatement_48 (by decide) (fun x194 h195 => ?_)
          refine lv_goto (tgt := 53) hx hb dX9_readStatement_49 (by decide) ?_
          refine lv_istore_n (lv' := [(1, .int x194), (0, .ref h0)]) hx hb dX9_readStatement_53 rfl hl (by decide) rfl (fun ls hl => ?_)
          refine lv_iload_n hx hb dX9_readStatement_54 rfl (lv_at hl 0 rfl) ?_
          refine ty_iconst hx hb (-1) dX9_readStatement_55 (by decide) (fun x196 h197 => ?_)
          refine ty_icmp_ne (tgt := 67) hx hb dX9_readStatement_56 (by decide) (fun c198 => ?_) (fun c198 => ?_)
          · skip
            refine lv_aload_n hx hb dX9_readStatement_67 rfl (lv_at hl 1 rfl) ?_
            refine get_X9_24 hx hb hA hown hE hG t_h0 wd_4_154 dX9_readStatement_68 (fun x199 h200 => ?_)
            refine ty_bipush hx hb (30) dX9_readStatement_71 (by decide) (fun x202 h203 => ?_)
            refine ty_icmp_ne (tgt := 81) hx hb dX9_readStatement_73 (by decide) (fun c204 => ?_) (fun c204 => ?_)
            · skip
              refine lv_aload_n hx hb dX9_readStatement_81 rfl (lv_at hl 1 rfl) ?_
              refine get_X9_19 hx hb hA hown hE hG t_h0 wd_4_149 dX9_readStatement_82 (fun x205 h206 => ?_)
              refine ty_if_eq (tgt := 89) hx hb dX9_readStatement_85 (by decide) (fun c208 => ?_) (fun c208 => ?_)
              · skip
                refine ty_iconst hx hb (4) dX9_readStatement_89 (by decide) (fun x209 h210 => ?_)
                refine lv_aload_n hx hb dX9_readStatement_90 rfl (lv_at hl 1 rfl) ?_
                refine get_X9_24 hx hb hA hown hE hG t_h0 wd_4_154 dX9_readStatement_91 (fun x211 h212 => ?_)
                refine ty_imul hx hb dX9_readStatement_94 (fun x214 h215 => ?_)
                try have h216 : x214.toInt = 4 * x211.toInt := ty_mull h215 (by omega) (by omega) (by omega)
                refine lv_istore_n (lv' := [(2, .int x214), (1, .int x194), (0, .ref h0)]) hx hb dX9_readStatement_95 rfl hl (by decide) rfl (fun ls hl => ?_)
                refine lv_aload_n hx hb dX9_readStatement_96 rfl (lv_at hl 2 rfl) ?_
                refine lv_dup hx hb dX9_readStatement_97 rfl ?_
                refine get_X9_24 hx hb hA hown hE hG t_h0 wd_4_154 dX9_readStatement_98 (fun x217 h218 => ?_)
                refine ty_iconst hx hb (1) dX9_readStatement_101 (by decide) (fun x220 h221 => ?_)
                refine ty_iadd hx hb dX9_readStatement_102 (fun x222 h223 => ?_)
                try have h224 : x222.toInt = x217.toInt + x220.toInt := ty_add h223 (by omega) (by omega)
                refine put_X9_24 hx hb hA hown hE hG hS hU t_h0 wd_4_154 dX9_readStatement_103 (fun H locs hG hS => ?_)
                refine lv_aload_n hx hb dX9_readStatement_106 rfl (lv_at hl 2 rfl) ?_
                refine get_X9_25 hx hb hA hown hE hG t_h0 wd_4_155 dX9_readStatement_107 (fun b225 (t_b225 : ty Γ b225 125) => ?_)
                refine lv_iload_n hx hb dX9_readStatement_110 rfl (lv_at hl 0 rfl) ?_
                refine lv_iload_n hx hb dX9_readStatement_111 rfl (lv_at hl 1 rfl) ?_
                refine ast_mI hx hb hE hG hS hU 25 rfl (n := 120) rfl (lo := -2147483648) (hi := 2147483647) rfl rfl rfl t_b225 (rgD _) (by omega) dX9_readStatement_112 (fun H locs hG hS => ?_)
                refine lv_aload_n hx hb dX9_readStatement_113 rfl (lv_at hl 2 rfl) ?_
                have e226 : (gs (gs g 124 0 x222.toInt) 125 x214.toInt.toNat x194.toInt) 114 0 = g 114 0 := by simp [gs]
                have e227 : (gs (gs g 124 0 x222.toInt) 125 x214.toInt.toNat x194.toInt) 115 0 = g 115 0 := by simp [gs]
                have e228 : (gs (gs g 124 0 x222.toInt) 125 x214.toInt.toNat x194.toInt) 114 0 = g 114 0 := by simp [gs]
                refine cV (va_runV (C := RX9) (As := []) (rest := []) ⟨hx, hb, hml, hown, hA⟩ (k_X9_next l dC dI dA sz X Γ hU (gs (gs g 124 0 x222.toInt) 125 x214.toInt.toNat x194.toInt) h0 t_h0   (by omega)) ⟨callB_of 0 hA (al_A wd_5_74) rfl rfl rfl (hA _ wd_1_7) (hA _ wd_5_71) (by decide +kernel) ⟨Nat.le_of_ble_eq_true rfl, Nat.le_of_ble_eq_true rfl⟩, hA _ wd_5_73, hA _ ws_39⟩ ⟨bl, recv_X9 hE hG t_h0, fun U hU9 hW9 => ⟨rfl, by rw [hU9]; exact hG, hE.go hS hU9 hW9⟩⟩ rfl rfl hl.1 rfl (lv_room (Nat.le_of_ble_eq_true rfl)) dX9_readStatement_114 ⟨Nat.zero_le _, Nat.zero_le _⟩) hS (fun u229 H locs w230 hG hS => ?_)
                obtain ⟨hf231, w230⟩ := w230
                refine lv_iload_n hx hb dX9_readStatement_117 rfl (lv_at hl 1 rfl) ?_
                refine ty_iconst hx hb (3) dX9_readStatement_118 (by decide) (fun x232 h233 => ?_)
                refine ty_icmp_ne (tgt := 177) hx hb dX9_readStatement_119 (by decide) (fun c234 => ?_) (fun c234 => ?_)
                · exfalso; omega
                · skip
                  refine lv_aload_n hx hb dX9_readStatement_122 rfl (lv_at hl 2 rfl) ?_
                  refine get_X9_25 hx hb hA hown hE hG t_h0 wd_4_155 dX9_readStatement_123 (fun b235 (t_b235 : ty Γ b235 125) => ?_)
                  refine lv_iload_n hx hb dX9_readStatement_126 rfl (lv_at hl 0 rfl) ?_
                  refine ty_iconst hx hb (1) dX9_readStatement_127 (by decide) (fun x236 h237 => ?_)
                  refine ty_iadd hx hb dX9_readStatement_128 (fun x238 h239 => ?_)
                  try have h240 : x238.toInt = x214.toInt + x236.toInt := ty_add h239 (by omega) (by omega)
                  refine lv_aload_n hx hb dX9_readStatement_129 rfl (lv_at hl 2 rfl) ?_
                  refine va_ldcS hx hb hown (hES.1 10 (by decide)).1 dX9_readStatement_130 ?_
                  have hk241 : u229 114 0 = (gs (gs g 124 0 x222.toInt) 125 x214.toInt.toNat x194.toInt) 114 0 := hf231 114 0 (by decide) (by decide) (by decide) (by decide)
                  have hk241 : u229 114 0 = g 114 0 := by rw [hk241]; simp [gs]
                  refine cI (va_runV (C := RX9) (As := [.ref (dI 100 10)]) (rest := [.int x238, .ref b235]) ⟨hx, hb, hml, hown, hA⟩ (k_X9_isWord l dC dI dA sz X Γ hU u229 h0 t_h0 10 (by decide)   (by omega)) ⟨callB_of 1 hA (al_A wd_5_93) rfl rfl rfl (hA _ wd_1_7) (hA _ wd_5_90) (by decide +kernel) ⟨Nat.le_of_ble_eq_true rfl, Nat.le_of_ble_eq_true rfl⟩, hA _ wd_5_92, hA _ ws_42⟩ ⟨bl, recv_X9 hE hG t_h0, fun U hU9 hW9 => ⟨rfl, by rw [hU9]; exact hG, hE.go hS hU9 hW9⟩⟩ rfl rfl hl.1 rfl (lv_room (Nat.le_of_ble_eq_true rfl)) dX9_readStatement_132 ⟨Nat.zero_le _, Nat.zero_le _⟩) hS (fun x244 u242 H locs w243 hG hS => ?_)
                  obtain ⟨eu245, w243⟩ := w243
                  rw [eu245] at hG
                  refine ty_if_eq (tgt := 142) hx hb dX9_readStatement_135 (by decide) (fun c246 => ?_) (fun c246 => ?_)
                  · skip
                    refine ty_iconst hx hb (0) dX9_readStatement_142 (by decide) (fun x247 h248 => ?_)
                    refine ast_mI hx hb hE hG hS hU 25 rfl (n := 120) rfl (lo := -2147483648) (hi := 2147483647) rfl rfl rfl t_b235 (rgD _) (by omega) dX9_readStatement_143 (fun H locs hG hS => ?_)
                    refine lv_aload_n hx hb dX9_readStatement_144 rfl (lv_at hl 2 rfl) ?_
                    refine va_ldcS hx hb hown (hES.1 10 (by decide)).1 dX9_readStatement_145 ?_
                    have e249 : (gs u229 125 x238.toInt.toNat x247.toInt) 114 0 = u229 114 0 := by simp [gs]
                    have e250 : (gs u229 125 x238.toInt.toNat x247.toInt) 115 0 = u229 115 0 := by simp [gs]
                    have e251 : (gs u229 125 x238.toInt.toNat x247.toInt) 116 0 = u229 116 0 := by simp [gs]
                    refine cI (va_runV (C := RX9) (As := [.ref (dI 100 10)]) (rest := []) ⟨hx, hb, hml, hown, hA⟩ (k_X9_isWord l dC dI dA sz X Γ hU (gs u229 125 x238.toInt.toNat x247.toInt) h0 t_h0 10 (by decide)   (by omega)) ⟨callB_of 1 hA (al_A wd_5_93) rfl rfl rfl (hA _ wd_1_7) (hA _ wd_5_90) (by decide +kernel) ⟨Nat.le_of_ble_eq_true rfl, Nat.le_of_ble_eq_true rfl⟩, hA _ wd_5_92, hA _ ws_42⟩ ⟨bl, recv_X9 hE hG t_h0, fun U hU9 hW9 => ⟨rfl, by rw [hU9]; exact hG, hE.go hS hU9 hW9⟩⟩ rfl rfl hl.1 rfl (lv_room (Nat.le_of_ble_eq_true rfl)) dX9_readStatement_147 ⟨Nat.zero_le _, Nat.zero_le _⟩) hS (fun x254 u252 H locs w253 hG hS => ?_)
                    obtain ⟨eu255, w253⟩ := w253
                    rw [eu255] at hG
                    refine ty_if_ne (tgt := 170) hx hb dX9_readStatement_150 (by decide) (fun c256 => ?_) (fun c256 => ?_)
                    · skip
                      refine lv_aload_n hx hb dX9_readStatement_170 rfl (lv_at hl 2 rfl) ?_
                      have e257 : (gs u229 125 x238.toInt.toNat x247.toInt) 114 0 = u229 114 0 := by simp [gs]
                      have e258 : (gs u229 125 x238.toInt.toNat x247.toInt) 115 0 = u229 115 0 := by simp [gs]
                      have e259 : (gs u229 125 x238.toInt.toNat x247.toInt) 114 0 = u229 114 0 := by simp [gs]
                      refine cV (va_runV (C := RX9) (As := []) (rest := []) ⟨hx, hb, hml, hown, hA⟩ (k_X9_next l dC dI dA sz X Γ hU (gs u229 125 x238.toInt.toNat x247.toInt) h0 t_h0   (by omega)) ⟨callB_of 0 hA (al_A wd_5_74) rfl rfl rfl (hA _ wd_1_7) (hA _ wd_5_71) (by decide +kernel) ⟨Nat.le_of_ble_eq_true rfl, Nat.le_of_ble_eq_true rfl⟩, hA _ wd_5_73, hA _ ws_39⟩ ⟨bl, recv_X9 hE hG t_h0, fun U hU9 hW9 => ⟨rfl, by rw [hU9]; exact hG, hE.go hS hU9 hW9⟩⟩ rfl rfl hl.1 rfl (lv_room (Nat.le_of_ble_eq_true rfl)) dX9_readStatement_171 ⟨Nat.zero_le _, Nat.zero_le _⟩) hS (fun u260 H locs w261 hG hS => ?_)
                      obtain ⟨hf262, w261⟩ := w261
                      refine lv_goto (tgt := 277) hx hb dX9_readStatement_174 (by decide) ?_
                      refine lv_aload_n hx hb dX9_readStatement_277 rfl (lv_at hl 2 rfl) ?_
                      refine get_X9_19 hx hb hA hown hE hG t_h0 wd_4_149 dX9_readStatement_278 (fun x263 h264 => ?_)
                      have hk266 : u260 119 0 = (gs u229 125 x238.toInt.toNat x247.toInt) 119 0 := hf262 119 0 (by decide) (by decide) (by decide) (by decide)
                      have hk266 : u260 119 0 = u229 119 0 := by rw [hk266]; simp [gs]
                      have hk267 : u229 119 0 = (gs (gs g 124 0 x222.toInt) 125 x214.toInt.toNat x194.toInt) 119 0 := hf231 119 0 (by decide) (by decide) (by decide) (by decide)
                      have hk267 : u229 119 0 = g 119 0 := by rw [hk267]; simp [gs]
                      refine ty_if_ne (tgt := 297) hx hb dX9_readStatement_281 (by decide) (fun c268 => ?_) (fun c268 => ?_)
                      · skip
                        refine lv_aload_n hx hb dX9_readStatement_297 rfl (lv_at hl 2 rfl) ?_
                        refine get_X9_19 hx hb hA hown hE hG t_h0 wd_4_149 dX9_readStatement_298 (fun x269 h270 => ?_)
                        refine ty_if_ne (tgt := 308) hx hb dX9_readStatement_301 (by decide) (fun c272 => ?_) (fun c272 => ?_)
                        · skip
                          have hk273 : u260 124 0 = (gs u229 125 x238.toInt.toNat x247.toInt) 124 0 := hf262 124 0 (by decide) (by decide) (by decide) (by decide)
                          have hk273 : u260 124 0 = u229 124 0 := by rw [hk273]; simp [gs]
                          have hk274 : u229 124 0 = (gs (gs g 124 0 x222.toInt) 125 x214.toInt.toNat x194.toInt) 124 0 := hf231 124 0 (by decide) (by decide) (by decide) (by decide)
                          have hk274 : u229 124 0 = x222.toInt := by rw [hk274]; simp [gs]
                          exact W.vret hx hb hr (fun t ht hW => ⟨⟨u260, rfl, ⟨(fun c j h115 h116 h117 h118 h119 h120 h124 h125 => by rw [hf262 c j h115 h116 h117 h118, gs_c _ _ _ _ h125, hf231 c j h115 h116 h117 h118, gs_c _ _ _ _ h125, gs_c _ _ _ _ h124]), (by omega)⟩, ok1 ht hG⟩, hS.F ht⟩) hS.2.2 dX9_readStatement_308
                        · skip
                          refine lv_aload_n hx hb dX9_readStatement_304 rfl (lv_at hl 2 rfl) ?_
                          have hk275 : u260 114 0 = (gs u229 125 x238.toInt.toNat x247.toInt) 114 0 := hf262 114 0 (by decide) (by decide) (by decide) (by decide)
                          have hk275 : u260 114 0 = u229 114 0 := by rw [hk275]; simp [gs]
                          refine cV (va_runV (C := RX9) (As := []) (rest := []) ⟨hx, hb, hml, hown, hA⟩ (k_X9_next l dC dI dA sz X Γ hU u260 h0 t_h0   (by omega)) ⟨callB_of 0 hA (al_A wd_5_74) rfl rfl rfl (hA _ wd_1_7) (hA _ wd_5_71) (by decide +kernel) ⟨Nat.le_of_ble_eq_true rfl, Nat.le_of_ble_eq_true rfl⟩, hA _ wd_5_73, hA _ ws_39⟩ ⟨bl, recv_X9 hE hG t_h0, fun U hU9 hW9 => ⟨rfl, by rw [hU9]; exact hG, hE.go hS hU9 hW9⟩⟩ rfl rfl hl.1 rfl (lv_room (Nat.le_of_ble_eq_true rfl)) dX9_readStatement_305 ⟨Nat.zero_le _, Nat.zero_le _⟩) hS (fun u276 H locs w277 hG hS => ?_)
                          obtain ⟨hf278, w277⟩ := w277
                          have hk279 : u276 119 0 = u260 119 0 := hf278 119 0 (by decide) (by decide) (by decide) (by decide)
                          have hk280 : u276 124 0 = u260 124 0 := hf278 124 0 (by decide) (by decide) (by decide) (by decide)
                          have hk281 : u260 124 0 = (gs u229 125 x238.toInt.toNat x247.toInt) 124 0 := hf262 124 0 (by decide) (by decide) (by decide) (by decide)
                          have hk281 : u260 124 0 = u229 124 0 := by rw [hk281]; simp [gs]
                          have hk282 : u229 124 0 = (gs (gs g 124 0 x222.toInt) 125 x214.toInt.toNat x194.toInt) 124 0 := hf231 124 0 (by decide) (by decide) (by decide) (by decide)
                          have hk282 : u229 124 0 = x222.toInt := by rw [hk282]; simp [gs]
                          exact W.vret hx hb hr (fun t ht hW => ⟨⟨u276, rfl, ⟨(fun c j h115 h116 h117 h118 h119 h120 h124 h125 => by rw [hf278 c j h115 h116 h117 h118, hf262 c j h115 h116 h117 h118, gs_c _ _ _ _ h125, hf231 c j h115 h116 h117 h118, gs_c _ _ _ _ h125, gs_c _ _ _ _ h124]), (by omega)⟩, ok1 ht hG⟩, hS.F ht⟩) hS.2.2 dX9_readStatement_308
                      · skip
                        refine lv_aload_n hx hb dX9_readStatement_284 rfl (lv_at hl 2 rfl) ?_
                        refine get_X9_17 hx hb hA hown hE hG t_h0 wd_4_147 dX9_readStatement_285 (fun x283 h284 => ?_)
                        refine ty_iconst hx hb (4) dX9_readStatement_288 (by decide) (fun x286 h287 => ?_)
                        refine ty_icmp_eq (tgt := 297) hx hb dX9_readStatement_289 (by decide) (fun c288 => ?_) (fun c288 => ?_)
                        · skip
                          refine lv_aload_n hx hb dX9_readStatement_297 rfl (lv_at hl 2 rfl) ?_
                          refine get_X9_19 hx hb hA hown hE hG t_h0 wd_4_149 dX9_readStatement_298 (fun x289 h290 => ?_)
                          refine ty_if_ne (tgt := 308) hx hb dX9_readStatement_301 (by decide) (fun c292 => ?_) (fun c292 => ?_)
                          · skip
                            have hk293 : u260 124 0 = (gs u229 125 x238.toInt.toNat x247.toInt) 124 0 := hf262 124 0 (by decide) (by decide) (by decide) (by decide)
                            have hk293 : u260 124 0 = u229 124 0 := by rw [hk293]; simp [gs]
                            have hk294 : u229 124 0 = (gs (gs g 124 0 x222.toInt) 125 x214.toInt.toNat x194.toInt) 124 0 := hf231 124 0 (by decide) (by decide) (by decide) (by decide)
                            have hk294 : u229 124 0 = x222.toInt := by rw [hk294]; simp [gs]
                            exact W.vret hx hb hr (fun t ht hW => ⟨⟨u260, rfl, ⟨(fun c j h115 h116 h117 h118 h119 h120 h124 h125 => by rw [hf262 c j h115 h116 h117 h118, gs_c _ _ _ _ h125, hf231 c j h115 h116 h117 h118, gs_c _ _ _ _ h125, gs_c _ _ _ _ h124]), (by omega)⟩, ok1 ht hG⟩, hS.F ht⟩) hS.2.2 dX9_readStatement_308
                          · skip
                            refine lv_aload_n hx hb dX9_readStatement_304 rfl (lv_at hl 2 rfl) ?_
                            have hk295 : u260 114 0 = (gs u229 125 x238.toInt.toNat x247.toInt) 114 0 := hf262 114 0 (by decide) (by decide) (by decide) (by decide)
                            have hk295 : u260 114 0 = u229 114 0 := by rw [hk295]; simp [gs]
                            refine cV (va_runV (C := RX9) (As := []) (rest := []) ⟨hx, hb, hml, hown, hA⟩ (k_X9_next l dC dI dA sz X Γ hU u260 h0 t_h0   (by omega)) ⟨callB_of 0 hA (al_A wd_5_74) rfl rfl rfl (hA _ wd_1_7) (hA _ wd_5_71) (by decide +kernel) ⟨Nat.le_of_ble_eq_true rfl, Nat.le_of_ble_eq_true rfl⟩, hA _ wd_5_73, hA _ ws_39⟩ ⟨bl, recv_X9 hE hG t_h0, fun U hU9 hW9 => ⟨rfl, by rw [hU9]; exact hG, hE.go hS hU9 hW9⟩⟩ rfl rfl hl.1 rfl (lv_room (Nat.le_of_ble_eq_true rfl)) dX9_readStatement_305 ⟨Nat.zero_le _, Nat.zero_le _⟩) hS (fun u296 H locs w297 hG hS => ?_)
                            obtain ⟨hf298, w297⟩ := w297
                            have hk299 : u296 119 0 = u260 119 0 := hf298 119 0 (by decide) (by decide) (by decide) (by decide)
                            have hk300 : u296 124 0 = u260 124 0 := hf298 124 0 (by decide) (by decide) (by decide) (by decide)
                            have hk301 : u260 124 0 = (gs u229 125 x238.toInt.toNat x247.toInt) 124 0 := hf262 124 0 (by decide) (by decide) (by decide) (by decide)
                            have hk301 : u260 124 0 = u229 124 0 := by rw [hk301]; simp [gs]
                            have hk302 : u229 124 0 = (gs (gs g 124 0 x222.toInt) 125 x214.toInt.toNat x194.toInt) 124 0 := hf231 124 0 (by decide) (by decide) (by decide) (by decide)
                            have hk302 : u229 124 0 = x222.toInt := by rw [hk302]; simp [gs]
                            exact W.vret hx hb hr (fun t ht hW => ⟨⟨u296, rfl, ⟨(fun c j h115 h116 h117 h118 h119 h120 h124 h125 => by rw [hf298 c j h115 h116 h117 h118, hf262 c j h115 h116 h117 h118, gs_c _ _ _ _ h125, hf231 c j h115 h116 h117 h118, gs_c _ _ _ _ h125, gs_c _ _ _ _ h124]), (by omega)⟩, ok1 ht hG⟩, hS.F ht⟩) hS.2.2 dX9_readStatement_308
                        · skip
                          refine lv_aload_n hx hb dX9_readStatement_292 rfl (lv_at hl 2 rfl) ?_
                          refine ty_iconst hx hb (1) dX9_readStatement_293 (by decide) (fun x303 h304 => ?_)
                          refine cV (va_runV (C := RX9) (As := [.int x303]) (rest := []) ⟨hx, hb, hml, hown, hA⟩ (k_X9_fails l dC dI dA sz X Γ hU u260 h0 t_h0 x303   ) ⟨callB_of 1 hA (al_A wd_5_102) rfl rfl rfl (hA _ wd_1_7) (hA _ wd_5_99) (by decide +kernel) ⟨Nat.le_of_ble_eq_true rfl, Nat.le_of_ble_eq_true rfl⟩, hA _ wd_5_101, hA _ ws_43⟩ ⟨bl, recv_X9 hE hG t_h0, fun U hU9 hW9 => ⟨rfl, by rw [hU9]; exact hG, hE.go hS hU9 hW9⟩⟩ rfl rfl hl.1 rfl (lv_room (Nat.le_of_ble_eq_true rfl)) dX9_readStatement_294 ⟨Nat.zero_le _, Nat.zero_le _⟩) hS (fun u305 H locs w306 hG hS => ?_)
                          obtain ⟨hf307, w306⟩ := w306
                          refine lv_aload_n hx hb dX9_readStatement_297 rfl (lv_at hl 2 rfl) ?_
                          refine get_X9_19 hx hb hA hown hE hG t_h0 wd_4_149 dX9_readStatement_298 (fun x308 h309 => ?_)
                          refine ty_if_ne (tgt := 308) hx hb dX9_readStatement_301 (by decide) (fun c311 => ?_) (fun c311 => ?_)
                          · skip
                            have hk312 : u305 115 0 = u260 115 0 := hf307 115 0 (by decide) (by decide)
                            have hk313 : u305 116 0 = u260 116 0 := hf307 116 0 (by decide) (by decide)
                            have hk314 : u305 124 0 = u260 124 0 := hf307 124 0 (by decide) (by decide)
                            have hk315 : u260 124 0 = (gs u229 125 x238.toInt.toNat x247.toInt) 124 0 := hf262 124 0 (by decide) (by decide) (by decide) (by decide)
                            have hk315 : u260 124 0 = u229 124 0 := by rw [hk315]; simp [gs]
                            have hk316 : u229 124 0 = (gs (gs g 124 0 x222.toInt) 125 x214.toInt.toNat x194.toInt) 124 0 := hf231 124 0 (by decide) (by decide) (by decide) (by decide)
                            have hk316 : u229 124 0 = x222.toInt := by rw [hk316]; simp [gs]
                            exact W.vret hx hb hr (fun t ht hW => ⟨⟨u305, rfl, ⟨(fun c j h115 h116 h117 h118 h119 h120 h124 h125 => by rw [hf307 c j h119 h120, hf262 c j h115 h116 h117 h118, gs_c _ _ _ _ h125, hf231 c j h115 h116 h117 h118, gs_c _ _ _ _ h125, gs_c _ _ _ _ h124]), (by omega)⟩, ok1 ht hG⟩, hS.F ht⟩) hS.2.2 dX9_readStatement_308
                          · skip
                            refine lv_aload_n hx hb dX9_readStatement_304 rfl (lv_at hl 2 rfl) ?_
                            have hk317 : u305 114 0 = u260 114 0 := hf307 114 0 (by decide) (by decide)
                            have hk318 : u260 114 0 = (gs u229 125 x238.toInt.toNat x247.toInt) 114 0 := hf262 114 0 (by decide) (by decide) (by decide) (by decide)
                            have hk318 : u260 114 0 = u229 114 0 := by rw [hk318]; simp [gs]
                            have hk319 : u305 115 0 = u260 115 0 := hf307 115 0 (by decide) (by decide)
                            refine cV (va_runV (C := RX9) (As := []) (rest := []) ⟨hx, hb, hml, hown, hA⟩ (k_X9_next l dC dI dA sz X Γ hU u305 h0 t_h0   (by omega)) ⟨callB_of 0 hA (al_A wd_5_74) rfl rfl rfl (hA _ wd_1_7) (hA _ wd_5_71) (by decide +kernel) ⟨Nat.le_of_ble_eq_true rfl, Nat.le_of_ble_eq_true rfl⟩, hA _ wd_5_73, hA _ ws_39⟩ ⟨bl, recv_X9 hE hG t_h0, fun U hU9 hW9 => ⟨rfl, by rw [hU9]; exact hG, hE.go hS hU9 hW9⟩⟩ rfl rfl hl.1 rfl (lv_room (Nat.le_of_ble_eq_true rfl)) dX9_readStatement_305 ⟨Nat.zero_le _, Nat.zero_le _⟩) hS (fun u320 H locs w321 hG hS => ?_)
                            obtain ⟨hf322, w321⟩ := w321
                            have hk323 : u320 119 0 = u305 119 0 := hf322 119 0 (by decide) (by decide) (by decide) (by decide)
                            have hk324 : u320 124 0 = u305 124 0 := hf322 124 0 (by decide) (by decide) (by decide) (by decide)
                            have hk325 : u305 124 0 = u260 124 0 := hf307 124 0 (by decide) (by decide)
                            have hk326 : u260 124 0 = (gs u229 125 x238.toInt.toNat x247.toInt) 124 0 := hf262 124 0 (by decide) (by decide) (by decide) (by decide)
                            have hk326 : u260 124 0 = u229 124 0 := by rw [hk326]; simp [gs]
                            have hk327 : u229 124 0 = (gs (gs g 124 0 x222.toInt) 125 x214.toInt.toNat x194.toInt) 124 0 := hf231 124 0 (by decide) (by decide) (by decide) (by decide)
                            have hk327 : u229 124 0 = x222.toInt := by rw [hk327]; simp [gs]
                            exact W.vret hx hb hr (fun t ht hW => ⟨⟨u320, rfl, ⟨(fun c j h115 h116 h117 h118 h119 h120 h124 h125 => by rw [hf322 c j h115 h116 h117 h118, hf307 c j h119 h120, hf262 c j h115 h116 h117 h118, gs_c _ _ _ _ h125, hf231 c j h115 h116 h117 h118, gs_c _ _ _ _ h125, gs_c _ _ _ _ h124]), (by omega)⟩, ok1 ht hG⟩, hS.F ht⟩) hS.2.2 dX9_readStatement_308
                    · skip
                      refine lv_aload_n hx hb dX9_readStatement_153 rfl (lv_at hl 2 rfl) ?_
                      refine va_ldcS hx hb hown (hES.1 11 (by decide)).1 dX9_readStatement_154 ?_
                      have e328 : (gs u229 125 x238.toInt.toNat x247.toInt) 114 0 = u229 114 0 := by simp [gs]
                      have e329 : (gs u229 125 x238.toInt.toNat x247.toInt) 115 0 = u229 115 0 := by simp [gs]
                      have e330 : (gs u229 125 x238.toInt.toNat x247.toInt) 116 0 = u229 116 0 := by simp [gs]
                      refine cI (va_runV (C := RX9) (As := [.ref (dI 100 11)]) (rest := []) ⟨hx, hb, hml, hown, hA⟩ (k_X9_isWord l dC dI dA sz X Γ hU (gs u229 125 x238.toInt.toNat x247.toInt) h0 t_h0 11 (by decide)   (by omega)) ⟨callB_of 1 hA (al_A wd_5_93) rfl rfl rfl (hA _ wd_1_7) (hA _ wd_5_90) (by decide +kernel) ⟨Nat.le_of_ble_eq_true rfl, Nat.le_of_ble_eq_true rfl⟩, hA _ wd_5_92, hA _ ws_42⟩ ⟨bl, recv_X9 hE hG t_h0, fun U hU9 hW9 => ⟨rfl, by rw [hU9]; exact hG, hE.go hS hU9 hW9⟩⟩ rfl rfl hl.1 rfl (lv_room (Nat.le_of_ble_eq_true rfl)) dX9_readStatement_156 ⟨Nat.zero_le _, Nat.zero_le _⟩) hS (fun x333 u331 H locs w332 hG hS => ?_)
                      obtain ⟨eu334, w332⟩ := w332
                      rw [eu334] at hG
                      refine ty_if_ne (tgt := 170) hx hb dX9_readStatement_159 (by decide) (fun c335 => ?_) (fun c335 => ?_)
                      · skip
                        refine lv_aload_n hx hb dX9_readStatement_170 rfl (lv_at hl 2 rfl) ?_
                        have e336 : (gs u229 125 x238.toInt.toNat x247.toInt) 114 0 = u229 114 0 := by simp [gs]
                        have e337 : (gs u229 125 x238.toInt.toNat x247.toInt) 115 0 = u229 115 0 := by simp [gs]
                        have e338 : (gs u229 125 x238.toInt.toNat x247.toInt) 114 0 = u229 114 0 := by simp [gs]
                        refine cV (va_runV (C := RX9) (As := []) (rest := []) ⟨hx, hb, hml, hown, hA⟩ (k_X9_next l dC dI dA sz X Γ hU (gs u229 125 x238.toInt.toNat x247.toInt) h0 t_h0   (by omega)) ⟨callB_of 0 hA (al_A wd_5_74) rfl rfl rfl (hA _ wd_1_7) (hA _ wd_5_71) (by decide +kernel) ⟨Nat.le_of_ble_eq_true rfl, Nat.le_of_ble_eq_true rfl⟩, hA _ wd_5_73, hA _ ws_39⟩ ⟨bl, recv_X9 hE hG t_h0, fun U hU9 hW9 => ⟨rfl, by rw [hU9]; exact hG, hE.go hS hU9 hW9⟩⟩ rfl rfl hl.1 rfl (lv_room (Nat.le_of_ble_eq_true rfl)) dX9_readStatement_171 ⟨Nat.zero_le _, Nat.zero_le _⟩) hS (fun u339 H locs w340 hG hS => ?_)
                        obtain ⟨hf341, w340⟩ := w340
                        refine lv_goto (tgt := 277) hx hb dX9_readStatement_174 (by decide) ?_
                        refine lv_aload_n hx hb dX9_readStatement_277 rfl (lv_at hl 2 rfl) ?_
                        refine get_X9_19 hx hb hA hown hE hG t_h0 wd_4_149 dX9_readStatement_278 (fun x342 h343 => ?_)
                        have hk345 : u339 119 0 = (gs u229 125 x238.toInt.toNat x247.toInt) 119 0 := hf341 119 0 (by decide) (by decide) (by decide) (by decide)
                        have hk345 : u339 119 0 = u229 119 0 := by rw [hk345]; simp [gs]
                        have hk346 : u229 119 0 = (gs (gs g 124 0 x222.toInt) 125 x214.toInt.toNat x194.toInt) 119 0 := hf231 119 0 (by decide) (by decide) (by decide) (by decide)
                        have hk346 : u229 119 0 = g 119 0 := by rw [hk346]; simp [gs]
                        refine ty_if_ne (tgt := 297) hx hb dX9_readStatement_281 (by decide) (fun c347 => ?_) (fun c347 => ?_)
                        · skip
                          refine lv_aload_n hx hb dX9_readStatement_297 rfl (lv_at hl 2 rfl) ?_
                          refine get_X9_19 hx hb hA hown hE hG t_h0 wd_4_149 dX9_readStatement_298 (fun x348 h349 => ?_)
                          refine ty_if_ne (tgt := 308) hx hb dX9_readStatement_301 (by decide) (fun c351 => ?_) (fun c351 => ?_)
                          · skip
                            have hk352 : u339 124 0 = (gs u229 125 x238.toInt.toNat x247.toInt) 124 0 := hf341 124 0 (by decide) (by decide) (by decide) (by decide)
                            have hk352 : u339 124 0 = u229 124 0 := by rw [hk352]; simp [gs]
                            have hk353 : u229 124 0 = (gs (gs g 124 0 x222.toInt) 125 x214.toInt.toNat x194.toInt) 124 0 := hf231 124 0 (by decide) (by decide) (by decide) (by decide)
                            have hk353 : u229 124 0 = x222.toInt := by rw [hk353]; simp [gs]
                            exact W.vret hx hb hr (fun t ht hW => ⟨⟨u339, rfl, ⟨(fun c j h115 h116 h117 h118 h119 h120 h124 h125 => by rw [hf341 c j h115 h116 h117 h118, gs_c _ _ _ _ h125, hf231 c j h115 h116 h117 h118, gs_c _ _ _ _ h125, gs_c _ _ _ _ h124]), (by omega)⟩, ok1 ht hG⟩, hS.F ht⟩) hS.2.2 dX9_readStatement_308
                          · skip
                            refine lv_aload_n hx hb dX9_readStatement_304 rfl (lv_at hl 2 rfl) ?_
                            have hk354 : u339 114 0 = (gs u229 125 x238.toInt.toNat x247.toInt) 114 0 := hf341 114 0 (by decide) (by decide) (by decide) (by decide)
                            have hk354 : u339 114 0 = u229 114 0 := by rw [hk354]; simp [gs]
                            refine cV (va_runV (C := RX9) (As := []) (rest := []) ⟨hx, hb, hml, hown, hA⟩ (k_X9_next l dC dI dA sz X Γ hU u339 h0 t_h0   (by omega)) ⟨callB_of 0 hA (al_A wd_5_74) rfl rfl rfl (hA _ wd_1_7) (hA _ wd_5_71) (by decide +kernel) ⟨Nat.le_of_ble_eq_true rfl, Nat.le_of_ble_eq_true rfl⟩, hA _ wd_5_73, hA _ ws_39⟩ ⟨bl, recv_X9 hE hG t_h0, fun U hU9 hW9 => ⟨rfl, by rw [hU9]; exact hG, hE.go hS hU9 hW9⟩⟩ rfl rfl hl.1 rfl (lv_room (Nat.le_of_ble_eq_true rfl)) dX9_readStatement_305 ⟨Nat.zero_le _, Nat.zero_le _⟩) hS (fun u355 H locs w356 hG hS => ?_)
                            obtain ⟨hf357, w356⟩ := w356
                            have hk358 : u355 119 0 = u339 119 0 := hf357 119 0 (by decide) (by decide) (by decide) (by decide)
                            have hk359 : u355 124 0 = u339 124 0 := hf357 124 0 (by decide) (by decide) (by decide) (by decide)
                            have hk360 : u339 124 0 = (gs u229 125 x238.toInt.toNat x247.toInt) 124 0 := hf341 124 0 (by decide) (by decide) (by decide) (by decide)
                            have hk360 : u339 124 0 = u229 124 0 := by rw [hk360]; simp [gs]
                            have hk361 : u229 124 0 = (gs (gs g 124 0 x222.toInt) 125 x214.toInt.toNat x194.toInt) 124 0 := hf231 124 0 (by decide) (by decide) (by decide) (by decide)
                            have hk361 : u229 124 0 = x222.toInt := by rw [hk361]; simp [gs]
                            exact W.vret hx hb hr (fun t ht hW => ⟨⟨u355, rfl, ⟨(fun c j h115 h116 h117 h118 h119 h120 h124 h125 => by rw [hf357 c j h115 h116 h117 h118, hf341 c j h115 h116 h117 h118, gs_c _ _ _ _ h125, hf231 c j h115 h116 h117 h118, gs_c _ _ _ _ h125, gs_c _ _ _ _ h124]), (by omega)⟩, ok1 ht hG⟩, hS.F ht⟩) hS.2.2 dX9_readStatement_308
                        · skip
                          refine lv_aload_n hx hb dX9_readStatement_284 rfl (lv_at hl 2 rfl) ?_
                          refine get_X9_17 hx hb hA hown hE hG t_h0 wd_4_147 dX9_readStatement_285 (fun x362 h363 => ?_)
                          refine ty_iconst hx hb (4) dX9_readStatement_288 (by decide) (fun x365 h366 => ?_)
                          refine ty_icmp_eq (tgt := 297) hx hb dX9_readStatement_289 (by decide) (fun c367 => ?_) (fun c367 => ?_)
                          · skip
                            refine lv_aload_n hx hb dX9_readStatement_297 rfl (lv_at hl 2 rfl) ?_
                            refine get_X9_19 hx hb hA hown hE hG t_h0 wd_4_149 dX9_readStatement_298 (fun x368 h369 => ?_)
                            refine ty_if_ne (tgt := 308) hx hb dX9_readStatement_301 (by decide) (fun c371 => ?_) (fun c371 => ?_)
                            · skip
                              have hk372 : u339 124 0 = (gs u229 125 x238.toInt.toNat x247.toInt) 124 0 := hf341 124 0 (by decide) (by decide) (by decide) (by decide)
                              have hk372 : u339 124 0 = u229 124 0 := by rw [hk372]; simp [gs]
                              have hk373 : u229 124 0 = (gs (gs g 124 0 x222.toInt) 125 x214.toInt.toNat x194.toInt) 124 0 := hf231 124 0 (by decide) (by decide) (by decide) (by decide)
                              have hk373 : u229 124 0 = x222.toInt := by rw [hk373]; simp [gs]
                              exact W.vret hx hb hr (fun t ht hW => ⟨⟨u339, rfl, ⟨(fun c j h115 h116 h117 h118 h119 h120 h124 h125 => by rw [hf341 c j h115 h116 h117 h118, gs_c _ _ _ _ h125, hf231 c j h115 h116 h117 h118, gs_c _ _ _ _ h125, gs_c _ _ _ _ h124]), (by omega)⟩, ok1 ht hG⟩, hS.F ht⟩) hS.2.2 dX9_readStatement_308
                            · skip
                              refine lv_aload_n hx hb dX9_readStatement_304 rfl (lv_at hl 2 rfl) ?_
                              have hk374 : u339 114 0 = (gs u229 125 x238.toInt.toNat x247.toInt) 114 0 := hf341 114 0 (by decide) (by decide) (by decide) (by decide)
                              have hk374 : u339 114 0 = u229 114 0 := by rw [hk374]; simp [gs]
                              refine cV (va_runV (C := RX9) (As := []) (rest := []) ⟨hx, hb, hml, hown, hA⟩ (k_X9_next l dC dI dA sz X Γ hU u339 h0 t_h0   (by omega)) ⟨callB_of 0 hA (al_A wd_5_74) rfl rfl rfl (hA _ wd_1_7) (hA _ wd_5_71) (by decide +kernel) ⟨Nat.le_of_ble_eq_true rfl, Nat.le_of_ble_eq_true rfl⟩, hA _ wd_5_73, hA _ ws_39⟩ ⟨bl, recv_X9 hE hG t_h0, fun U hU9 hW9 => ⟨rfl, by rw [hU9]; exact hG, hE.go hS hU9 hW9⟩⟩ rfl rfl hl.1 rfl (lv_room (Nat.le_of_ble_eq_true rfl)) dX9_readStatement_305 ⟨Nat.zero_le _, Nat.zero_le _⟩) hS (fun u375 H locs w376 hG hS => ?_)
                              obtain ⟨hf377, w376⟩ := w376
                              have hk378 : u375 119 0 = u339 119 0 := hf377 119 0 (by decide) (by decide) (by decide) (by decide)
                              have hk379 : u375 124 0 = u339 124 0 := hf377 124 0 (by decide) (by decide) (by decide) (by decide)
                              have hk380 : u339 124 0 = (gs u229 125 x238.toInt.toNat x247.toInt) 124 0 := hf341 124 0 (by decide) (by decide) (by decide) (by decide)
                              have hk380 : u339 124 0 = u229 124 0 := by rw [hk380]; simp [gs]
                              have hk381 : u229 124 0 = (gs (gs g 124 0 x222.toInt) 125 x214.toInt.toNat x194.toInt) 124 0 := hf231 124 0 (by decide) (by decide) (by decide) (by decide)
                              have hk381 : u229 124 0 = x222.toInt := by rw [hk381]; simp [gs]
                              exact W.vret hx hb hr (fun t ht hW => ⟨⟨u375, rfl, ⟨(fun c j h115 h116 h117 h118 h119 h120 h124 h125 => by rw [hf377 c j h115 h116 h117 h118, hf341 c j h115 h116 h117 h118, gs_c _ _ _ _ h125, hf231 c j h115 h116 h117 h118, gs_c _ _ _ _ h125, gs_c _ _ _ _ h124]), (by omega)⟩, ok1 ht hG⟩, hS.F ht⟩) hS.2.2 dX9_readStatement_308
                          · skip
                            refine lv_aload_n hx hb dX9_readStatement_292 rfl (lv_at hl 2 rfl) ?_
                            refine ty_iconst hx hb (1) dX9_readStatement_293 (by decide) (fun x382 h383 => ?_)
                            refine cV (va_runV (C := RX9) (As := [.int x382]) (rest := []) ⟨hx, hb, hml, hown, hA⟩ (k_X9_fails l dC dI dA sz X Γ hU u339 h0 t_h0 x382   ) ⟨callB_of 1 hA (al_A wd_5_102) rfl rfl rfl (hA _ wd_1_7) (hA _ wd_5_99) (by decide +kernel) ⟨Nat.le_of_ble_eq_true rfl, Nat.le_of_ble_eq_true rfl⟩, hA _ wd_5_101, hA _ ws_43⟩ ⟨bl, recv_X9 hE hG t_h0, fun U hU9 hW9 => ⟨rfl, by rw [hU9]; exact hG, hE.go hS hU9 hW9⟩⟩ rfl rfl hl.1 rfl (lv_room (Nat.le_of_ble_eq_true rfl)) dX9_readStatement_294 ⟨Nat.zero_le _, Nat.zero_le _⟩) hS (fun u384 H locs w385 hG hS => ?_)
                            obtain ⟨hf386, w385⟩ := w385
                            refine lv_aload_n hx hb dX9_readStatement_297 rfl (lv_at hl 2 rfl) ?_
                            refine get_X9_19 hx hb hA hown hE hG t_h0 wd_4_149 dX9_readStatement_298 (fun x387 h388 => ?_)
                            refine ty_if_ne (tgt := 308) hx hb dX9_readStatement_301 (by decide) (fun c390 => ?_) (fun c390 => ?_)
                            · skip
                              have hk391 : u384 115 0 = u339 115 0 := hf386 115 0 (by decide) (by decide)
                              have hk392 : u384 116 0 = u339 116 0 := hf386 116 0 (by decide) (by decide)
                              have hk393 : u384 124 0 = u339 124 0 := hf386 124 0 (by decide) (by decide)
                              have hk394 : u339 124 0 = (gs u229 125 x238.toInt.toNat x247.toInt) 124 0 := hf341 124 0 (by decide) (by decide) (by decide) (by decide)
                              have hk394 : u339 124 0 = u229 124 0 := by rw [hk394]; simp [gs]
                              have hk395 : u229 124 0 = (gs (gs g 124 0 x222.toInt) 125 x214.toInt.toNat x194.toInt) 124 0 := hf231 124 0 (by decide) (by decide) (by decide) (by decide)
                              have hk395 : u229 124 0 = x222.toInt := by rw [hk395]; simp [gs]
                              exact W.vret hx hb hr (fun t ht hW => ⟨⟨u384, rfl, ⟨(fun c j h115 h116 h117 h118 h119 h120 h124 h125 => by rw [hf386 c j h119 h120, hf341 c j h115 h116 h117 h118, gs_c _ _ _ _ h125, hf231 c j h115 h116 h117 h118, gs_c _ _ _ _ h125, gs_c _ _ _ _ h124]), (by omega)⟩, ok1 ht hG⟩, hS.F ht⟩) hS.2.2 dX9_readStatement_308
                            · skip
                              refine lv_aload_n hx hb dX9_readStatement_304 rfl (lv_at hl 2 rfl) ?_
                              have hk396 : u384 114 0 = u339 114 0 := hf386 114 0 (by decide) (by decide)
                              have hk397 : u339 114 0 = (gs u229 125 x238.toInt.toNat x247.toInt) 114 0 := hf341 114 0 (by decide) (by decide) (by decide) (by decide)
                              have hk397 : u339 114 0 = u229 114 0 := by rw [hk397]; simp [gs]
                              have hk398 : u384 115 0 = u339 115 0 := hf386 115 0 (by decide) (by decide)
                              refine cV (va_runV (C := RX9) (As := []) (rest := []) ⟨hx, hb, hml, hown, hA⟩ (k_X9_next l dC dI dA sz X Γ hU u384 h0 t_h0   (by omega)) ⟨callB_of 0 hA (al_A wd_5_74) rfl rfl rfl (hA _ wd_1_7) (hA _ wd_5_71) (by decide +kernel) ⟨Nat.le_of_ble_eq_true rfl, Nat.le_of_ble_eq_true rfl⟩, hA _ wd_5_73, hA _ ws_39⟩ ⟨bl, recv_X9 hE hG t_h0, fun U hU9 hW9 => ⟨rfl, by rw [hU9]; exact hG, hE.go hS hU9 hW9⟩⟩ rfl rfl hl.1 rfl (lv_room (Nat.le_of_ble_eq_true rfl)) dX9_readStatement_305 ⟨Nat.zero_le _, Nat.zero_le _⟩) hS (fun u399 H locs w400 hG hS => ?_)
                              obtain ⟨hf401, w400⟩ := w400
                              have hk402 : u399 119 0 = u384 119 0 := hf401 119 0 (by decide) (by decide) (by decide) (by decide)
                              have hk403 : u399 124 0 = u384 124 0 := hf401 124 0 (by decide) (by decide) (by decide) (by decide)
                              have hk404 : u384 124 0 = u339 124 0 := hf386 124 0 (by decide) (by decide)
                              have hk405 : u339 124 0 = (gs u229 125 x238.toInt.toNat x247.toInt) 124 0 := hf341 124 0 (by decide) (by decide) (by decide) (by decide)
                              have hk405 : u339 124 0 = u229 124 0 := by rw [hk405]; simp [gs]
                              have hk406 : u229 124 0 = (gs (gs g 124 0 x222.toInt) 125 x214.toInt.toNat x194.toInt) 124 0 := hf231 124 0 (by decide) (by decide) (by decide) (by decide)
                              have hk406 : u229 124 0 = x222.toInt := by rw [hk406]; simp [gs]
                              exact W.vret hx hb hr (fun t ht hW => ⟨⟨u399, rfl, ⟨(fun c j h115 h116 h117 h118 h119 h120 h124 h125 => by rw [hf401 c j h115 h116 h117 h118, hf386 c j h119 h120, hf341 c j h115 h116 h117 h118, gs_c _ _ _ _ h125, hf231 c j h115 h116 h117 h118, gs_c _ _ _ _ h125, gs_c _ _ _ _ h124]), (by omega)⟩, ok1 ht hG⟩, hS.F ht⟩) hS.2.2 dX9_readStatement_308
                      · skip
                        refine lv_aload_n hx hb dX9_readStatement_162 rfl (lv_at hl 2 rfl) ?_
                        refine ty_iconst hx hb (1) dX9_readStatement_163 (by decide) (fun x407 h408 => ?_)
                        have hk409 : u229 119 0 = (gs (gs g 124 0 x222.toInt) 125 x214.toInt.toNat x194.toInt) 119 0 := hf231 119 0 (by decide) (by decide) (by decide) (by decide)
                        have hk409 : u229 119 0 = g 119 0 := by rw [hk409]; simp [gs]
                        have e410 : (gs u229 125 x238.toInt.toNat x247.toInt) 119 0 = u229 119 0 := by simp [gs]
                        have e411 : (gs u229 125 x238.toInt.toNat x247.toInt) 119 0 = u229 119 0 := by simp [gs]
                        refine cV (va_runV (C := RX9) (As := [.int x407]) (rest := []) ⟨hx, hb, hml, hown, hA⟩ (k_X9_fails l dC dI dA sz X Γ hU (gs u229 125 x238.toInt.toNat x247.toInt) h0 t_h0 x407   ) ⟨callB_of 1 hA (al_A wd_5_102) rfl rfl rfl (hA _ wd_1_7) (hA _ wd_5_99) (by decide +kernel) ⟨Nat.le_of_ble_eq_true rfl, Nat.le_of_ble_eq_true rfl⟩, hA _ wd_5_101, hA _ ws_43⟩ ⟨bl, recv_X9 hE hG t_h0, fun U hU9 hW9 => ⟨rfl, by rw [hU9]; exact hG, hE.go hS hU9 hW9⟩⟩ rfl rfl hl.1 rfl (lv_room (Nat.le_of_ble_eq_true rfl)) dX9_readStatement_164 ⟨Nat.zero_le _, Nat.zero_le _⟩) hS (fun u412 H locs w413 hG hS => ?_)
                        obtain ⟨hf414, w413⟩ := w413
                        refine lv_goto (tgt := 277) hx hb dX9_readStatement_167 (by decide) ?_
                        refine lv_aload_n hx hb dX9_readStatement_277 rfl (lv_at hl 2 rfl) ?_
                        refine get_X9_19 hx hb hA hown hE hG t_h0 wd_4_149 dX9_readStatement_278 (fun x415 h416 => ?_)
                        refine ty_if_ne (tgt := 297) hx hb dX9_readStatement_281 (by decide) (fun c418 => ?_) (fun c418 => ?_)
                        · skip
                          refine lv_aload_n hx hb dX9_readStatement_297 rfl (lv_at hl 2 rfl) ?_
                          refine get_X9_19 hx hb hA hown hE hG t_h0 wd_4_149 dX9_readStatement_298 (fun x419 h420 => ?_)
                          refine ty_if_ne (tgt := 308) hx hb dX9_readStatement_301 (by decide) (fun c422 => ?_) (fun c422 => ?_)
                          · skip
                            have hk423 : u412 115 0 = (gs u229 125 x238.toInt.toNat x247.toInt) 115 0 := hf414 115 0 (by decide) (by decide)
                            have hk423 : u412 115 0 = u229 115 0 := by rw [hk423]; simp [gs]
                            have hk424 : u412 116 0 = (gs u229 125 x238.toInt.toNat x247.toInt) 116 0 := hf414 116 0 (by decide) (by decide)
                            have hk424 : u412 116 0 = u229 116 0 := by rw [hk424]; simp [gs]
                            have hk425 : u412 124 0 = (gs u229 125 x238.toInt.toNat x247.toInt) 124 0 := hf414 124 0 (by decide) (by decide)
                            have hk425 : u412 124 0 = u229 124 0 := by rw [hk425]; simp [gs]
                            have hk426 : u229 124 0 = (gs (gs g 124 0 x222.toInt) 125 x214.toInt.toNat x194.toInt) 124 0 := hf231 124 0 (by decide) (by decide) (by decide) (by decide)
                            have hk426 : u229 124 0 = x222.toInt := by rw [hk426]; simp [gs]
                            exact W.vret hx hb hr (fun t ht hW => ⟨⟨u412, rfl, ⟨(fun c j h115 h116 h117 h118 h119 h120 h124 h125 => by rw [hf414 c j h119 h120, gs_c _ _ _ _ h125, hf231 c j h115 h116 h117 h118, gs_c _ _ _ _ h125, gs_c _ _ _ _ h124]), (by omega)⟩, ok1 ht hG⟩, hS.F ht⟩) hS.2.2 dX9_readStatement_308
                          · skip
                            refine lv_aload_n hx hb dX9_readStatement_304 rfl (lv_at hl 2 rfl) ?_
                            have hk427 : u412 114 0 = (gs u229 125 x238.toInt.toNat x247.toInt) 114 0 := hf414 114 0 (by decide) (by decide)
                            have hk427 : u412 114 0 = u229 114 0 := by rw [hk427]; simp [gs]
                            have hk428 : u412 115 0 = (gs u229 125 x238.toInt.toNat x247.toInt) 115 0 := hf414 115 0 (by decide) (by decide)
                            have hk428 : u412 115 0 = u229 115 0 := by rw [hk428]; simp [gs]
                            refine cV (va_runV (C := RX9) (As := []) (rest := []) ⟨hx, hb, hml, hown, hA⟩ (k_X9_next l dC dI dA sz X Γ hU u412 h0 t_h0   (by omega)) ⟨callB_of 0 hA (al_A wd_5_74) rfl rfl rfl (hA _ wd_1_7) (hA _ wd_5_71) (by decide +kernel) ⟨Nat.le_of_ble_eq_true rfl, Nat.le_of_ble_eq_true rfl⟩, hA _ wd_5_73, hA _ ws_39⟩ ⟨bl, recv_X9 hE hG t_h0, fun U hU9 hW9 => ⟨rfl, by rw [hU9]; exact hG, hE.go hS hU9 hW9⟩⟩ rfl rfl hl.1 rfl (lv_room (Nat.le_of_ble_eq_true rfl)) dX9_readStatement_305 ⟨Nat.zero_le _, Nat.zero_le _⟩) hS (fun u429 H locs w430 hG hS => ?_)
                            obtain ⟨hf431, w430⟩ := w430
                            have hk432 : u429 119 0 = u412 119 0 := hf431 119 0 (by decide) (by decide) (by decide) (by decide)
                            have hk433 : u429 124 0 = u412 124 0 := hf431 124 0 (by decide) (by decide) (by decide) (by decide)
                            have hk434 : u412 124 0 = (gs u229 125 x238.toInt.toNat x247.toInt) 124 0 := hf414 124 0 (by decide) (by decide)
                            have hk434 : u412 124 0 = u229 124 0 := by rw [hk434]; simp [gs]
                            have hk435 : u229 124 0 = (gs (gs g 124 0 x222.toInt) 125 x214.toInt.toNat x194.toInt) 124 0 := hf231 124 0 (by decide) (by decide) (by decide) (by decide)
                            have hk435 : u229 124 0 = x222.toInt := by rw [hk435]; simp [gs]
                            exact W.vret hx hb hr (fun t ht hW => ⟨⟨u429, rfl, ⟨(fun c j h115 h116 h117 h118 h119 h120 h124 h125 => by rw [hf431 c j h115 h116 h117 h118, hf414 c j h119 h120, gs_c _ _ _ _ h125, hf231 c j h115 h116 h117 h118, gs_c _ _ _ _ h125, gs_c _ _ _ _ h124]), (by omega)⟩, ok1 ht hG⟩, hS.F ht⟩) hS.2.2 dX9_readStatement_308
                        · skip
                          refine lv_aload_n hx hb dX9_readStatement_284 rfl (lv_at hl 2 rfl) ?_
                          refine get_X9_17 hx hb hA hown hE hG t_h0 wd_4_147 dX9_readStatement_285 (fun x436 h437 => ?_)
                          have hk439 : u412 117 0 = (gs u229 125 x238.toInt.toNat x247.toInt) 117 0 := hf414 117 0 (by decide) (by decide)
                          have hk439 : u412 117 0 = u229 117 0 := by rw [hk439]; simp [gs]
                          refine ty_iconst hx hb (4) dX9_readStatement_288 (by decide) (fun x440 h441 => ?_)
                          refine ty_icmp_eq (tgt := 297) hx hb dX9_readStatement_289 (by decide) (fun c442 => ?_) (fun c442 => ?_)
                          · skip
                            refine lv_aload_n hx hb dX9_readStatement_297 rfl (lv_at hl 2 rfl) ?_
                            refine get_X9_19 hx hb hA hown hE hG t_h0 wd_4_149 dX9_readStatement_298 (fun x443 h444 => ?_)
                            refine ty_if_ne (tgt := 308) hx hb dX9_readStatement_301 (by decide) (fun c446 => ?_) (fun c446 => ?_)
                            · skip
                              have hk447 : u412 115 0 = (gs u229 125 x238.toInt.toNat x247.toInt) 115 0 := hf414 115 0 (by decide) (by decide)
                              have hk447 : u412 115 0 = u229 115 0 := by rw [hk447]; simp [gs]
                              have hk448 : u412 116 0 = (gs u229 125 x238.toInt.toNat x247.toInt) 116 0 := hf414 116 0 (by decide) (by decide)
                              have hk448 : u412 116 0 = u229 116 0 := by rw [hk448]; simp [gs]
                              have hk449 : u412 124 0 = (gs u229 125 x238.toInt.toNat x247.toInt) 124 0 := hf414 124 0 (by decide) (by decide)
                              have hk449 : u412 124 0 = u229 124 0 := by rw [hk449]; simp [gs]
                              have hk450 : u229 124 0 = (gs (gs g 124 0 x222.toInt) 125 x214.toInt.toNat x194.toInt) 124 0 := hf231 124 0 (by decide) (by decide) (by decide) (by decide)
                              have hk450 : u229 124 0 = x222.toInt := by rw [hk450]; simp [gs]
                              exact W.vret hx hb hr (fun t ht hW => ⟨⟨u412, rfl, ⟨(fun c j h115 h116 h117 h118 h119 h120 h124 h125 => by rw [hf414 c j h119 h120, gs_c _ _ _ _ h125, hf231 c j h115 h116 h117 h118, gs_c _ _ _ _ h125, gs_c _ _ _ _ h124]), (by omega)⟩, ok1 ht hG⟩, hS.F ht⟩) hS.2.2 dX9_readStatement_308
                            · skip
                              refine lv_aload_n hx hb dX9_readStatement_304 rfl (lv_at hl 2 rfl) ?_
                              have hk451 : u412 114 0 = (gs u229 125 x238.toInt.toNat x247.toInt) 114 0 := hf414 114 0 (by decide) (by decide)
                              have hk451 : u412 114 0 = u229 114 0 := by rw [hk451]; simp [gs]
                              have hk452 : u412 115 0 = (gs u229 125 x238.toInt.toNat x247.toInt) 115 0 := hf414 115 0 (by decide) (by decide)
                              have hk452 : u412 115 0 = u229 115 0 := by rw [hk452]; simp [gs]
                              refine cV (va_runV (C := RX9) (As := []) (rest := []) ⟨hx, hb, hml, hown, hA⟩ (k_X9_next l dC dI dA sz X Γ hU u412 h0 t_h0   (by omega)) ⟨callB_of 0 hA (al_A wd_5_74) rfl rfl rfl (hA _ wd_1_7) (hA _ wd_5_71) (by decide +kernel) ⟨Nat.le_of_ble_eq_true rfl, Nat.le_of_ble_eq_true rfl⟩, hA _ wd_5_73, hA _ ws_39⟩ ⟨bl, recv_X9 hE hG t_h0, fun U hU9 hW9 => ⟨rfl, by rw [hU9]; exact hG, hE.go hS hU9 hW9⟩⟩ rfl rfl hl.1 rfl (lv_room (Nat.le_of_ble_eq_true rfl)) dX9_readStatement_305 ⟨Nat.zero_le _, Nat.zero_le _⟩) hS (fun u453 H locs w454 hG hS => ?_)
                              obtain ⟨hf455, w454⟩ := w454
                              have hk456 : u453 119 0 = u412 119 0 := hf455 119 0 (by decide) (by decide) (by decide) (by decide)
                              have hk457 : u453 124 0 = u412 124 0 := hf455 124 0 (by decide) (by decide) (by decide) (by decide)
                              have hk458 : u412 124 0 = (gs u229 125 x238.toInt.toNat x247.toInt) 124 0 := hf414 124 0 (by decide) (by decide)
                              have hk458 : u412 124 0 = u229 124 0 := by rw [hk458]; simp [gs]
                              have hk459 : u229 124 0 = (gs (gs g 124 0 x222.toInt) 125 x214.toInt.toNat x194.toInt) 124 0 := hf231 124 0 (by decide) (by decide) (by decide) (by decide)
                              have hk459 : u229 124 0 = x222.toInt := by rw [hk459]; simp [gs]
                              exact W.vret hx hb hr (fun t ht hW => ⟨⟨u453, rfl, ⟨(fun c j h115 h116 h117 h118 h119 h120 h124 h125 => by rw [hf455 c j h115 h116 h117 h118, hf414 c j h119 h120, gs_c _ _ _ _ h125, hf231 c j h115 h116 h117 h118, gs_c _ _ _ _ h125, gs_c _ _ _ _ h124]), (by omega)⟩, ok1 ht hG⟩, hS.F ht⟩) hS.2.2 dX9_readStatement_308
                          · skip
                            refine lv_aload_n hx hb dX9_readStatement_292 rfl (lv_at hl 2 rfl) ?_
                            refine ty_iconst hx hb (1) dX9_readStatement_293 (by decide) (fun x460 h461 => ?_)
                            refine cV (va_runV (C := RX9) (As := [.int x460]) (rest := []) ⟨hx, hb, hml, hown, hA⟩ (k_X9_fails l dC dI dA sz X Γ hU u412 h0 t_h0 x460   ) ⟨callB_of 1 hA (al_A wd_5_102) rfl rfl rfl (hA _ wd_1_7) (hA _ wd_5_99) (by decide +kernel) ⟨Nat.le_of_ble_eq_true rfl, Nat.le_of_ble_eq_true rfl⟩, hA _ wd_5_101, hA _ ws_43⟩ ⟨bl, recv_X9 hE hG t_h0, fun U hU9 hW9 => ⟨rfl, by rw [hU9]; exact hG, hE.go hS hU9 hW9⟩⟩ rfl rfl hl.1 rfl (lv_room (Nat.le_of_ble_eq_true rfl)) dX9_readStatement_294 ⟨Nat.zero_le _, Nat.zero_le _⟩) hS (fun u462 H locs w463 hG hS => ?_)
                            obtain ⟨hf464, w463⟩ := w463
                            refine lv_aload_n hx hb dX9_readStatement_297 rfl (lv_at hl 2 rfl) ?_
                            refine get_X9_19 hx hb hA hown hE hG t_h0 wd_4_149 dX9_readStatement_298 (fun x465 h466 => ?_)
                            refine ty_if_ne (tgt := 308) hx hb dX9_readStatement_301 (by decide) (fun c468 => ?_) (fun c468 => ?_)
                            · skip
                              have hk469 : u462 115 0 = u412 115 0 := hf464 115 0 (by decide) (by decide)
                              have hk470 : u412 115 0 = (gs u229 125 x238.toInt.toNat x247.toInt) 115 0 := hf414 115 0 (by decide) (by decide)
                              have hk470 : u412 115 0 = u229 115 0 := by rw [hk470]; simp [gs]
                              have hk471 : u462 116 0 = u412 116 0 := hf464 116 0 (by decide) (by decide)
                              have hk472 : u412 116 0 = (gs u229 125 x238.toInt.toNat x247.toInt) 116 0 := hf414 116 0 (by decide) (by decide)
                              have hk472 : u412 116 0 = u229 116 0 := by rw [hk472]; simp [gs]
                              have hk473 : u462 124 0 = u412 124 0 := hf464 124 0 (by decide) (by decide)
                              have hk474 : u412 124 0 = (gs u229 125 x238.toInt.toNat x247.toInt) 124 0 := hf414 124 0 (by decide) (by decide)
                              have hk474 : u412 124 0 = u229 124 0 := by rw [hk474]; simp [gs]
                              have hk475 : u229 124 0 = (gs (gs g 124 0 x222.toInt) 125 x214.toInt.toNat x194.toInt) 124 0 := hf231 124 0 (by decide) (by decide) (by decide) (by decide)
                              have hk475 : u229 124 0 = x222.toInt := by rw [hk475]; simp [gs]
                              exact W.vret hx hb hr (fun t ht hW => ⟨⟨u462, rfl, ⟨(fun c j h115 h116 h117 h118 h119 h120 h124 h125 => by rw [hf464 c j h119 h120, hf414 c j h119 h120, gs_c _ _ _ _ h125, hf231 c j h115 h116 h117 h118, gs_c _ _ _ _ h125, gs_c _ _ _ _ h124]), (by omega)⟩, ok1 ht hG⟩, hS.F ht⟩) hS.2.2 dX9_readStatement_308
                            · skip
                              refine lv_aload_n hx hb dX9_readStatement_304 rfl (lv_at hl 2 rfl) ?_
                              have hk476 : u462 114 0 = u412 114 0 := hf464 114 0 (by decide) (by decide)
                              have hk477 : u412 114 0 = (gs u229 125 x238.toInt.toNat x247.toInt) 114 0 := hf414 114 0 (by decide) (by decide)
                              have hk477 : u412 114 0 = u229 114 0 := by rw [hk477]; simp [gs]
                              have hk478 : u462 115 0 = u412 115 0 := hf464 115 0 (by decide) (by decide)
                              have hk479 : u412 115 0 = (gs u229 125 x238.toInt.toNat x247.toInt) 115 0 := hf414 115 0 (by decide) (by decide)
                              have hk479 : u412 115 0 = u229 115 0 := by rw [hk479]; simp [gs]
                              refine cV (va_runV (C := RX9) (As := []) (rest := []) ⟨hx, hb, hml, hown, hA⟩ (k_X9_next l dC dI dA sz X Γ hU u462 h0 t_h0   (by omega)) ⟨callB_of 0 hA (al_A wd_5_74) rfl rfl rfl (hA _ wd_1_7) (hA _ wd_5_71) (by decide +kernel) ⟨Nat.le_of_ble_eq_true rfl, Nat.le_of_ble_eq_true rfl⟩, hA _ wd_5_73, hA _ ws_39⟩ ⟨bl, recv_X9 hE hG t_h0, fun U hU9 hW9 => ⟨rfl, by rw [hU9]; exact hG, hE.go hS hU9 hW9⟩⟩ rfl rfl hl.1 rfl (lv_room (Nat.le_of_ble_eq_true rfl)) dX9_readStatement_305 ⟨Nat.zero_le _, Nat.zero_le _⟩) hS (fun u480 H locs w481 hG hS => ?_)
                              obtain ⟨hf482, w481⟩ := w481
                              have hk483 : u480 119 0 = u462 119 0 := hf482 119 0 (by decide) (by decide) (by decide) (by decide)
                              have hk484 : u480 124 0 = u462 124 0 := hf482 124 0 (by decide) (by decide) (by decide) (by decide)
                              have hk485 : u462 124 0 = u412 124 0 := hf464 124 0 (by decide) (by decide)
                              have hk486 : u412 124 0 = (gs u229 125 x238.toInt.toNat x247.toInt) 124 0 := hf414 124 0 (by decide) (by decide)
                              have hk486 : u412 124 0 = u229 124 0 := by rw [hk486]; simp [gs]
                              have hk487 : u229 124 0 = (gs (gs g 124 0 x222.toInt) 125 x214.toInt.toNat x194.toInt) 124 0 := hf231 124 0 (by decide) (by decide) (by decide) (by decide)
                              have hk487 : u229 124 0 = x222.toInt := by rw [hk487]; simp [gs]
                              exact W.vret hx hb hr (fun t ht hW => ⟨⟨u480, rfl, ⟨(fun c j h115 h116 h117 h118 h119 h120 h124 h125 => by rw [hf482 c j h115 h116 h117 h118, hf464 c j h119 h120, hf414 c j h119 h120, gs_c _ _ _ _ h125, hf231 c j h115 h116 h117 h118, gs_c _ _ _ _ h125, gs_c _ _ _ _ h124]), (by omega)⟩, ok1 ht hG⟩, hS.F ht⟩) hS.2.2 dX9_readStatement_308
                  · skip
                    refine ty_iconst hx hb (1) dX9_readStatement_138 (by decide) (fun x488 h489 => ?_)
                    refine lv_goto (tgt := 143) hx hb dX9_readStatement_139 (by decide) ?_
                    refine ast_mI hx hb hE hG hS hU 25 rfl (n := 120) rfl (lo := -2147483648) (hi := 2147483647) rfl rfl rfl t_b235 (rgD _) (by omega) dX9_readStatement_143 (fun H locs hG hS => ?_)
                    refine lv_aload_n hx hb dX9_readStatement_144 rfl (lv_at hl 2 rfl) ?_
                    refine va_ldcS hx hb hown (hES.1 10 (by decide)).1 dX9_readStatement_145 ?_
                    have e490 : (gs u229 125 x238.toInt.toNat x488.toInt) 114 0 = u229 114 0 := by simp [gs]
                    have e491 : (gs u229 125 x238.toInt.toNat x488.toInt) 115 0 = u229 115 0 := by simp [gs]
                    have e492 : (gs u229 125 x238.toInt.toNat x488.toInt) 116 0 = u229 116 0 := by simp [gs]
                    refine cI (va_runV (C := RX9) (As := [.ref (dI 100 10)]) (rest := []) ⟨hx, hb, hml, hown, hA⟩ (k_X9_isWord l dC dI dA sz X Γ hU (gs u229 125 x238.toInt.toNat x488.toInt) h0 t_h0 10 (by decide)   (by omega)) ⟨callB_of 1 hA (al_A wd_5_93) rfl rfl rfl (hA _ wd_1_7) (hA _ wd_5_90) (by decide +kernel) ⟨Nat.le_of_ble_eq_true rfl, Nat.le_of_ble_eq_true rfl⟩, hA _ wd_5_92, hA _ ws_42⟩ ⟨bl, recv_X9 hE hG t_h0, fun U hU9 hW9 => ⟨rfl, by rw [hU9]; exact hG, hE.go hS hU9 hW9⟩⟩ rfl rfl hl.1 rfl (lv_room (Nat.le_of_ble_eq_true rfl)) dX9_readStatement_147 ⟨Nat.zero_le _, Nat.zero_le _⟩) hS (fun x495 u493 H locs w494 hG hS => ?_)
                    obtain ⟨eu496, w494⟩ := w494
                    rw [eu496] at hG
                    refine ty_if_ne (tgt := 170) hx hb dX9_readStatement_150 (by decide) (fun c497 => ?_) (fun c497 => ?_)
                    · skip
                      refine lv_aload_n hx hb dX9_readStatement_170 rfl (lv_at hl 2 rfl) ?_
                      have e498 : (gs u229 125 x238.toInt.toNat x488.toInt) 114 0 = u229 114 0 := by simp [gs]
                      have e499 : (gs u229 125 x238.toInt.toNat x488.toInt) 115 0 = u229 115 0 := by simp [gs]
                      have e500 : (gs u229 125 x238.toInt.toNat x488.toInt) 114 0 = u229 114 0 := by simp [gs]
                      refine cV (va_runV (C := RX9) (As := []) (rest := []) ⟨hx, hb, hml, hown, hA⟩ (k_X9_next l dC dI dA sz X Γ hU (gs u229 125 x238.toInt.toNat x488.toInt) h0 t_h0   (by omega)) ⟨callB_of 0 hA (al_A wd_5_74) rfl rfl rfl (hA _ wd_1_7) (hA _ wd_5_71) (by decide +kernel) ⟨Nat.le_of_ble_eq_true rfl, Nat.le_of_ble_eq_true rfl⟩, hA _ wd_5_73, hA _ ws_39⟩ ⟨bl, recv_X9 hE hG t_h0, fun U hU9 hW9 => ⟨rfl, by rw [hU9]; exact hG, hE.go hS hU9 hW9⟩⟩ rfl rfl hl.1 rfl (lv_room (Nat.le_of_ble_eq_true rfl)) dX9_readStatement_171 ⟨Nat.zero_le _, Nat.zero_le _⟩) hS (fun u501 H locs w502 hG hS => ?_)
                      obtain ⟨hf503, w502⟩ := w502
                      refine lv_goto (tgt := 277) hx hb dX9_readStatement_174 (by decide) ?_
                      refine lv_aload_n hx hb dX9_readStatement_277 rfl (lv_at hl 2 rfl) ?_
                      refine get_X9_19 hx hb hA hown hE hG t_h0 wd_4_149 dX9_readStatement_278 (fun x504 h505 => ?_)
                      have hk507 : u501 119 0 = (gs u229 125 x238.toInt.toNat x488.toInt) 119 0 := hf503 119 0 (by decide) (by decide) (by decide) (by decide)
                      have hk507 : u501 119 0 = u229 119 0 := by rw [hk507]; simp [gs]
                      have hk508 : u229 119 0 = (gs (gs g 124 0 x222.toInt) 125 x214.toInt.toNat x194.toInt) 119 0 := hf231 119 0 (by decide) (by decide) (by decide) (by decide)
                      have hk508 : u229 119 0 = g 119 0 := by rw [hk508]; simp [gs]
                      refine ty_if_ne (tgt := 297) hx hb dX9_readStatement_281 (by decide) (fun c509 => ?_) (fun c509 => ?_)
                      · skip
                        refine lv_aload_n hx hb dX9_readStatement_297 rfl (lv_at hl 2 rfl) ?_
                        refine get_X9_19 hx hb hA hown hE hG t_h0 wd_4_149 dX9_readStatement_298 (fun x510 h511 => ?_)
                        refine ty_if_ne (tgt := 308) hx hb dX9_readStatement_301 (by decide) (fun c513 => ?_) (fun c513 => ?_)
                        · skip
                          have hk514 : u501 124 0 = (gs u229 125 x238.toInt.toNat x488.toInt) 124 0 := hf503 124 0 (by decide) (by decide) (by decide) (by decide)
                          have hk514 : u501 124 0 = u229 124 0 := by rw [hk514]; simp [gs]
                          have hk515 : u229 124 0 = (gs (gs g 124 0 x222.toInt) 125 x214.toInt.toNat x194.toInt) 124 0 := hf231 124 0 (by decide) (by decide) (by decide) (by decide)
                          have hk515 : u229 124 0 = x222.toInt := by rw [hk515]; simp [gs]
                          exact W.vret hx hb hr (fun t ht hW => ⟨⟨u501, rfl, ⟨(fun c j h115 h116 h117 h118 h119 h120 h124 h125 => by rw [hf503 c j h115 h116 h117 h118, gs_c _ _ _ _ h125, hf231 c j h115 h116 h117 h118, gs_c _ _ _ _ h125, gs_c _ _ _ _ h124]), (by omega)⟩, ok1 ht hG⟩, hS.F ht⟩) hS.2.2 dX9_readStatement_308
                        · skip
                          refine lv_aload_n hx hb dX9_readStatement_304 rfl (lv_at hl 2 rfl) ?_
                          have hk516 : u501 114 0 = (gs u229 125 x238.toInt.toNat x488.toInt) 114 0 := hf503 114 0 (by decide) (by decide) (by decide) (by decide)
                          have hk516 : u501 114 0 = u229 114 0 := by rw [hk516]; simp [gs]
                          refine cV (va_runV (C := RX9) (As := []) (rest := []) ⟨hx, hb, hml, hown, hA⟩ (k_X9_next l dC dI dA sz X Γ hU u501 h0 t_h0   (by omega)) ⟨callB_of 0 hA (al_A wd_5_74) rfl rfl rfl (hA _ wd_1_7) (hA _ wd_5_71) (by decide +kernel) ⟨Nat.le_of_ble_eq_true rfl, Nat.le_of_ble_eq_true rfl⟩, hA _ wd_5_73, hA _ ws_39⟩ ⟨bl, recv_X9 hE hG t_h0, fun U hU9 hW9 => ⟨rfl, by rw [hU9]; exact hG, hE.go hS hU9 hW9⟩⟩ rfl rfl hl.1 rfl (lv_room (Nat.le_of_ble_eq_true rfl)) dX9_readStatement_305 ⟨Nat.zero_le _, Nat.zero_le _⟩) hS (fun u517 H locs w518 hG hS => ?_)
                          obtain ⟨hf519, w518⟩ := w518
                          have hk520 : u517 119 0 = u501 119 0 := hf519 119 0 (by decide) (by decide) (by decide) (by decide)
                          have hk521 : u517 124 0 = u501 124 0 := hf519 124 0 (by decide) (by decide) (by decide) (by decide)
                          have hk522 : u501 124 0 = (gs u229 125 x238.toInt.toNat x488.toInt) 124 0 := hf503 124 0 (by decide) (by decide) (by decide) (by decide)
                          have hk522 : u501 124 0 = u229 124 0 := by rw [hk522]; simp [gs]
                          have hk523 : u229 124 0 = (gs (gs g 124 0 x222.toInt) 125 x214.toInt.toNat x194.toInt) 124 0 := hf231 124 0 (by decide) (by decide) (by decide) (by decide)
                          have hk523 : u229 124 0 = x222.toInt := by rw [hk523]; simp [gs]
                          exact W.vret hx hb hr (fun t ht hW => ⟨⟨u517, rfl, ⟨(fun c j h115 h116 h117 h118 h119 h120 h124 h125 => by rw [hf519 c j h115 h116 h117 h118, hf503 c j h115 h116 h117 h118, gs_c _ _ _ _ h125, hf231 c j h115 h116 h117 h118, gs_c _ _ _ _ h125, gs_c _ _ _ _ h124]), (by omega)⟩, ok1 ht hG⟩, hS.F ht⟩) hS.2.2 dX9_readStatement_308
                      · skip
                        refine lv_aload_n hx hb dX9_readStatement_284 rfl (lv_at hl 2 rfl) ?_
                        refine get_X9_17 hx hb hA hown hE hG t_h0 wd_4_147 dX9_readStatement_285 (fun x524 h525 => ?_)
                        refine ty_iconst hx hb (4) dX9_readStatement_288 (by decide) (fun x527 h528 => ?_)
                        refine ty_icmp_eq (tgt := 297) hx hb dX9_readStatement_289 (by decide) (fun c529 => ?_) (fun c529 => ?_)
                        · skip
                          refine lv_aload_n hx hb dX9_readStatement_297 rfl (lv_at hl 2 rfl) ?_
                          refine get_X9_19 hx hb hA hown hE hG t_h0 wd_4_149 dX9_readStatement_298 (fun x530 h531 => ?_)
                          refine ty_if_ne (tgt := 308) hx hb dX9_readStatement_301 (by decide) (fun c533 => ?_) (fun c533 => ?_)
                          · skip
                            have hk534 : u501 124 0 = (gs u229 125 x238.toInt.toNat x488.toInt) 124 0 := hf503 124 0 (by decide) (by decide) (by decide) (by decide)
                            have hk534 : u501 124 0 = u229 124 0 := by rw [hk534]; simp [gs]
                            have hk535 : u229 124 0 = (gs (gs g 124 0 x222.toInt) 125 x214.toInt.toNat x194.toInt) 124 0 := hf231 124 0 (by decide) (by decide) (by decide) (by decide)
                            have hk535 : u229 124 0 = x222.toInt := by rw [hk535]; simp [gs]
                            exact W.vret hx hb hr (fun t ht hW => ⟨⟨u501, rfl, ⟨(fun c j h115 h116 h117 h118 h119 h120 h124 h125 => by rw [hf503 c j h115 h116 h117 h118, gs_c _ _ _ _ h125, hf231 c j h115 h116 h117 h118, gs_c _ _ _ _ h125, gs_c _ _ _ _ h124]), (by omega)⟩, ok1 ht hG⟩, hS.F ht⟩) hS.2.2 dX9_readStatement_308
                          · skip
                            refine lv_aload_n hx hb dX9_readStatement_304 rfl (lv_at hl 2 rfl) ?_
                            have hk536 : u501 114 0 = (gs u229 125 x238.toInt.toNat x488.toInt) 114 0 := hf503 114 0 (by decide) (by decide) (by decide) (by decide)
                            have hk536 : u501 114 0 = u229 114 0 := by rw [hk536]; simp [gs]
                            refine cV (va_runV (C := RX9) (As := []) (rest := []) ⟨hx, hb, hml, hown, hA⟩ (k_X9_next l dC dI dA sz X Γ hU u501 h0 t_h0   (by omega)) ⟨callB_of 0 hA (al_A wd_5_74) rfl rfl rfl (hA _ wd_1_7) (hA _ wd_5_71) (by decide +kernel) ⟨Nat.le_of_ble_eq_true rfl, Nat.le_of_ble_eq_true rfl⟩, hA _ wd_5_73, hA _ ws_39⟩ ⟨bl, recv_X9 hE hG t_h0, fun U hU9 hW9 => ⟨rfl, by rw [hU9]; exact hG, hE.go hS hU9 hW9⟩⟩ rfl rfl hl.1 rfl (lv_room (Nat.le_of_ble_eq_true rfl)) dX9_readStatement_305 ⟨Nat.zero_le _, Nat.zero_le _⟩) hS (fun u537 H locs w538 hG hS => ?_)
                            obtain ⟨hf539, w538⟩ := w538
                            have hk540 : u537 119 0 = u501 119 0 := hf539 119 0 (by decide) (by decide) (by decide) (by decide)
                            have hk541 : u537 124 0 = u501 124 0 := hf539 124 0 (by decide) (by decide) (by decide) (by decide)
                            have hk542 : u501 124 0 = (gs u229 125 x238.toInt.toNat x488.toInt) 124 0 := hf503 124 0 (by decide) (by decide) (by decide) (by decide)
                            have hk542 : u501 124 0 = u229 124 0 := by rw [hk542]; simp [gs]
                            have hk543 : u229 124 0 = (gs (gs g 124 0 x222.toInt) 125 x214.toInt.toNat x194.toInt) 124 0 := hf231 124 0 (by decide) (by decide) (by decide) (by decide)
                            have hk543 : u229 124 0 = x222.toInt := by rw [hk543]; simp [gs]
                            exact W.vret hx hb hr (fun t ht hW => ⟨⟨u537, rfl, ⟨(fun c j h115 h116 h117 h118 h119 h120 h124 h125 => by rw [hf539 c j h115 h116 h117 h118, hf503 c j h115 h116 h117 h118, gs_c _ _ _ _ h125, hf231 c j h115 h116 h117 h118, gs_c _ _ _ _ h125, gs_c _ _ _ _ h124]), (by omega)⟩, ok1 ht hG⟩, hS.F ht⟩) hS.2.2 dX9_readStatement_308
                        · skip
                          refine lv_aload_n hx hb dX9_readStatement_292 rfl (lv_at hl 2 rfl) ?_
                          refine ty_iconst hx hb (1) dX9_readStatement_293 (by decide) (fun x544 h545 => ?_)
                          refine cV (va_runV (C := RX9) (As := [.int x544]) (rest := []) ⟨hx, hb, hml, hown, hA⟩ (k_X9_fails l dC dI dA sz X Γ hU u501 h0 t_h0 x544   ) ⟨callB_of 1 hA (al_A wd_5_102) rfl rfl rfl (hA _ wd_1_7) (hA _ wd_5_99) (by decide +kernel) ⟨Nat.le_of_ble_eq_true rfl, Nat.le_of_ble_eq_true rfl⟩, hA _ wd_5_101, hA _ ws_43⟩ ⟨bl, recv_X9 hE hG t_h0, fun U hU9 hW9 => ⟨rfl, by rw [hU9]; exact hG, hE.go hS hU9 hW9⟩⟩ rfl rfl hl.1 rfl (lv_room (Nat.le_of_ble_eq_true rfl)) dX9_readStatement_294 ⟨Nat.zero_le _, Nat.zero_le _⟩) hS (fun u546 H locs w547 hG hS => ?_)
                          obtain ⟨hf548, w547⟩ := w547
                          refine lv_aload_n hx hb dX9_readStatement_297 rfl (lv_at hl 2 rfl) ?_
                          refine get_X9_19 hx hb hA hown hE hG t_h0 wd_4_149 dX9_readStatement_298 (fun x549 h550 => ?_)
                          refine ty_if_ne (tgt := 308) hx hb dX9_readStatement_301 (by decide) (fun c552 => ?_) (fun c552 => ?_)
                          · skip
                            have hk553 : u546 115 0 = u501 115 0 := hf548 115 0 (by decide) (by decide)
                            have hk554 : u546 116 0 = u501 116 0 := hf548 116 0 (by decide) (by decide)
                            have hk555 : u546 124 0 = u501 124 0 := hf548 124 0 (by decide) (by decide)
                            have hk556 : u501 124 0 = (gs u229 125 x238.toInt.toNat x488.toInt) 124 0 := hf503 124 0 (by decide) (by decide) (by decide) (by decide)
                            have hk556 : u501 124 0 = u229 124 0 := by rw [hk556]; simp [gs]
                            have hk557 : u229 124 0 = (gs (gs g 124 0 x222.toInt) 125 x214.toInt.toNat x194.toInt) 124 0 := hf231 124 0 (by decide) (by decide) (by decide) (by decide)
                            have hk557 : u229 124 0 = x222.toInt := by rw [hk557]; simp [gs]
                            exact W.vret hx hb hr (fun t ht hW => ⟨⟨u546, rfl, ⟨(fun c j h115 h116 h117 h118 h119 h120 h124 h125 => by rw [hf548 c j h119 h120, hf503 c j h115 h116 h117 h118, gs_c _ _ _ _ h125, hf231 c j h115 h116 h117 h118, gs_c _ _ _ _ h125, gs_c _ _ _ _ h124]), (by omega)⟩, ok1 ht hG⟩, hS.F ht⟩) hS.2.2 dX9_readStatement_308
                          · skip
                            refine lv_aload_n hx hb dX9_readStatement_304 rfl (lv_at hl 2 rfl) ?_
                            have hk558 : u546 114 0 = u501 114 0 := hf548 114 0 (by decide) (by decide)
                            have hk559 : u501 114 0 = (gs u229 125 x238.toInt.toNat x488.toInt) 114 0 := hf503 114 0 (by decide) (by decide) (by decide) (by decide)
                            have hk559 : u501 114 0 = u229 114 0 := by rw [hk559]; simp [gs]
                            have hk560 : u546 115 0 = u501 115 0 := hf548 115 0 (by decide) (by decide)
                            refine cV (va_runV (C := RX9) (As := []) (rest := []) ⟨hx, hb, hml, hown, hA⟩ (k_X9_next l dC dI dA sz X Γ hU u546 h0 t_h0   (by omega)) ⟨callB_of 0 hA (al_A wd_5_74) rfl rfl rfl (hA _ wd_1_7) (hA _ wd_5_71) (by decide +kernel) ⟨Nat.le_of_ble_eq_true rfl, Nat.le_of_ble_eq_true rfl⟩, hA _ wd_5_73, hA _ ws_39⟩ ⟨bl, recv_X9 hE hG t_h0, fun U hU9 hW9 => ⟨rfl, by rw [hU9]; exact hG, hE.go hS hU9 hW9⟩⟩ rfl rfl hl.1 rfl (lv_room (Nat.le_of_ble_eq_true rfl)) dX9_readStatement_305 ⟨Nat.zero_le _, Nat.zero_le _⟩) hS (fun u561 H locs w562 hG hS => ?_)
                            obtain ⟨hf563, w562⟩ := w562
                            have hk564 : u561 119 0 = u546 119 0 := hf563 119 0 (by decide) (by decide) (by decide) (by decide)
                            have hk565 : u561 124 0 = u546 124 0 := hf563 124 0 (by decide) (by decide) (by decide) (by decide)
                            have hk566 : u546 124 0 = u501 124 0 := hf548 124 0 (by decide) (by decide)
                            have hk567 : u501 124 0 = (gs u229 125 x238.toInt.toNat x488.toInt) 124 0 := hf503 124 0 (by decide) (by decide) (by decide) (by decide)
                            have hk567 : u501 124 0 = u229 124 0 := by rw [hk567]; simp [gs]
                            have hk568 : u229 124 0 = (gs (gs g 124 0 x222.toInt) 125 x214.toInt.toNat x194.toInt) 124 0 := hf231 124 0 (by decide) (by decide) (by decide) (by decide)
                            have hk568 : u229 124 0 = x222.toInt := by rw [hk568]; simp [gs]
                            exact W.vret hx hb hr (fun t ht hW => ⟨⟨u561, rfl, ⟨(fun c j h115 h116 h117 h118 h119 h120 h124 h125 => by rw [hf563 c j h115 h116 h117 h118, hf548 c j h119 h120, hf503 c j h115 h116 h117 h118, gs_c _ _ _ _ h125, hf231 c j h115 h116 h117 h118, gs_c _ _ _ _ h125, gs_c _ _ _ _ h124]), (by omega)⟩, ok1 ht hG⟩, hS.F ht⟩) hS.2.2 dX9_readStatement_308
                    · skip
                      refine lv_aload_n hx hb dX9_readStatement_153 rfl (lv_at hl 2 rfl) ?_
                      refine va_ldcS hx hb hown (hES.1 11 (by decide)).1 dX9_readStatement_154 ?_
                      have e569 : (gs u229 125 x238.toInt.toNat x488.toInt) 114 0 = u229 114 0 := by simp [gs]
                      have e570 : (gs u229 125 x238.toInt.toNat x488.toInt) 115 0 = u229 115 0 := by simp [gs]
                      have e571 : (gs u229 125 x238.toInt.toNat x488.toInt) 116 0 = u229 116 0 := by simp [gs]
                      refine cI (va_runV (C := RX9) (As := [.ref (dI 100 11)]) (rest := []) ⟨hx, hb, hml, hown, hA⟩ (k_X9_isWord l dC dI dA sz X Γ hU (gs u229 125 x238.toInt.toNat x488.toInt) h0 t_h0 11 (by decide)   (by omega)) ⟨callB_of 1 hA (al_A wd_5_93) rfl rfl rfl (hA _ wd_1_7) (hA _ wd_5_90) (by decide +kernel) ⟨Nat.le_of_ble_eq_true rfl, Nat.le_of_ble_eq_true rfl⟩, hA _ wd_5_92, hA _ ws_42⟩ ⟨bl, recv_X9 hE hG t_h0, fun U hU9 hW9 => ⟨rfl, by rw [hU9]; exact hG, hE.go hS hU9 hW9⟩⟩ rfl rfl hl.1 rfl (lv_room (Nat.le_of_ble_eq_true rfl)) dX9_readStatement_156 ⟨Nat.zero_le _, Nat.zero_le _⟩) hS (fun x574 u572 H locs w573 hG hS => ?_)
                      obtain ⟨eu575, w573⟩ := w573
                      rw [eu575] at hG
                      refine ty_if_ne (tgt := 170) hx hb dX9_readStatement_159 (by decide) (fun c576 => ?_) (fun c576 => ?_)
                      · skip
                        refine lv_aload_n hx hb dX9_readStatement_170 rfl (lv_at hl 2 rfl) ?_
                        have e577 : (gs u229 125 x238.toInt.toNat x488.toInt) 114 0 = u229 114 0 := by simp [gs]
                        have e578 : (gs u229 125 x238.toInt.toNat x488.toInt) 115 0 = u229 115 0 := by simp [gs]
                        have e579 : (gs u229 125 x238.toInt.toNat x488.toInt) 114 0 = u229 114 0 := by simp [gs]
                        refine cV (va_runV (C := RX9) (As := []) (rest := []) ⟨hx, hb, hml, hown, hA⟩ (k_X9_next l dC dI dA sz X Γ hU (gs u229 125 x238.toInt.toNat x488.toInt) h0 t_h0   (by omega)) ⟨callB_of 0 hA (al_A wd_5_74) rfl rfl rfl (hA _ wd_1_7) (hA _ wd_5_71) (by decide +kernel) ⟨Nat.le_of_ble_eq_true rfl, Nat.le_of_ble_eq_true rfl⟩, hA _ wd_5_73, hA _ ws_39⟩ ⟨bl, recv_X9 hE hG t_h0, fun U hU9 hW9 => ⟨rfl, by rw [hU9]; exact hG, hE.go hS hU9 hW9⟩⟩ rfl rfl hl.1 rfl (lv_room (Nat.le_of_ble_eq_true rfl)) dX9_readStatement_171 ⟨Nat.zero_le _, Nat.zero_le _⟩) hS (fun u580 H locs w581 hG hS => ?_)
                        obtain ⟨hf582, w581⟩ := w581
                        refine lv_goto (tgt := 277) hx hb dX9_readStatement_174 (by decide) ?_
                        refine lv_aload_n hx hb dX9_readStatement_277 rfl (lv_at hl 2 rfl) ?_
                        refine get_X9_19 hx hb hA hown hE hG t_h0 wd_4_149 dX9_readStatement_278 (fun x583 h584 => ?_)
                        have hk586 : u580 119 0 = (gs u229 125 x238.toInt.toNat x488.toInt) 119 0 := hf582 119 0 (by decide) (by decide) (by decide) (by decide)
                        have hk586 : u580 119 0 = u229 119 0 := by rw [hk586]; simp [gs]
                        have hk587 : u229 119 0 = (gs (gs g 124 0 x222.toInt) 125 x214.toInt.toNat x194.toInt) 119 0 := hf231 119 0 (by decide) (by decide) (by decide) (by decide)
                        have hk587 : u229 119 0 = g 119 0 := by rw [hk587]; simp [gs]
                        refine ty_if_ne (tgt := 297) hx hb dX9_readStatement_281 (by decide) (fun c588 => ?_) (fun c588 => ?_)
                        · skip
                          refine lv_aload_n hx hb dX9_readStatement_297 rfl (lv_at hl 2 rfl) ?_
                          refine get_X9_19 hx hb hA hown hE hG t_h0 wd_4_149 dX9_readStatement_298 (fun x589 h590 => ?_)
                          refine ty_if_ne (tgt := 308) hx hb dX9_readStatement_301 (by decide) (fun c592 => ?_) (fun c592 => ?_)
                          · skip
                            have hk593 : u580 124 0 = (gs u229 125 x238.toInt.toNat x488.toInt) 124 0 := hf582 124 0 (by decide) (by decide) (by decide) (by decide)
                            have hk593 : u580 124 0 = u229 124 0 := by rw [hk593]; simp [gs]
                            have hk594 : u229 124 0 = (gs (gs g 124 0 x222.toInt) 125 x214.toInt.toNat x194.toInt) 124 0 := hf231 124 0 (by decide) (by decide) (by decide) (by decide)
                            have hk594 : u229 124 0 = x222.toInt := by rw [hk594]; simp [gs]
                            exact W.vret hx hb hr (fun t ht hW => ⟨⟨u580, rfl, ⟨(fun c j h115 h116 h117 h118 h119 h120 h124 h125 => by rw [hf582 c j h115 h116 h117 h118, gs_c _ _ _ _ h125, hf231 c j h115 h116 h117 h118, gs_c _ _ _ _ h125, gs_c _ _ _ _ h124]), (by omega)⟩, ok1 ht hG⟩, hS.F ht⟩) hS.2.2 dX9_readStatement_308
                          · skip
                            refine lv_aload_n hx hb dX9_readStatement_304 rfl (lv_at hl 2 rfl) ?_
                            have hk595 : u580 114 0 = (gs u229 125 x238.toInt.toNat x488.toInt) 114 0 := hf582 114 0 (by decide) (by decide) (by decide) (by decide)
                            have hk595 : u580 114 0 = u229 114 0 := by rw [hk595]; simp [gs]
                            refine cV (va_runV (C := RX9) (As := []) (rest := []) ⟨hx, hb, hml, hown, hA⟩ (k_X9_next l dC dI dA sz X Γ hU u580 h0 t_h0   (by omega)) ⟨callB_of 0 hA (al_A wd_5_74) rfl rfl rfl (hA _ wd_1_7) (hA _ wd_5_71) (by decide +kernel) ⟨Nat.le_of_ble_eq_true rfl, Nat.le_of_ble_eq_true rfl⟩, hA _ wd_5_73, hA _ ws_39⟩ ⟨bl, recv_X9 hE hG t_h0, fun U hU9 hW9 => ⟨rfl, by rw [hU9]; exact hG, hE.go hS hU9 hW9⟩⟩ rfl rfl hl.1 rfl (lv_room (Nat.le_of_ble_eq_true rfl)) dX9_readStatement_305 ⟨Nat.zero_le _, Nat.zero_le _⟩) hS (fun u596 H locs w597 hG hS => ?_)
                            obtain ⟨hf598, w597⟩ := w597
                            have hk599 : u596 119 0 = u580 119 0 := hf598 119 0 (by decide) (by decide) (by decide) (by decide)
                            have hk600 : u596 124 0 = u580 124 0 := hf598 124 0 (by decide) (by decide) (by decide) (by decide)
                            have hk601 : u580 124 0 = (gs u229 125 x238.toInt.toNat x488.toInt) 124 0 := hf582 124 0 (by decide) (by decide) (by decide) (by decide)
                            have hk601 : u580 124 0 = u229 124 0 := by rw [hk601]; simp [gs]
                            have hk602 : u229 124 0 = (gs (gs g 124 0 x222.toInt) 125 x214.toInt.toNat x194.toInt) 124 0 := hf231 124 0 (by decide) (by decide) (by decide) (by decide)
                            have hk602 : u229 124 0 = x222.toInt := by rw [hk602]; simp [gs]
                            exact W.vret hx hb hr (fun t ht hW => ⟨⟨u596, rfl, ⟨(fun c j h115 h116 h117 h118 h119 h120 h124 h125 => by rw [hf598 c j h115 h116 h117 h118, hf582 c j h115 h116 h117 h118, gs_c _ _ _ _ h125, hf231 c j h115 h116 h117 h118, gs_c _ _ _ _ h125, gs_c _ _ _ _ h124]), (by omega)⟩, ok1 ht hG⟩, hS.F ht⟩) hS.2.2 dX9_readStatement_308
                        · skip
                          refine lv_aload_n hx hb dX9_readStatement_284 rfl (lv_at hl 2 rfl) ?_
                          refine get_X9_17 hx hb hA hown hE hG t_h0 wd_4_147 dX9_readStatement_285 (fun x603 h604 => ?_)
                          refine ty_iconst hx hb (4) dX9_readStatement_288 (by decide) (fun x606 h607 => ?_)
                          refine ty_icmp_eq (tgt := 297) hx hb dX9_readStatement_289 (by decide) (fun c608 => ?_) (fun c608 => ?_)
                          · skip
                            refine lv_aload_n hx hb dX9_readStatement_297 rfl (lv_at hl 2 rfl) ?_
                            refine get_X9_19 hx hb hA hown hE hG t_h0 wd_4_149 dX9_readStatement_298 (fun x609 h610 => ?_)
                            refine ty_if_ne (tgt := 308) hx hb dX9_readStatement_301 (by decide) (fun c612 => ?_) (fun c612 => ?_)
                            · skip
                              have hk613 : u580 124 0 = (gs u229 125 x238.toInt.toNat x488.toInt) 124 0 := hf582 124 0 (by decide) (by decide) (by decide) (by decide)
                              have hk613 : u580 124 0 = u229 124 0 := by rw [hk613]; simp [gs]
                              have hk614 : u229 124 0 = (gs (gs g 124 0 x222.toInt) 125 x214.toInt.toNat x194.toInt) 124 0 := hf231 124 0 (by decide) (by decide) (by decide) (by decide)
                              have hk614 : u229 124 0 = x222.toInt := by rw [hk614]; simp [gs]
                              exact W.vret hx hb hr (fun t ht hW => ⟨⟨u580, rfl, ⟨(fun c j h115 h116 h117 h118 h119 h120 h124 h125 => by rw [hf582 c j h115 h116 h117 h118, gs_c _ _ _ _ h125, hf231 c j h115 h116 h117 h118, gs_c _ _ _ _ h125, gs_c _ _ _ _ h124]), (by omega)⟩, ok1 ht hG⟩, hS.F ht⟩) hS.2.2 dX9_readStatement_308
                            · skip
                              refine lv_aload_n hx hb dX9_readStatement_304 rfl (lv_at hl 2 rfl) ?_
                              have hk615 : u580 114 0 = (gs u229 125 x238.toInt.toNat x488.toInt) 114 0 := hf582 114 0 (by decide) (by decide) (by decide) (by decide)
                              have hk615 : u580 114 0 = u229 114 0 := by rw [hk615]; simp [gs]
                              refine cV (va_runV (C := RX9) (As := []) (rest := []) ⟨hx, hb, hml, hown, hA⟩ (k_X9_next l dC dI dA sz X Γ hU u580 h0 t_h0   (by omega)) ⟨callB_of 0 hA (al_A wd_5_74) rfl rfl rfl (hA _ wd_1_7) (hA _ wd_5_71) (by decide +kernel) ⟨Nat.le_of_ble_eq_true rfl, Nat.le_of_ble_eq_true rfl⟩, hA _ wd_5_73, hA _ ws_39⟩ ⟨bl, recv_X9 hE hG t_h0, fun U hU9 hW9 => ⟨rfl, by rw [hU9]; exact hG, hE.go hS hU9 hW9⟩⟩ rfl rfl hl.1 rfl (lv_room (Nat.le_of_ble_eq_true rfl)) dX9_readStatement_305 ⟨Nat.zero_le _, Nat.zero_le _⟩) hS (fun u616 H locs w617 hG hS => ?_)
                              obtain ⟨hf618, w617⟩ := w617
                              have hk619 : u616 119 0 = u580 119 0 := hf618 119 0 (by decide) (by decide) (by decide) (by decide)
                              have hk620 : u616 124 0 = u580 124 0 := hf618 124 0 (by decide) (by decide) (by decide) (by decide)
                              have hk621 : u580 124 0 = (gs u229 125 x238.toInt.toNat x488.toInt) 124 0 := hf582 124 0 (by decide) (by decide) (by decide) (by decide)
                              have hk621 : u580 124 0 = u229 124 0 := by rw [hk621]; simp [gs]
                              have hk622 : u229 124 0 = (gs (gs g 124 0 x222.toInt) 125 x214.toInt.toNat x194.toInt) 124 0 := hf231 124 0 (by decide) (by decide) (by decide) (by decide)
                              have hk622 : u229 124 0 = x222.toInt := by rw [hk622]; simp [gs]
                              exact W.vret hx hb hr (fun t ht hW => ⟨⟨u616, rfl, ⟨(fun c j h115 h116 h117 h118 h119 h120 h124 h125 => by rw [hf618 c j h115 h116 h117 h118, hf582 c j h115 h116 h117 h118, gs_c _ _ _ _ h125, hf231 c j h115 h116 h117 h118, gs_c _ _ _ _ h125, gs_c _ _ _ _ h124]), (by omega)⟩, ok1 ht hG⟩, hS.F ht⟩) hS.2.2 dX9_readStatement_308
                          · skip
                            refine lv_aload_n hx hb dX9_readStatement_292 rfl (lv_at hl 2 rfl) ?_
                            refine ty_iconst hx hb (1) dX9_readStatement_293 (by decide) (fun x623 h624 => ?_)
                            refine cV (va_runV (C := RX9) (As := [.int x623]) (rest := []) ⟨hx, hb, hml, hown, hA⟩ (k_X9_fails l dC dI dA sz X Γ hU u580 h0 t_h0 x623   ) ⟨callB_of 1 hA (al_A wd_5_102) rfl rfl rfl (hA _ wd_1_7) (hA _ wd_5_99) (by decide +kernel) ⟨Nat.le_of_ble_eq_true rfl, Nat.le_of_ble_eq_true rfl⟩, hA _ wd_5_101, hA _ ws_43⟩ ⟨bl, recv_X9 hE hG t_h0, fun U hU9 hW9 => ⟨rfl, by rw [hU9]; exact hG, hE.go hS hU9 hW9⟩⟩ rfl rfl hl.1 rfl (lv_room (Nat.le_of_ble_eq_true rfl)) dX9_readStatement_294 ⟨Nat.zero_le _, Nat.zero_le _⟩) hS (fun u625 H locs w626 hG hS => ?_)
                            obtain ⟨hf627, w626⟩ := w626
                            refine lv_aload_n hx hb dX9_readStatement_297 rfl (lv_at hl 2 rfl) ?_
                            refine get_X9_19 hx hb hA hown hE hG t_h0 wd_4_149 dX9_readStatement_298 (fun x628 h629 => ?_)
                            refine ty_if_ne (tgt := 308) hx hb dX9_readStatement_301 (by decide) (fun c631 => ?_) (fun c631 => ?_)
                            · skip
                              have hk632 : u625 115 0 = u580 115 0 := hf627 115 0 (by decide) (by decide)
                              have hk633 : u625 116 0 = u580 116 0 := hf627 116 0 (by decide) (by decide)
                              have hk634 : u625 124 0 = u580 124 0 := hf627 124 0 (by decide) (by decide)
                              have hk635 : u580 124 0 = (gs u229 125 x238.toInt.toNat x488.toInt) 124 0 := hf582 124 0 (by decide) (by decide) (by decide) (by decide)
                              have hk635 : u580 124 0 = u229 124 0 := by rw [hk635]; simp [gs]
                              have hk636 : u229 124 0 = (gs (gs g 124 0 x222.toInt) 125 x214.toInt.toNat x194.toInt) 124 0 := hf231 124 0 (by decide) (by decide) (by decide) (by decide)
                              have hk636 : u229 124 0 = x222.toInt := by rw [hk636]; simp [gs]
                              exact W.vret hx hb hr (fun t ht hW => ⟨⟨u625, rfl, ⟨(fun c j h115 h116 h117 h118 h119 h120 h124 h125 => by rw [hf627 c j h119 h120, hf582 c j h115 h116 h117 h118, gs_c _ _ _ _ h125, hf231 c j h115 h116 h117 h118, gs_c _ _ _ _ h125, gs_c _ _ _ _ h124]), (by omega)⟩, ok1 ht hG⟩, hS.F ht⟩) hS.2.2 dX9_readStatement_308
                            · skip
                              refine lv_aload_n hx hb dX9_readStatement_304 rfl (lv_at hl 2 rfl) ?_
                              have hk637 : u625 114 0 = u580 114 0 := hf627 114 0 (by decide) (by decide)
                              have hk638 : u580 114 0 = (gs u229 125 x238.toInt.toNat x488.toInt) 114 0 := hf582 114 0 (by decide) (by decide) (by decide) (by decide)
                              have hk638 : u580 114 0 = u229 114 0 := by rw [hk638]; simp [gs]
                              have hk639 : u625 115 0 = u580 115 0 := hf627 115 0 (by decide) (by decide)
                              refine cV (va_runV (C := RX9) (As := []) (rest := []) ⟨hx, hb, hml, hown, hA⟩ (k_X9_next l dC dI dA sz X Γ hU u625 h0 t_h0   (by omega)) ⟨callB_of 0 hA (al_A wd_5_74) rfl rfl rfl (hA _ wd_1_7) (hA _ wd_5_71) (by decide +kernel) ⟨Nat.le_of_ble_eq_true rfl, Nat.le_of_ble_eq_true rfl⟩, hA _ wd_5_73, hA _ ws_39⟩ ⟨bl, recv_X9 hE hG t_h0, fun U hU9 hW9 => ⟨rfl, by rw [hU9]; exact hG, hE.go hS hU9 hW9⟩⟩ rfl rfl hl.1 rfl (lv_room (Nat.le_of_ble_eq_true rfl)) dX9_readStatement_305 ⟨Nat.zero_le _, Nat.zero_le _⟩) hS (fun u640 H locs w641 hG hS => ?_)
                              obtain ⟨hf642, w641⟩ := w641
                              have hk643 : u640 119 0 = u625 119 0 := hf642 119 0 (by decide) (by decide) (by decide) (by decide)
                              have hk644 : u640 124 0 = u625 124 0 := hf642 124 0 (by decide) (by decide) (by decide) (by decide)
                              have hk645 : u625 124 0 = u580 124 0 := hf627 124 0 (by decide) (by decide)
                              have hk646 : u580 124 0 = (gs u229 125 x238.toInt.toNat x488.toInt) 124 0 := hf582 124 0 (by decide) (by decide) (by decide) (by decide)
                              have hk646 : u580 124 0 = u229 124 0 := by rw [hk646]; simp [gs]
                              have hk647 : u229 124 0 = (gs (gs g 124 0 x222.toInt) 125 x214.toInt.toNat x194.toInt) 124 0 := hf231 124 0 (by decide) (by decide) (by decide) (by decide)
                              have hk647 : u229 124 0 = x222.toInt := by rw [hk647]; simp [gs]
                              exact W.vret hx hb hr (fun t ht hW => ⟨⟨u640, rfl, ⟨(fun c j h115 h116 h117 h118 h119 h120 h124 h125 => by rw [hf642 c j h115 h116 h117 h118, hf627 c j h119 h120, hf582 c j h115 h116 h117 h118, gs_c _ _ _ _ h125, hf231 c j h115 h116 h117 h118, gs_c _ _ _ _ h125, gs_c _ _ _ _ h124]), (by omega)⟩, ok1 ht hG⟩, hS.F ht⟩) hS.2.2 dX9_readStatement_308
                      · skip
                        refine lv_aload_n hx hb dX9_readStatement_162 rfl (lv_at hl 2 rfl) ?_
                        refine ty_iconst hx hb (1) dX9_readStatement_163 (by decide) (fun x648 h649 => ?_)
                        have hk650 : u229 119 0 = (gs (gs g 124 0 x222.toInt) 125 x214.toInt.toNat x194.toInt) 119 0 := hf231 119 0 (by decide) (by decide) (by decide) (by decide)
                        have hk650 : u229 119 0 = g 119 0 := by rw [hk650]; simp [gs]
                        have e651 : (gs u229 125 x238.toInt.toNat x488.toInt) 119 0 = u229 119 0 := by simp [gs]
                        have e652 : (gs u229 125 x238.toInt.toNat x488.toInt) 119 0 = u229 119 0 := by simp [gs]
                        refine cV (va_runV (C := RX9) (As := [.int x648]) (rest := []) ⟨hx, hb, hml, hown, hA⟩ (k_X9_fails l dC dI dA sz X Γ hU (gs u229 125 x238.toInt.toNat x488.toInt) h0 t_h0 x648   ) ⟨callB_of 1 hA (al_A wd_5_102) rfl rfl rfl (hA _ wd_1_7) (hA _ wd_5_99) (by decide +kernel) ⟨Nat.le_of_ble_eq_true rfl, Nat.le_of_ble_eq_true rfl⟩, hA _ wd_5_101, hA _ ws_43⟩ ⟨bl, recv_X9 hE hG t_h0, fun U hU9 hW9 => ⟨rfl, by rw [hU9]; exact hG, hE.go hS hU9 hW9⟩⟩ rfl rfl hl.1 rfl (lv_room (Nat.le_of_ble_eq_true rfl)) dX9_readStatement_164 ⟨Nat.zero_le _, Nat.zero_le _⟩) hS (fun u653 H locs w654 hG hS => ?_)
                        obtain ⟨hf655, w654⟩ := w654
                        refine lv_goto (tgt := 277) hx hb dX9_readStatement_167 (by decide) ?_
                        refine lv_aload_n hx hb dX9_readStatement_277 rfl (lv_at hl 2 rfl) ?_
                        refine get_X9_19 hx hb hA hown hE hG t_h0 wd_4_149 dX9_readStatement_278 (fun x656 h657 => ?_)
                        refine ty_if_ne (tgt := 297) hx hb dX9_readStatement_281 (by decide) (fun c659 => ?_) (fun c659 => ?_)
                        · skip
                          refine lv_aload_n hx hb dX9_readStatement_297 rfl (lv_at hl 2 rfl) ?_
                          refine get_X9_19 hx hb hA hown hE hG t_h0 wd_4_149 dX9_readStatement_298 (fun x660 h661 => ?_)
                          refine ty_if_ne (tgt := 308) hx hb dX9_readStatement_301 (by decide) (fun c663 => ?_) (fun c663 => ?_)
                          · skip
                            have hk664 : u653 115 0 = (gs u229 125 x238.toInt.toNat x488.toInt) 115 0 := hf655 115 0 (by decide) (by decide)
                            have hk664 : u653 115 0 = u229 115 0 := by rw [hk664]; simp [gs]
                            have hk665 : u653 116 0 = (gs u229 125 x238.toInt.toNat x488.toInt) 116 0 := hf655 116 0 (by decide) (by decide)
                            have hk665 : u653 116 0 = u229 116 0 := by rw [hk665]; simp [gs]
                            have hk666 : u653 124 0 = (gs u229 125 x238.toInt.toNat x488.toInt) 124 0 := hf655 124 0 (by decide) (by decide)
                            have hk666 : u653 124 0 = u229 124 0 := by rw [hk666]; simp [gs]
                            have hk667 : u229 124 0 = (gs (gs g 124 0 x222.toInt) 125 x214.toInt.toNat x194.toInt) 124 0 := hf231 124 0 (by decide) (by decide) (by decide) (by decide)
                            have hk667 : u229 124 0 = x222.toInt := by rw [hk667]; simp [gs]
                            exact W.vret hx hb hr (fun t ht hW => ⟨⟨u653, rfl, ⟨(fun c j h115 h116 h117 h118 h119 h120 h124 h125 => by rw [hf655 c j h119 h120, gs_c _ _ _ _ h125, hf231 c j h115 h116 h117 h118, gs_c _ _ _ _ h125, gs_c _ _ _ _ h124]), (by omega)⟩, ok1 ht hG⟩, hS.F ht⟩) hS.2.2 dX9_readStatement_308
                          · skip
                            refine lv_aload_n hx hb dX9_readStatement_304 rfl (lv_at hl 2 rfl) ?_
                            have hk668 : u653 114 0 = (gs u229 125 x238.toInt.toNat x488.toInt) 114 0 := hf655 114 0 (by decide) (by decide)
                            have hk668 : u653 114 0 = u229 114 0 := by rw [hk668]; simp [gs]
                            have hk669 : u653 115 0 = (gs u229 125 x238.toInt.toNat x488.toInt) 115 0 := hf655 115 0 (by decide) (by decide)
                            have hk669 : u653 115 0 = u229 115 0 := by rw [hk669]; simp [gs]
                            refine cV (va_runV (C := RX9) (As := []) (rest := []) ⟨hx, hb, hml, hown, hA⟩ (k_X9_next l dC dI dA sz X Γ hU u653 h0 t_h0   (by omega)) ⟨callB_of 0 hA (al_A wd_5_74) rfl rfl rfl (hA _ wd_1_7) (hA _ wd_5_71) (by decide +kernel) ⟨Nat.le_of_ble_eq_true rfl, Nat.le_of_ble_eq_true rfl⟩, hA _ wd_5_73, hA _ ws_39⟩ ⟨bl, recv_X9 hE hG t_h0, fun U hU9 hW9 => ⟨rfl, by rw [hU9]; exact hG, hE.go hS hU9 hW9⟩⟩ rfl rfl hl.1 rfl (lv_room (Nat.le_of_ble_eq_true rfl)) dX9_readStatement_305 ⟨Nat.zero_le _, Nat.zero_le _⟩) hS (fun u670 H locs w671 hG hS => ?_)
                            obtain ⟨hf672, w671⟩ := w671
                            have hk673 : u670 119 0 = u653 119 0 := hf672 119 0 (by decide) (by decide) (by decide) (by decide)
                            have hk674 : u670 124 0 = u653 124 0 := hf672 124 0 (by decide) (by decide) (by decide) (by decide)
                            have hk675 : u653 124 0 = (gs u229 125 x238.toInt.toNat x488.toInt) 124 0 := hf655 124 0 (by decide) (by decide)
                            have hk675 : u653 124 0 = u229 124 0 := by rw [hk675]; simp [gs]
                            have hk676 : u229 124 0 = (gs (gs g 124 0 x222.toInt) 125 x214.toInt.toNat x194.toInt) 124 0 := hf231 124 0 (by decide) (by decide) (by decide) (by decide)
                            have hk676 : u229 124 0 = x222.toInt := by rw [hk676]; simp [gs]
                            exact W.vret hx hb hr (fun t ht hW => ⟨⟨u670, rfl, ⟨(fun c j h115 h116 h117 h118 h119 h120 h124 h125 => by rw [hf672 c j h115 h116 h117 h118, hf655 c j h119 h120, gs_c _ _ _ _ h125, hf231 c j h115 h116 h117 h118, gs_c _ _ _ _ h125, gs_c _ _ _ _ h124]), (by omega)⟩, ok1 ht hG⟩, hS.F ht⟩) hS.2.2 dX9_readStatement_308
                        · skip
                          refine lv_aload_n hx hb dX9_readStatement_284 rfl (lv_at hl 2 rfl) ?_
                          refine get_X9_17 hx hb hA hown hE hG t_h0 wd_4_147 dX9_readStatement_285 (fun x677 h678 => ?_)
                          have hk680 : u653 117 0 = (gs u229 125 x238.toInt.toNat x488.toInt) 117 0 := hf655 117 0 (by decide) (by decide)
                          have hk680 : u653 117 0 = u229 117 0 := by rw [hk680]; simp [gs]
                          refine ty_iconst hx hb (4) dX9_readStatement_288 (by decide) (fun x681 h682 => ?_)
                          refine ty_icmp_eq (tgt := 297) hx hb dX9_readStatement_289 (by decide) (fun c683 => ?_) (fun c683 => ?_)
                          · skip
                            refine lv_aload_n hx hb dX9_readStatement_297 rfl (lv_at hl 2 rfl) ?_
                            refine get_X9_19 hx hb hA hown hE hG t_h0 wd_4_149 dX9_readStatement_298 (fun x684 h685 => ?_)
                            refine ty_if_ne (tgt := 308) hx hb dX9_readStatement_301 (by decide) (fun c687 => ?_) (fun c687 => ?_)
                            · skip
                              have hk688 : u653 115 0 = (gs u229 125 x238.toInt.toNat x488.toInt) 115 0 := hf655 115 0 (by decide) (by decide)
                              have hk688 : u653 115 0 = u229 115 0 := by rw [hk688]; simp [gs]
                              have hk689 : u653 116 0 = (gs u229 125 x238.toInt.toNat x488.toInt) 116 0 := hf655 116 0 (by decide) (by decide)
                              have hk689 : u653 116 0 = u229 116 0 := by rw [hk689]; simp [gs]
                              have hk690 : u653 124 0 = (gs u229 125 x238.toInt.toNat x488.toInt) 124 0 := hf655 124 0 (by decide) (by decide)
                              have hk690 : u653 124 0 = u229 124 0 := by rw [hk690]; simp [gs]
                              have hk691 : u229 124 0 = (gs (gs g 124 0 x222.toInt) 125 x214.toInt.toNat x194.toInt) 124 0 := hf231 124 0 (by decide) (by decide) (by decide) (by decide)
                              have hk691 : u229 124 0 = x222.toInt := by rw [hk691]; simp [gs]
                              exact W.vret hx hb hr (fun t ht hW => ⟨⟨u653, rfl, ⟨(fun c j h115 h116 h117 h118 h119 h120 h124 h125 => by rw [hf655 c j h119 h120, gs_c _ _ _ _ h125, hf231 c j h115 h116 h117 h118, gs_c _ _ _ _ h125, gs_c _ _ _ _ h124]), (by omega)⟩, ok1 ht hG⟩, hS.F ht⟩) hS.2.2 dX9_readStatement_308
                            · skip
                              refine lv_aload_n hx hb dX9_readStatement_304 rfl (lv_at hl 2 rfl) ?_
                              have hk692 : u653 114 0 = (gs u229 125 x238.toInt.toNat x488.toInt) 114 0 := hf655 114 0 (by decide) (by decide)
                              have hk692 : u653 114 0 = u229 114 0 := by rw [hk692]; simp [gs]
                              have hk693 : u653 115 0 = (gs u229 125 x238.toInt.toNat x488.toInt) 115 0 := hf655 115 0 (by decide) (by decide)
                              have hk693 : u653 115 0 = u229 115 0 := by rw [hk693]; simp [gs]
                              refine cV (va_runV (C := RX9) (As := []) (rest := []) ⟨hx, hb, hml, hown, hA⟩ (k_X9_next l dC dI dA sz X Γ hU u653 h0 t_h0   (by omega)) ⟨callB_of 0 hA (al_A wd_5_74) rfl rfl rfl (hA _ wd_1_7) (hA _ wd_5_71) (by decide +kernel) ⟨Nat.le_of_ble_eq_true rfl, Nat.le_of_ble_eq_true rfl⟩, hA _ wd_5_73, hA _ ws_39⟩ ⟨bl, recv_X9 hE hG t_h0, fun U hU9 hW9 => ⟨rfl, by rw [hU9]; exact hG, hE.go hS hU9 hW9⟩⟩ rfl rfl hl.1 rfl (lv_room (Nat.le_of_ble_eq_true rfl)) dX9_readStatement_305 ⟨Nat.zero_le _, Nat.zero_le _⟩) hS (fun u694 H locs w695 hG hS => ?_)
                              obtain ⟨hf696, w695⟩ := w695
                              have hk697 : u694 119 0 = u653 119 0 := hf696 119 0 (by decide) (by decide) (by decide) (by decide)
                              have hk698 : u694 124 0 = u653 124 0 := hf696 124 0 (by decide) (by decide) (by decide) (by decide)
                              have hk699 : u653 124 0 = (gs u229 125 x238.toInt.toNat x488.toInt) 124 0 := hf655 124 0 (by decide) (by decide)
                              have hk699 : u653 124 0 = u229 124 0 := by rw [hk699]; simp [gs]
                              have hk700 : u229 124 0 = (gs (gs g 124 0 x222.toInt) 125 x214.toInt.toNat x194.toInt) 124 0 := hf231 124 0 (by decide) (by decide) (by decide) (by decide)
                              have hk700 : u229 124 0 = x222.toInt := by rw [hk700]; simp [gs]
                              exact W.vret hx hb hr (fun t ht hW => ⟨⟨u694, rfl, ⟨(fun c j h115 h116 h117 h118 h119 h120 h124 h125 => by rw [hf696 c j h115 h116 h117 h118, hf655 c j h119 h120, gs_c _ _ _ _ h125, hf231 c j h115 h116 h117 h118, gs_c _ _ _ _ h125, gs_c _ _ _ _ h124]), (by omega)⟩, ok1 ht hG⟩, hS.F ht⟩) hS.2.2 dX9_readStatement_308
                          · skip
                            refine lv_aload_n hx hb dX9_readStatement_292 rfl (lv_at hl 2 rfl) ?_
                            refine ty_iconst hx hb (1) dX9_readStatement_293 (by decide) (fun x701 h702 => ?_)
                            refine cV (va_runV (C := RX9) (As := [.int x701]) (rest := []) ⟨hx, hb, hml, hown, hA⟩ (k_X9_fails l dC dI dA sz X Γ hU u653 h0 t_h0 x701   ) ⟨callB_of 1 hA (al_A wd_5_102) rfl rfl rfl (hA _ wd_1_7) (hA _ wd_5_99) (by decide +kernel) ⟨Nat.le_of_ble_eq_true rfl, Nat.le_of_ble_eq_true rfl⟩, hA _ wd_5_101, hA _ ws_43⟩ ⟨bl, recv_X9 hE hG t_h0, fun U hU9 hW9 => ⟨rfl, by rw [hU9]; exact hG, hE.go hS hU9 hW9⟩⟩ rfl rfl hl.1 rfl (lv_room (Nat.le_of_ble_eq_true rfl)) dX9_readStatement_294 ⟨Nat.zero_le _, Nat.zero_le _⟩) hS (fun u703 H locs w704 hG hS => ?_)
                            obtain ⟨hf705, w704⟩ := w704
                            refine lv_aload_n hx hb dX9_readStatement_297 rfl (lv_at hl 2 rfl) ?_
                            refine get_X9_19 hx hb hA hown hE hG t_h0 wd_4_149 dX9_readStatement_298 (fun x706 h707 => ?_)
                            refine ty_if_ne (tgt := 308) hx hb dX9_readStatement_301 (by decide) (fun c709 => ?_) (fun c709 => ?_)
                            · skip
                              have hk710 : u703 115 0 = u653 115 0 := hf705 115 0 (by decide) (by decide)
                              have hk711 : u653 115 0 = (gs u229 125 x238.toInt.toNat x488.toInt) 115 0 := hf655 115 0 (by decide) (by decide)
                              have hk711 : u653 115 0 = u229 115 0 := by rw [hk711]; simp [gs]
                              have hk712 : u703 116 0 = u653 116 0 := hf705 116 0 (by decide) (by decide)
                              have hk713 : u653 116 0 = (gs u229 125 x238.toInt.toNat x488.toInt) 116 0 := hf655 116 0 (by decide) (by decide)
                              have hk713 : u653 116 0 = u229 116 0 := by rw [hk713]; simp [gs]
                              have hk714 : u703 124 0 = u653 124 0 := hf705 124 0 (by decide) (by decide)
                              have hk715 : u653 124 0 = (gs u229 125 x238.toInt.toNat x488.toInt) 124 0 := hf655 124 0 (by decide) (by decide)
                              have hk715 : u653 124 0 = u229 124 0 := by rw [hk715]; simp [gs]
                              have hk716 : u229 124 0 = (gs (gs g 124 0 x222.toInt) 125 x214.toInt.toNat x194.toInt) 124 0 := hf231 124 0 (by decide) (by decide) (by decide) (by decide)
                              have hk716 : u229 124 0 = x222.toInt := by rw [hk716]; simp [gs]
                              exact W.vret hx hb hr (fun t ht hW => ⟨⟨u703, rfl, ⟨(fun c j h115 h116 h117 h118 h119 h120 h124 h125 => by rw [hf705 c j h119 h120, hf655 c j h119 h120, gs_c _ _ _ _ h125, hf231 c j h115 h116 h117 h118, gs_c _ _ _ _ h125, gs_c _ _ _ _ h124]), (by omega)⟩, ok1 ht hG⟩, hS.F ht⟩) hS.2.2 dX9_readStatement_308
                            · skip
                              refine lv_aload_n hx hb dX9_readStatement_304 rfl (lv_at hl 2 rfl) ?_
                              have hk717 : u703 114 0 = u653 114 0 := hf705 114 0 (by decide) (by decide)
                              have hk718 : u653 114 0 = (gs u229 125 x238.toInt.toNat x488.toInt) 114 0 := hf655 114 0 (by decide) (by decide)
                              have hk718 : u653 114 0 = u229 114 0 := by rw [hk718]; simp [gs]
                              have hk719 : u703 115 0 = u653 115 0 := hf705 115 0 (by decide) (by decide)
                              have hk720 : u653 115 0 = (gs u229 125 x238.toInt.toNat x488.toInt) 115 0 := hf655 115 0 (by decide) (by decide)
                              have hk720 : u653 115 0 = u229 115 0 := by rw [hk720]; simp [gs]
                              refine cV (va_runV (C := RX9) (As := []) (rest := []) ⟨hx, hb, hml, hown, hA⟩ (k_X9_next l dC dI dA sz X Γ hU u703 h0 t_h0   (by omega)) ⟨callB_of 0 hA (al_A wd_5_74) rfl rfl rfl (hA _ wd_1_7) (hA _ wd_5_71) (by decide +kernel) ⟨Nat.le_of_ble_eq_true rfl, Nat.le_of_ble_eq_true rfl⟩, hA _ wd_5_73, hA _ ws_39⟩ ⟨bl, recv_X9 hE hG t_h0, fun U hU9 hW9 => ⟨rfl, by rw [hU9]; exact hG, hE.go hS hU9 hW9⟩⟩ rfl rfl hl.1 rfl (lv_room (Nat.le_of_ble_eq_true rfl)) dX9_readStatement_305 ⟨Nat.zero_le _, Nat.zero_le _⟩) hS (fun u721 H locs w722 hG hS => ?_)
                              obtain ⟨hf723, w722⟩ := w722
                              have hk724 : u721 119 0 = u703 119 0 := hf723 119 0 (by decide) (by decide) (by decide) (by decide)
                              have hk725 : u721 124 0 = u703 124 0 := hf723 124 0 (by decide) (by decide) (by decide) (by decide)
                              have hk726 : u703 124 0 = u653 124 0 := hf705 124 0 (by decide) (by decide)
                              have hk727 : u653 124 0 = (gs u229 125 x238.toInt.toNat x488.toInt) 124 0 := hf655 124 0 (by decide) (by decide)
                              have hk727 : u653 124 0 = u229 124 0 := by rw [hk727]; simp [gs]
                              have hk728 : u229 124 0 = (gs (gs g 124 0 x222.toInt) 125 x214.toInt.toNat x194.toInt) 124 0 := hf231 124 0 (by decide) (by decide) (by decide) (by decide)
                              have hk728 : u229 124 0 = x222.toInt := by rw [hk728]; simp [gs]
                              exact W.vret hx hb hr (fun t ht hW => ⟨⟨u721, rfl, ⟨(fun c j h115 h116 h117 h118 h119 h120 h124 h125 => by rw [hf723 c j h115 h116 h117 h118, hf705 c j h119 h120, hf655 c j h119 h120, gs_c _ _ _ _ h125, hf231 c j h115 h116 h117 h118, gs_c _ _ _ _ h125, gs_c _ _ _ _ h124]), (by omega)⟩, ok1 ht hG⟩, hS.F ht⟩) hS.2.2 dX9_readStatement_308
              · skip
                exact W.vret hx hb hr (fun t ht hW => ⟨⟨g, rfl, ⟨(fun c j h115 h116 h117 h118 h119 h120 h124 h125 => by rfl), (by omega)⟩, ok1 ht hG⟩, hS.F ht⟩) hS.2.2 dX9_readStatement_88
            · skip
              refine lv_aload_n hx hb dX9_readStatement_76 rfl (lv_at hl 1 rfl) ?_
              refine ty_iconst hx hb (3) dX9_readStatement_77 (by decide) (fun x729 h730 => ?_)
              refine cV (va_runV (C := RX9) (As := [.int x729]) (rest := []) ⟨hx, hb, hml, hown, hA⟩ (k_X9_fails l dC dI dA sz X Γ hU g h0 t_h0 x729   ) ⟨callB_of 1 hA (al_A wd_5_102) rfl rfl rfl (hA _ wd_1_7) (hA _ wd_5_99) (by decide +kernel) ⟨Nat.le_of_ble_eq_true rfl, Nat.le_of_ble_eq_true rfl⟩, hA _ wd_5_101, hA _ ws_43⟩ ⟨bl, recv_X9 hE hG t_h0, fun U hU9 hW9 => ⟨rfl, by rw [hU9]; exact hG, hE.go hS hU9 hW9⟩⟩ rfl rfl hl.1 rfl (lv_room (Nat.le_of_ble_eq_true rfl)) dX9_readStatement_78 ⟨Nat.zero_le _, Nat.zero_le _⟩) hS (fun u731 H locs w732 hG hS => ?_)
              obtain ⟨hf733, w732⟩ := w732
              refine lv_aload_n hx hb dX9_readStatement_81 rfl (lv_at hl 1 rfl) ?_
              refine get_X9_19 hx hb hA hown hE hG t_h0 wd_4_149 dX9_readStatement_82 (fun x734 h735 => ?_)
              refine ty_if_eq (tgt := 89) hx hb dX9_readStatement_85 (by decide) (fun c737 => ?_) (fun c737 => ?_)
              · skip
                refine ty_iconst hx hb (4) dX9_readStatement_89 (by decide) (fun x738 h739 => ?_)
                refine lv_aload_n hx hb dX9_readStatement_90 rfl (lv_at hl 1 rfl) ?_
                refine get_X9_24 hx hb hA hown hE hG t_h0 wd_4_154 dX9_readStatement_91 (fun x740 h741 => ?_)
                have hk743 : u731 124 0 = g 124 0 := hf733 124 0 (by decide) (by decide)
                refine ty_imul hx hb dX9_readStatement_94 (fun x744 h745 => ?_)
                try have h746 : x744.toInt = 4 * x740.toInt := ty_mull h745 (by omega) (by omega) (by omega)
                refine lv_istore_n (lv' := [(2, .int x744), (1, .int x194), (0, .ref h0)]) hx hb dX9_readStatement_95 rfl hl (by decide) rfl (fun ls hl => ?_)
                refine lv_aload_n hx hb dX9_readStatement_96 rfl (lv_at hl 2 rfl) ?_
                refine lv_dup hx hb dX9_readStatement_97 rfl ?_
                refine get_X9_24 hx hb hA hown hE hG t_h0 wd_4_154 dX9_readStatement_98 (fun x747 h748 => ?_)
                refine ty_iconst hx hb (1) dX9_readStatement_101 (by decide) (fun x750 h751 => ?_)
                refine ty_iadd hx hb dX9_readStatement_102 (fun x752 h753 => ?_)
                try have h754 : x752.toInt = x747.toInt + x750.toInt := ty_add h753 (by omega) (by omega)
                refine put_X9_24 hx hb hA hown hE hG hS hU t_h0 wd_4_154 dX9_readStatement_103 (fun H locs hG hS => ?_)
                refine lv_aload_n hx hb dX9_readStatement_106 rfl (lv_at hl 2 rfl) ?_
                refine get_X9_25 hx hb hA hown hE hG t_h0 wd_4_155 dX9_readStatement_107 (fun b755 (t_b755 : ty Γ b755 125) => ?_)
                refine lv_iload_n hx hb dX9_readStatement_110 rfl (lv_at hl 0 rfl) ?_
                refine lv_iload_n hx hb dX9_readStatement_111 rfl (lv_at hl 1 rfl) ?_
                refine ast_mI hx hb hE hG hS hU 25 rfl (n := 120) rfl (lo := -2147483648) (hi := 2147483647) rfl rfl rfl t_b755 (rgD _) (by omega) dX9_readStatement_112 (fun H locs hG hS => ?_)
                refine lv_aload_n hx hb dX9_readStatement_113 rfl (lv_at hl 2 rfl) ?_
                have hk756 : u731 114 0 = g 114 0 := hf733 114 0 (by decide) (by decide)
                have e757 : (gs (gs u731 124 0 x752.toInt) 125 x744.toInt.toNat x194.toInt) 114 0 = u731 114 0 := by simp [gs]
                have hk758 : u731 115 0 = g 115 0 := hf733 115 0 (by decide) (by decide)
                have e759 : (gs (gs u731 124 0 x752.toInt) 125 x744.toInt.toNat x194.toInt) 115 0 = u731 115 0 := by simp [gs]
                have e760 : (gs (gs u731 124 0 x752.toInt) 125 x744.toInt.toNat x194.toInt) 114 0 = u731 114 0 := by simp [gs]
                refine cV (va_runV (C := RX9) (As := []) (rest := []) ⟨hx, hb, hml, hown, hA⟩ (k_X9_next l dC dI dA sz X Γ hU (gs (gs u731 124 0 x752.toInt) 125 x744.toInt.toNat x194.toInt) h0 t_h0   (by omega)) ⟨callB_of 0 hA (al_A wd_5_74) rfl rfl rfl (hA _ wd_1_7) (hA _ wd_5_71) (by decide +kernel) ⟨Nat.le_of_ble_eq_true rfl, Nat.le_of_ble_eq_true rfl⟩, hA _ wd_5_73, hA _ ws_39⟩ ⟨bl, recv_X9 hE hG t_h0, fun U hU9 hW9 => ⟨rfl, by rw [hU9]; exact hG, hE.go hS hU9 hW9⟩⟩ rfl rfl hl.1 rfl (lv_room (Nat.le_of_ble_eq_true rfl)) dX9_readStatement_114 ⟨Nat.zero_le _, Nat.zero_le _⟩) hS (fun u761 H locs w762 hG hS => ?_)
                obtain ⟨hf763, w762⟩ := w762
                refine lv_iload_n hx hb dX9_readStatement_117 rfl (lv_at hl 1 rfl) ?_
                refine ty_iconst hx hb (3) dX9_readStatement_118 (by decide) (fun x764 h765 => ?_)
                refine ty_icmp_ne (tgt := 177) hx hb dX9_readStatement_119 (by decide) (fun c766 => ?_) (fun c766 => ?_)
                · exfalso; omega
                · skip
                  refine lv_aload_n hx hb dX9_readStatement_122 rfl (lv_at hl 2 rfl) ?_
                  refine get_X9_25 hx hb hA hown hE hG t_h0 wd_4_155 dX9_readStatement_123 (fun b767 (t_b767 : ty Γ b767 125) => ?_)
                  refine lv_iload_n hx hb dX9_readStatement_126 rfl (lv_at hl 0 rfl) ?_
                  refine ty_iconst hx hb (1) dX9_readStatement_127 (by decide) (fun x768 h769 => ?_)
                  refine ty_iadd hx hb dX9_readStatement_128 (fun x770 h771 => ?_)
                  try have h772 : x770.toInt = x744.toInt + x768.toInt := ty_add h771 (by omega) (by omega)
                  refine lv_aload_n hx hb dX9_readStatement_129 rfl (lv_at hl 2 rfl) ?_
                  refine va_ldcS hx hb hown (hES.1 10 (by decide)).1 dX9_readStatement_130 ?_
                  have hk773 : u761 114 0 = (gs (gs u731 124 0 x752.toInt) 125 x744.toInt.toNat x194.toInt) 114 0 := hf763 114 0 (by decide) (by decide) (by decide) (by decide)
                  have hk773 : u761 114 0 = u731 114 0 := by rw [hk773]; simp [gs]
                  refine cI (va_runV (C := RX9) (As := [.ref (dI 100 10)]) (rest := [.int x770, .ref b767]) ⟨hx, hb, hml, hown, hA⟩ (k_X9_isWord l dC dI dA sz X Γ hU u761 h0 t_h0 10 (by decide)   (by omega)) ⟨callB_of 1 hA (al_A wd_5_93) rfl rfl rfl (hA _ wd_1_7) (hA _ wd_5_90) (by decide +kernel) ⟨Nat.le_of_ble_eq_true rfl, Nat.le_of_ble_eq_true rfl⟩, hA _ wd_5_92, hA _ ws_42⟩ ⟨bl, recv_X9 hE hG t_h0, fun U hU9 hW9 => ⟨rfl, by rw [hU9]; exact hG, hE.go hS hU9 hW9⟩⟩ rfl rfl hl.1 rfl (lv_room (Nat.le_of_ble_eq_true rfl)) dX9_readStatement_132 ⟨Nat.zero_le _, Nat.zero_le _⟩) hS (fun x776 u774 H locs w775 hG hS => ?_)
                  obtain ⟨eu777, w775⟩ := w775
                  rw [eu777] at hG
                  refine ty_if_eq (tgt := 142) hx hb dX9_readStatement_135 (by decide) (fun c778 => ?_) (fun c778 => ?_)
                  · skip
                    refine ty_iconst hx hb (0) dX9_readStatement_142 (by decide) (fun x779 h780 => ?_)
                    refine ast_mI hx hb hE hG hS hU 25 rfl (n := 120) rfl (lo := -2147483648) (hi := 2147483647) rfl rfl rfl t_b767 (rgD _) (by omega) dX9_readStatement_143 (fun H locs hG hS => ?_)
                    refine lv_aload_n hx hb dX9_readStatement_144 rfl (lv_at hl 2 rfl) ?_
                    refine va_ldcS hx hb hown (hES.1 10 (by decide)).1 dX9_readStatement_145 ?_
                    have e781 : (gs u761 125 x770.toInt.toNat x779.toInt) 114 0 = u761 114 0 := by simp [gs]
                    have e782 : (gs u761 125 x770.toInt.toNat x779.toInt) 115 0 = u761 115 0 := by simp [gs]
                    have e783 : (gs u761 125 x770.toInt.toNat x779.toInt) 116 0 = u761 116 0 := by simp [gs]
                    refine cI (va_runV (C := RX9) (As := [.ref (dI 100 10)]) (rest := []) ⟨hx, hb, hml, hown, hA⟩ (k_X9_isWord l dC dI dA sz X Γ hU (gs u761 125 x770.toInt.toNat x779.toInt) h0 t_h0 10 (by decide)   (by omega)) ⟨callB_of 1 hA (al_A wd_5_93) rfl rfl rfl (hA _ wd_1_7) (hA _ wd_5_90) (by decide +kernel) ⟨Nat.le_of_ble_eq_true rfl, Nat.le_of_ble_eq_true rfl⟩, hA _ wd_5_92, hA _ ws_42⟩ ⟨bl, recv_X9 hE hG t_h0, fun U hU9 hW9 => ⟨rfl, by rw [hU9]; exact hG, hE.go hS hU9 hW9⟩⟩ rfl rfl hl.1 rfl (lv_room (Nat.le_of_ble_eq_true rfl)) dX9_readStatement_147 ⟨Nat.zero_le _, Nat.zero_le _⟩) hS (fun x786 u784 H locs w785 hG hS => ?_)
                    obtain ⟨eu787, w785⟩ := w785
                    rw [eu787] at hG
                    refine ty_if_ne (tgt := 170) hx hb dX9_readStatement_150 (by decide) (fun c788 => ?_) (fun c788 => ?_)
                    · skip
                      refine lv_aload_n hx hb dX9_readStatement_170 rfl (lv_at hl 2 rfl) ?_
                      have e789 : (gs u761 125 x770.toInt.toNat x779.toInt) 114 0 = u761 114 0 := by simp [gs]
                      have e790 : (gs u761 125 x770.toInt.toNat x779.toInt) 115 0 = u761 115 0 := by simp [gs]
                      have e791 : (gs u761 125 x770.toInt.toNat x779.toInt) 114 0 = u761 114 0 := by simp [gs]
                      refine cV (va_runV (C := RX9) (As := []) (rest := []) ⟨hx, hb, hml, hown, hA⟩ (k_X9_next l dC dI dA sz X Γ hU (gs u761 125 x770.toInt.toNat x779.toInt) h0 t_h0   (by omega)) ⟨callB_of 0 hA (al_A wd_5_74) rfl rfl rfl (hA _ wd_1_7) (hA _ wd_5_71) (by decide +kernel) ⟨Nat.le_of_ble_eq_true rfl, Nat.le_of_ble_eq_true rfl⟩, hA _ wd_5_73, hA _ ws_39⟩ ⟨bl, recv_X9 hE hG t_h0, fun U hU9 hW9 => ⟨rfl, by rw [hU9]; exact hG, hE.go hS hU9 hW9⟩⟩ rfl rfl hl.1 rfl (lv_room (Nat.le_of_ble_eq_true rfl)) dX9_readStatement_171 ⟨Nat.zero_le _, Nat.zero_le _⟩) hS (fun u792 H locs w793 hG hS => ?_)
                      obtain ⟨hf794, w793⟩ := w793
                      refine lv_goto (tgt := 277) hx hb dX9_readStatement_174 (by decide) ?_
                      refine lv_aload_n hx hb dX9_readStatement_277 rfl (lv_at hl 2 rfl) ?_
                      refine get_X9_19 hx hb hA hown hE hG t_h0 wd_4_149 dX9_readStatement_278 (fun x795 h796 => ?_)
                      have hk798 : u792 119 0 = (gs u761 125 x770.toInt.toNat x779.toInt) 119 0 := hf794 119 0 (by decide) (by decide) (by decide) (by decide)
                      have hk798 : u792 119 0 = u761 119 0 := by rw [hk798]; simp [gs]
                      have hk799 : u761 119 0 = (gs (gs u731 124 0 x752.toInt) 125 x744.toInt.toNat x194.toInt) 119 0 := hf763 119 0 (by decide) (by decide) (by decide) (by decide)
                      have hk799 : u761 119 0 = u731 119 0 := by rw [hk799]; simp [gs]
                      refine ty_if_ne (tgt := 297) hx hb dX9_readStatement_281 (by decide) (fun c800 => ?_) (fun c800 => ?_)
                      · skip
                        refine lv_aload_n hx hb dX9_readStatement_297 rfl (lv_at hl 2 rfl) ?_
                        refine get_X9_19 hx hb hA hown hE hG t_h0 wd_4_149 dX9_readStatement_298 (fun x801 h802 => ?_)
                        refine ty_if_ne (tgt := 308) hx hb dX9_readStatement_301 (by decide) (fun c804 => ?_) (fun c804 => ?_)
                        · skip
                          have hk805 : u792 124 0 = (gs u761 125 x770.toInt.toNat x779.toInt) 124 0 := hf794 124 0 (by decide) (by decide) (by decide) (by decide)
                          have hk805 : u792 124 0 = u761 124 0 := by rw [hk805]; simp [gs]
                          have hk806 : u761 124 0 = (gs (gs u731 124 0 x752.toInt) 125 x744.toInt.toNat x194.toInt) 124 0 := hf763 124 0 (by decide) (by decide) (by decide) (by decide)
                          have hk806 : u761 124 0 = x752.toInt := by rw [hk806]; simp [gs]
                          exact W.vret hx hb hr (fun t ht hW => ⟨⟨u792, rfl, ⟨(fun c j h115 h116 h117 h118 h119 h120 h124 h125 => by rw [hf794 c j h115 h116 h117 h118, gs_c _ _ _ _ h125, hf763 c j h115 h116 h117 h118, gs_c _ _ _ _ h125, gs_c _ _ _ _ h124, hf733 c j h119 h120]), (by omega)⟩, ok1 ht hG⟩, hS.F ht⟩) hS.2.2 dX9_readStatement_308
                        · skip
                          refine lv_aload_n hx hb dX9_readStatement_304 rfl (lv_at hl 2 rfl) ?_
                          have hk807 : u792 114 0 = (gs u761 125 x770.toInt.toNat x779.toInt) 114 0 := hf794 114 0 (by decide) (by decide) (by decide) (by decide)
                          have hk807 : u792 114 0 = u761 114 0 := by rw [hk807]; simp [gs]
                          refine cV (va_runV (C := RX9) (As := []) (rest := []) ⟨hx, hb, hml, hown, hA⟩ (k_X9_next l dC dI dA sz X Γ hU u792 h0 t_h0   (by omega)) ⟨callB_of 0 hA (al_A wd_5_74) rfl rfl rfl (hA _ wd_1_7) (hA _ wd_5_71) (by decide +kernel) ⟨Nat.le_of_ble_eq_true rfl, Nat.le_of_ble_eq_true rfl⟩, hA _ wd_5_73, hA _ ws_39⟩ ⟨bl, recv_X9 hE hG t_h0, fun U hU9 hW9 => ⟨rfl, by rw [hU9]; exact hG, hE.go hS hU9 hW9⟩⟩ rfl rfl hl.1 rfl (lv_room (Nat.le_of_ble_eq_true rfl)) dX9_readStatement_305 ⟨Nat.zero_le _, Nat.zero_le _⟩) hS (fun u808 H locs w809 hG hS => ?_)
                          obtain ⟨hf810, w809⟩ := w809
                          have hk811 : u808 119 0 = u792 119 0 := hf810 119 0 (by decide) (by decide) (by decide) (by decide)
                          have hk812 : u808 124 0 = u792 124 0 := hf810 124 0 (by decide) (by decide) (by decide) (by decide)
                          have hk813 : u792 124 0 = (gs u761 125 x770.toInt.toNat x779.toInt) 124 0 := hf794 124 0 (by decide) (by decide) (by decide) (by decide)
                          have hk813 : u792 124 0 = u761 124 0 := by rw [hk813]; simp [gs]
                          have hk814 : u761 124 0 = (gs (gs u731 124 0 x752.toInt) 125 x744.toInt.toNat x194.toInt) 124 0 := hf763 124 0 (by decide) (by decide) (by decide) (by decide)
                          have hk814 : u761 124 0 = x752.toInt := by rw [hk814]; simp [gs]
                          exact W.vret hx hb hr (fun t ht hW => ⟨⟨u808, rfl, ⟨(fun c j h115 h116 h117 h118 h119 h120 h124 h125 => by rw [hf810 c j h115 h116 h117 h118, hf794 c j h115 h116 h117 h118, gs_c _ _ _ _ h125, hf763 c j h115 h116 h117 h118, gs_c _ _ _ _ h125, gs_c _ _ _ _ h124, hf733 c j h119 h120]), (by omega)⟩, ok1 ht hG⟩, hS.F ht⟩) hS.2.2 dX9_readStatement_308
                      · skip
                        refine lv_aload_n hx hb dX9_readStatement_284 rfl (lv_at hl 2 rfl) ?_
                        refine get_X9_17 hx hb hA hown hE hG t_h0 wd_4_147 dX9_readStatement_285 (fun x815 h816 => ?_)
                        refine ty_iconst hx hb (4) dX9_readStatement_288 (by decide) (fun x818 h819 => ?_)
                        refine ty_icmp_eq (tgt := 297) hx hb dX9_readStatement_289 (by decide) (fun c820 => ?_) (fun c820 => ?_)
                        · skip
                          refine lv_aload_n hx hb dX9_readStatement_297 rfl (lv_at hl 2 rfl) ?_
                          refine get_X9_19 hx hb hA hown hE hG t_h0 wd_4_149 dX9_readStatement_298 (fun x821 h822 => ?_)
                          refine ty_if_ne (tgt := 308) hx hb dX9_readStatement_301 (by decide) (fun c824 => ?_) (fun c824 => ?_)
                          · skip
                            have hk825 : u792 124 0 = (gs u761 125 x770.toInt.toNat x779.toInt) 124 0 := hf794 124 0 (by decide) (by decide) (by decide) (by decide)
                            have hk825 : u792 124 0 = u761 124 0 := by rw [hk825]; simp [gs]
                            have hk826 : u761 124 0 = (gs (gs u731 124 0 x752.toInt) 125 x744.toInt.toNat x194.toInt) 124 0 := hf763 124 0 (by decide) (by decide) (by decide) (by decide)
                            have hk826 : u761 124 0 = x752.toInt := by rw [hk826]; simp [gs]
                            exact W.vret hx hb hr (fun t ht hW => ⟨⟨u792, rfl, ⟨(fun c j h115 h116 h117 h118 h119 h120 h124 h125 => by rw [hf794 c j h115 h116 h117 h118, gs_c _ _ _ _ h125, hf763 c j h115 h116 h117 h118, gs_c _ _ _ _ h125, gs_c _ _ _ _ h124, hf733 c j h119 h120]), (by omega)⟩, ok1 ht hG⟩, hS.F ht⟩) hS.2.2 dX9_readStatement_308
                          · skip
                            refine lv_aload_n hx hb dX9_readStatement_304 rfl (lv_at hl 2 rfl) ?_
                            have hk827 : u792 114 0 = (gs u761 125 x770.toInt.toNat x779.toInt) 114 0 := hf794 114 0 (by decide) (by decide) (by decide) (by decide)
                            have hk827 : u792 114 0 = u761 114 0 := by rw [hk827]; simp [gs]
                            refine cV (va_runV (C := RX9) (As := []) (rest := []) ⟨hx, hb, hml, hown, hA⟩ (k_X9_next l dC dI dA sz X Γ hU u792 h0 t_h0   (by omega)) ⟨callB_of 0 hA (al_A wd_5_74) rfl rfl rfl (hA _ wd_1_7) (hA _ wd_5_71) (by decide +kernel) ⟨Nat.le_of_ble_eq_true rfl, Nat.le_of_ble_eq_true rfl⟩, hA _ wd_5_73, hA _ ws_39⟩ ⟨bl, recv_X9 hE hG t_h0, fun U hU9 hW9 => ⟨rfl, by rw [hU9]; exact hG, hE.go hS hU9 hW9⟩⟩ rfl rfl hl.1 rfl (lv_room (Nat.le_of_ble_eq_true rfl)) dX9_readStatement_305 ⟨Nat.zero_le _, Nat.zero_le _⟩) hS (fun u828 H locs w829 hG hS => ?_)
                            obtain ⟨hf830, w829⟩ := w829
                            have hk831 : u828 119 0 = u792 119 0 := hf830 119 0 (by decide) (by decide) (by decide) (by decide)
                            have hk832 : u828 124 0 = u792 124 0 := hf830 124 0 (by decide) (by decide) (by decide) (by decide)
                            have hk833 : u792 124 0 = (gs u761 125 x770.toInt.toNat x779.toInt) 124 0 := hf794 124 0 (by decide) (by decide) (by decide) (by decide)
                            have hk833 : u792 124 0 = u761 124 0 := by rw [hk833]; simp [gs]
                            have hk834 : u761 124 0 = (gs (gs u731 124 0 x752.toInt) 125 x744.toInt.toNat x194.toInt) 124 0 := hf763 124 0 (by decide) (by decide) (by decide) (by decide)
                            have hk834 : u761 124 0 = x752.toInt := by rw [hk834]; simp [gs]
                            exact W.vret hx hb hr (fun t ht hW => ⟨⟨u828, rfl, ⟨(fun c j h115 h116 h117 h118 h119 h120 h124 h125 => by rw [hf830 c j h115 h116 h117 h118, hf794 c j h115 h116 h117 h118, gs_c _ _ _ _ h125, hf763 c j h115 h116 h117 h118, gs_c _ _ _ _ h125, gs_c _ _ _ _ h124, hf733 c j h119 h120]), (by omega)⟩, ok1 ht hG⟩, hS.F ht⟩) hS.2.2 dX9_readStatement_308
                        · skip
                          refine lv_aload_n hx hb dX9_readStatement_292 rfl (lv_at hl 2 rfl) ?_
                          refine ty_iconst hx hb (1) dX9_readStatement_293 (by decide) (fun x835 h836 => ?_)
                          refine cV (va_runV (C := RX9) (As := [.int x835]) (rest := []) ⟨hx, hb, hml, hown, hA⟩ (k_X9_fails l dC dI dA sz X Γ hU u792 h0 t_h0 x835   ) ⟨callB_of 1 hA (al_A wd_5_102) rfl rfl rfl (hA _ wd_1_7) (hA _ wd_5_99) (by decide +kernel) ⟨Nat.le_of_ble_eq_true rfl, Nat.le_of_ble_eq_true rfl⟩, hA _ wd_5_101, hA _ ws_43⟩ ⟨bl, recv_X9 hE hG t_h0, fun U hU9 hW9 => ⟨rfl, by rw [hU9]; exact hG, hE.go hS hU9 hW9⟩⟩ rfl rfl hl.1 rfl (lv_room (Nat.le_of_ble_eq_true rfl)) dX9_readStatement_294 ⟨Nat.zero_le _, Nat.zero_le _⟩) hS (fun u837 H locs w838 hG hS => ?_)
                          obtain ⟨hf839, w838⟩ := w838
                          refine lv_aload_n hx hb dX9_readStatement_297 rfl (lv_at hl 2 rfl) ?_
                          refine get_X9_19 hx hb hA hown hE hG t_h0 wd_4_149 dX9_readStatement_298 (fun x840 h841 => ?_)
                          refine ty_if_ne (tgt := 308) hx hb dX9_readStatement_301 (by decide) (fun c843 => ?_) (fun c843 => ?_)
                          · skip
                            have hk844 : u837 115 0 = u792 115 0 := hf839 115 0 (by decide) (by decide)
                            have hk845 : u837 116 0 = u792 116 0 := hf839 116 0 (by decide) (by decide)
                            have hk846 : u837 124 0 = u792 124 0 := hf839 124 0 (by decide) (by decide)
                            have hk847 : u792 124 0 = (gs u761 125 x770.toInt.toNat x779.toInt) 124 0 := hf794 124 0 (by decide) (by decide) (by decide) (by decide)
                            have hk847 : u792 124 0 = u761 124 0 := by rw [hk847]; simp [gs]
                            have hk848 : u761 124 0 = (gs (gs u731 124 0 x752.toInt) 125 x744.toInt.toNat x194.toInt) 124 0 := hf763 124 0 (by decide) (by decide) (by decide) (by decide)
                            have hk848 : u761 124 0 = x752.toInt := by rw [hk848]; simp [gs]
                            exact W.vret hx hb hr (fun t ht hW => ⟨⟨u837, rfl, ⟨(fun c j h115 h116 h117 h118 h119 h120 h124 h125 => by rw [hf839 c j h119 h120, hf794 c j h115 h116 h117 h118, gs_c _ _ _ _ h125, hf763 c j h115 h116 h117 h118, gs_c _ _ _ _ h125, gs_c _ _ _ _ h124, hf733 c j h119 h120]), (by omega)⟩, ok1 ht hG⟩, hS.F ht⟩) hS.2.2 dX9_readStatement_308
                          · skip
                            refine lv_aload_n hx hb dX9_readStatement_304 rfl (lv_at hl 2 rfl) ?_
                            have hk849 : u837 114 0 = u792 114 0 := hf839 114 0 (by decide) (by decide)
                            have hk850 : u792 114 0 = (gs u761 125 x770.toInt.toNat x779.toInt) 114 0 := hf794 114 0 (by decide) (by decide) (by decide) (by decide)
                            have hk850 : u792 114 0 = u761 114 0 := by rw [hk850]; simp [gs]
                            have hk851 : u837 115 0 = u792 115 0 := hf839 115 0 (by decide) (by decide)
                            refine cV (va_runV (C := RX9) (As := []) (rest := []) ⟨hx, hb, hml, hown, hA⟩ (k_X9_next l dC dI dA sz X Γ hU u837 h0 t_h0   (by omega)) ⟨callB_of 0 hA (al_A wd_5_74) rfl rfl rfl (hA _ wd_1_7) (hA _ wd_5_71) (by decide +kernel) ⟨Nat.le_of_ble_eq_true rfl, Nat.le_of_ble_eq_true rfl⟩, hA _ wd_5_73, hA _ ws_39⟩ ⟨bl, recv_X9 hE hG t_h0, fun U hU9 hW9 => ⟨rfl, by rw [hU9]; exact hG, hE.go hS hU9 hW9⟩⟩ rfl rfl hl.1 rfl (lv_room (Nat.le_of_ble_eq_true rfl)) dX9_readStatement_305 ⟨Nat.zero_le _, Nat.zero_le _⟩) hS (fun u852 H locs w853 hG hS => ?_)
                            obtain ⟨hf854, w853⟩ := w853
                            have hk855 : u852 119 0 = u837 119 0 := hf854 119 0 (by decide) (by decide) (by decide) (by decide)
                            have hk856 : u852 124 0 = u837 124 0 := hf854 124 0 (by decide) (by decide) (by decide) (by decide)
                            have hk857 : u837 124 0 = u792 124 0 := hf839 124 0 (by decide) (by decide)
                            have hk858 : u792 124 0 = (gs u761 125 x770.toInt.toNat x779.toInt) 124 0 := hf794 124 0 (by decide) (by decide) (by decide) (by decide)
                            have hk858 : u792 124 0 = u761 124 0 := by rw [hk858]; simp [gs]
                            have hk859 : u761 124 0 = (gs (gs u731 124 0 x752.toInt) 125 x744.toInt.toNat x194.toInt) 124 0 := hf763 124 0 (by decide) (by decide) (by decide) (by decide)
                            have hk859 : u761 124 0 = x752.toInt := by rw [hk859]; simp [gs]
                            exact W.vret hx hb hr (fun t ht hW => ⟨⟨u852, rfl, ⟨(fun c j h115 h116 h117 h118 h119 h120 h124 h125 => by rw [hf854 c j h115 h116 h117 h118, hf839 c j h119 h120, hf794 c j h115 h116 h117 h118, gs_c _ _ _ _ h125, hf763 c j h115 h116 h117 h118, gs_c _ _ _ _ h125, gs_c _ _ _ _ h124, hf733 c j h119 h120]), (by omega)⟩, ok1 ht hG⟩, hS.F ht⟩) hS.2.2 dX9_readStatement_308
                    · skip
                      refine lv_aload_n hx hb dX9_readStatement_153 rfl (lv_at hl 2 rfl) ?_
                      refine va_ldcS hx hb hown (hES.1 11 (by decide)).1 dX9_readStatement_154 ?_
                      have e860 : (gs u761 125 x770.toInt.toNat x779.toInt) 114 0 = u761 114 0 := by simp [gs]
                      have e861 : (gs u761 125 x770.toInt.toNat x779.toInt) 115 0 = u761 115 0 := by simp [gs]
                      have e862 : (gs u761 125 x770.toInt.toNat x779.toInt) 116 0 = u761 116 0 := by simp [gs]
                      refine cI (va_runV (C := RX9) (As := [.ref (dI 100 11)]) (rest := []) ⟨hx, hb, hml, hown, hA⟩ (k_X9_isWord l dC dI dA sz X Γ hU (gs u761 125 x770.toInt.toNat x779.toInt) h0 t_h0 11 (by decide)   (by omega)) ⟨callB_of 1 hA (al_A wd_5_93) rfl rfl rfl (hA _ wd_1_7) (hA _ wd_5_90) (by decide +kernel) ⟨Nat.le_of_ble_eq_true rfl, Nat.le_of_ble_eq_true rfl⟩, hA _ wd_5_92, hA _ ws_42⟩ ⟨bl, recv_X9 hE hG t_h0, fun U hU9 hW9 => ⟨rfl, by rw [hU9]; exact hG, hE.go hS hU9 hW9⟩⟩ rfl rfl hl.1 rfl (lv_room (Nat.le_of_ble_eq_true rfl)) dX9_readStatement_156 ⟨Nat.zero_le _, Nat.zero_le _⟩) hS (fun x865 u863 H locs w864 hG hS => ?_)
                      obtain ⟨eu866, w864⟩ := w864
                      rw [eu866] at hG
                      refine ty_if_ne (tgt := 170) hx hb dX9_readStatement_159 (by decide) (fun c867 => ?_) (fun c867 => ?_)
                      · skip
                        refine lv_aload_n hx hb dX9_readStatement_170 rfl (lv_at hl 2 rfl) ?_
                        have e868 : (gs u761 125 x770.toInt.toNat x779.toInt) 114 0 = u761 114 0 := by simp [gs]
                        have e869 : (gs u761 125 x770.toInt.toNat x779.toInt) 115 0 = u761 115 0 := by simp [gs]
                        have e870 : (gs u761 125 x770.toInt.toNat x779.toInt) 114 0 = u761 114 0 := by simp [gs]
                        refine cV (va_runV (C := RX9) (As := []) (rest := []) ⟨hx, hb, hml, hown, hA⟩ (k_X9_next l dC dI dA sz X Γ hU (gs u761 125 x770.toInt.toNat x779.toInt) h0 t_h0   (by omega)) ⟨callB_of 0 hA (al_A wd_5_74) rfl rfl rfl (hA _ wd_1_7) (hA _ wd_5_71) (by decide +kernel) ⟨Nat.le_of_ble_eq_true rfl, Nat.le_of_ble_eq_true rfl⟩, hA _ wd_5_73, hA _ ws_39⟩ ⟨bl, recv_X9 hE hG t_h0, fun U hU9 hW9 => ⟨rfl, by rw [hU9]; exact hG, hE.go hS hU9 hW9⟩⟩ rfl rfl hl.1 rfl (lv_room (Nat.le_of_ble_eq_true rfl)) dX9_readStatement_171 ⟨Nat.zero_le _, Nat.zero_le _⟩) hS (fun u871 H locs w872 hG hS => ?_)
                        obtain ⟨hf873, w872⟩ := w872
                        refine lv_goto (tgt := 277) hx hb dX9_readStatement_174 (by decide) ?_
                        refine lv_aload_n hx hb dX9_readStatement_277 rfl (lv_at hl 2 rfl) ?_
                        refine get_X9_19 hx hb hA hown hE hG t_h0 wd_4_149 dX9_readStatement_278 (fun x874 h875 => ?_)
                        have hk877 : u871 119 0 = (gs u761 125 x770.toInt.toNat x779.toInt) 119 0 := hf873 119 0 (by decide) (by decide) (by decide) (by decide)
                        have hk877 : u871 119 0 = u761 119 0 := by rw [hk877]; simp [gs]
                        have hk878 : u761 119 0 = (gs (gs u731 124 0 x752.toInt) 125 x744.toInt.toNat x194.toInt) 119 0 := hf763 119 0 (by decide) (by decide) (by decide) (by decide)
                        have hk878 : u761 119 0 = u731 119 0 := by rw [hk878]; simp [gs]
                        refine ty_if_ne (tgt := 297) hx hb dX9_readStatement_281 (by decide) (fun c879 => ?_) (fun c879 => ?_)
                        · skip
                          refine lv_aload_n hx hb dX9_readStatement_297 rfl (lv_at hl 2 rfl) ?_
                          refine get_X9_19 hx hb hA hown hE hG t_h0 wd_4_149 dX9_readStatement_298 (fun x880 h881 => ?_)
                          refine ty_if_ne (tgt := 308) hx hb dX9_readStatement_301 (by decide) (fun c883 => ?_) (fun c883 => ?_)
                          · skip
                            have hk884 : u871 124 0 = (gs u761 125 x770.toInt.toNat x779.toInt) 124 0 := hf873 124 0 (by decide) (by decide) (by decide) (by decide)
                            have hk884 : u871 124 0 = u761 124 0 := by rw [hk884]; simp [gs]
                            have hk885 : u761 124 0 = (gs (gs u731 124 0 x752.toInt) 125 x744.toInt.toNat x194.toInt) 124 0 := hf763 124 0 (by decide) (by decide) (by decide) (by decide)
                            have hk885 : u761 124 0 = x752.toInt := by rw [hk885]; simp [gs]
                            exact W.vret hx hb hr (fun t ht hW => ⟨⟨u871, rfl, ⟨(fun c j h115 h116 h117 h118 h119 h120 h124 h125 => by rw [hf873 c j h115 h116 h117 h118, gs_c _ _ _ _ h125, hf763 c j h115 h116 h117 h118, gs_c _ _ _ _ h125, gs_c _ _ _ _ h124, hf733 c j h119 h120]), (by omega)⟩, ok1 ht hG⟩, hS.F ht⟩) hS.2.2 dX9_readStatement_308
                          · skip
                            refine lv_aload_n hx hb dX9_readStatement_304 rfl (lv_at hl 2 rfl) ?_
                            have hk886 : u871 114 0 = (gs u761 125 x770.toInt.toNat x779.toInt) 114 0 := hf873 114 0 (by decide) (by decide) (by decide) (by decide)
                            have hk886 : u871 114 0 = u761 114 0 := by rw [hk886]; simp [gs]
                            refine cV (va_runV (C := RX9) (As := []) (rest := []) ⟨hx, hb, hml, hown, hA⟩ (k_X9_next l dC dI dA sz X Γ hU u871 h0 t_h0   (by omega)) ⟨callB_of 0 hA (al_A wd_5_74) rfl rfl rfl (hA _ wd_1_7) (hA _ wd_5_71) (by decide +kernel) ⟨Nat.le_of_ble_eq_true rfl, Nat.le_of_ble_eq_true rfl⟩, hA _ wd_5_73, hA _ ws_39⟩ ⟨bl, recv_X9 hE hG t_h0, fun U hU9 hW9 => ⟨rfl, by rw [hU9]; exact hG, hE.go hS hU9 hW9⟩⟩ rfl rfl hl.1 rfl (lv_room (Nat.le_of_ble_eq_true rfl)) dX9_readStatement_305 ⟨Nat.zero_le _, Nat.zero_le _⟩) hS (fun u887 H locs w888 hG hS => ?_)
                            obtain ⟨hf889, w888⟩ := w888
                            have hk890 : u887 119 0 = u871 119 0 := hf889 119 0 (by decide) (by decide) (by decide) (by decide)
                            have hk891 : u887 124 0 = u871 124 0 := hf889 124 0 (by decide) (by decide) (by decide) (by decide)
                            have hk892 : u871 124 0 = (gs u761 125 x770.toInt.toNat x779.toInt) 124 0 := hf873 124 0 (by decide) (by decide) (by decide) (by decide)
                            have hk892 : u871 124 0 = u761 124 0 := by rw [hk892]; simp [gs]
                            have hk893 : u761 124 0 = (gs (gs u731 124 0 x752.toInt) 125 x744.toInt.toNat x194.toInt) 124 0 := hf763 124 0 (by decide) (by decide) (by decide) (by decide)
                            have hk893 : u761 124 0 = x752.toInt := by rw [hk893]; simp [gs]
                            exact W.vret hx hb hr (fun t ht hW => ⟨⟨u887, rfl, ⟨(fun c j h115 h116 h117 h118 h119 h120 h124 h125 => by rw [hf889 c j h115 h116 h117 h118, hf873 c j h115 h116 h117 h118, gs_c _ _ _ _ h125, hf763 c j h115 h116 h117 h118, gs_c _ _ _ _ h125, gs_c _ _ _ _ h124, hf733 c j h119 h120]), (by omega)⟩, ok1 ht hG⟩, hS.F ht⟩) hS.2.2 dX9_readStatement_308
                        · skip
                          refine lv_aload_n hx hb dX9_readStatement_284 rfl (lv_at hl 2 rfl) ?_
                          refine get_X9_17 hx hb hA hown hE hG t_h0 wd_4_147 dX9_readStatement_285 (fun x894 h895 => ?_)
                          refine ty_iconst hx hb (4) dX9_readStatement_288 (by decide) (fun x897 h898 => ?_)
                          refine ty_icmp_eq (tgt := 297) hx hb dX9_readStatement_289 (by decide) (fun c899 => ?_) (fun c899 => ?_)
                          · skip
                            refine lv_aload_n hx hb dX9_readStatement_297 rfl (lv_at hl 2 rfl) ?_
                            refine get_X9_19 hx hb hA hown hE hG t_h0 wd_4_149 dX9_readStatement_298 (fun x900 h901 => ?_)
                            refine ty_if_ne (tgt := 308) hx hb dX9_readStatement_301 (by decide) (fun c903 => ?_) (fun c903 => ?_)
                            · skip
                              have hk904 : u871 124 0 = (gs u761 125 x770.toInt.toNat x779.toInt) 124 0 := hf873 124 0 (by decide) (by decide) (by decide) (by decide)
                              have hk904 : u871 124 0 = u761 124 0 := by rw [hk904]; simp [gs]
                              have hk905 : u761 124 0 = (gs (gs u731 124 0 x752.toInt) 125 x744.toInt.toNat x194.toInt) 124 0 := hf763 124 0 (by decide) (by decide) (by decide) (by decide)
                              have hk905 : u761 124 0 = x752.toInt := by rw [hk905]; simp [gs]
                              exact W.vret hx hb hr (fun t ht hW => ⟨⟨u871, rfl, ⟨(fun c j h115 h116 h117 h118 h119 h120 h124 h125 => by rw [hf873 c j h115 h116 h117 h118, gs_c _ _ _ _ h125, hf763 c j h115 h116 h117 h118, gs_c _ _ _ _ h125, gs_c _ _ _ _ h124, hf733 c j h119 h120]), (by omega)⟩, ok1 ht hG⟩, hS.F ht⟩) hS.2.2 dX9_readStatement_308
                            · skip
                              refine lv_aload_n hx hb dX9_readStatement_304 rfl (lv_at hl 2 rfl) ?_
                              have hk906 : u871 114 0 = (gs u761 125 x770.toInt.toNat x779.toInt) 114 0 := hf873 114 0 (by decide) (by decide) (by decide) (by decide)
                              have hk906 : u871 114 0 = u761 114 0 := by rw [hk906]; simp [gs]
                              refine cV (va_runV (C := RX9) (As := []) (rest := []) ⟨hx, hb, hml, hown, hA⟩ (k_X9_next l dC dI dA sz X Γ hU u871 h0 t_h0   (by omega)) ⟨callB_of 0 hA (al_A wd_5_74) rfl rfl rfl (hA _ wd_1_7) (hA _ wd_5_71) (by decide +kernel) ⟨Nat.le_of_ble_eq_true rfl, Nat.le_of_ble_eq_true rfl⟩, hA _ wd_5_73, hA _ ws_39⟩ ⟨bl, recv_X9 hE hG t_h0, fun U hU9 hW9 => ⟨rfl, by rw [hU9]; exact hG, hE.go hS hU9 hW9⟩⟩ rfl rfl hl.1 rfl (lv_room (Nat.le_of_ble_eq_true rfl)) dX9_readStatement_305 ⟨Nat.zero_le _, Nat.zero_le _⟩) hS (fun u907 H locs w908 hG hS => ?_)
                              obtain ⟨hf909, w908⟩ := w908
                              have hk910 : u907 119 0 = u871 119 0 := hf909 119 0 (by decide) (by decide) (by decide) (by decide)
                              have hk911 : u907 124 0 = u871 124 0 := hf909 124 0 (by decide) (by decide) (by decide) (by decide)
                              have hk912 : u871 124 0 = (gs u761 125 x770.toInt.toNat x779.toInt) 124 0 := hf873 124 0 (by decide) (by decide) (by decide) (by decide)
                              have hk912 : u871 124 0 = u761 124 0 := by rw [hk912]; simp [gs]
                              have hk913 : u761 124 0 = (gs (gs u731 124 0 x752.toInt) 125 x744.toInt.toNat x194.toInt) 124 0 := hf763 124 0 (by decide) (by decide) (by decide) (by decide)
                              have hk913 : u761 124 0 = x752.toInt := by rw [hk913]; simp [gs]
                              exact W.vret hx hb hr (fun t ht hW => ⟨⟨u907, rfl, ⟨(fun c j h115 h116 h117 h118 h119 h120 h124 h125 => by rw [hf909 c j h115 h116 h117 h118, hf873 c j h115 h116 h117 h118, gs_c _ _ _ _ h125, hf763 c j h115 h116 h117 h118, gs_c _ _ _ _ h125, gs_c _ _ _ _ h124, hf733 c j h119 h120]), (by omega)⟩, ok1 ht hG⟩, hS.F ht⟩) hS.2.2 dX9_readStatement_308
                          · skip
                            refine lv_aload_n hx hb dX9_readStatement_292 rfl (lv_at hl 2 rfl) ?_
                            refine ty_iconst hx hb (1) dX9_readStatement_293 (by decide) (fun x914 h915 => ?_)
                            refine cV (va_runV (C := RX9) (As := [.int x914]) (rest := []) ⟨hx, hb, hml, hown, hA⟩ (k_X9_fails l dC dI dA sz X Γ hU u871 h0 t_h0 x914   ) ⟨callB_of 1 hA (al_A wd_5_102) rfl rfl rfl (hA _ wd_1_7) (hA _ wd_5_99) (by decide +kernel) ⟨Nat.le_of_ble_eq_true rfl, Nat.le_of_ble_eq_true rfl⟩, hA _ wd_5_101, hA _ ws_43⟩ ⟨bl, recv_X9 hE hG t_h0, fun U hU9 hW9 => ⟨rfl, by rw [hU9]; exact hG, hE.go hS hU9 hW9⟩⟩ rfl rfl hl.1 rfl (lv_room (Nat.le_of_ble_eq_true rfl)) dX9_readStatement_294 ⟨Nat.zero_le _, Nat.zero_le _⟩) hS (fun u916 H locs w917 hG hS => ?_)
                            obtain ⟨hf918, w917⟩ := w917
                            refine lv_aload_n hx hb dX9_readStatement_297 rfl (lv_at hl 2 rfl) ?_
                            refine get_X9_19 hx hb hA hown hE hG t_h0 wd_4_149 dX9_readStatement_298 (fun x919 h920 => ?_)
                            refine ty_if_ne (tgt := 308) hx hb dX9_readStatement_301 (by decide) (fun c922 => ?_) (fun c922 => ?_)
                            · skip
                              have hk923 : u916 115 0 = u871 115 0 := hf918 115 0 (by decide) (by decide)
                              have hk924 : u916 116 0 = u871 116 0 := hf918 116 0 (by decide) (by decide)
                              have hk925 : u916 124 0 = u871 124 0 := hf918 124 0 (by decide) (by decide)
                              have hk926 : u871 124 0 = (gs u761 125 x770.toInt.toNat x779.toInt) 124 0 := hf873 124 0 (by decide) (by decide) (by decide) (by decide)
                              have hk926 : u871 124 0 = u761 124 0 := by rw [hk926]; simp [gs]
                              have hk927 : u761 124 0 = (gs (gs u731 124 0 x752.toInt) 125 x744.toInt.toNat x194.toInt) 124 0 := hf763 124 0 (by decide) (by decide) (by decide) (by decide)
                              have hk927 : u761 124 0 = x752.toInt := by rw [hk927]; simp [gs]
                              exact W.vret hx hb hr (fun t ht hW => ⟨⟨u916, rfl, ⟨(fun c j h115 h116 h117 h118 h119 h120 h124 h125 => by rw [hf918 c j h119 h120, hf873 c j h115 h116 h117 h118, gs_c _ _ _ _ h125, hf763 c j h115 h116 h117 h118, gs_c _ _ _ _ h125, gs_c _ _ _ _ h124, hf733 c j h119 h120]), (by omega)⟩, ok1 ht hG⟩, hS.F ht⟩) hS.2.2 dX9_readStatement_308
                            · skip
                              refine lv_aload_n hx hb dX9_readStatement_304 rfl (lv_at hl 2 rfl) ?_
                              have hk928 : u916 114 0 = u871 114 0 := hf918 114 0 (by decide) (by decide)
                              have hk929 : u871 114 0 = (gs u761 125 x770.toInt.toNat x779.toInt) 114 0 := hf873 114 0 (by decide) (by decide) (by decide) (by decide)
                              have hk929 : u871 114 0 = u761 114 0 := by rw [hk929]; simp [gs]
                              have hk930 : u916 115 0 = u871 115 0 := hf918 115 0 (by decide) (by decide)
                              refine cV (va_runV (C := RX9) (As := []) (rest := []) ⟨hx, hb, hml, hown, hA⟩ (k_X9_next l dC dI dA sz X Γ hU u916 h0 t_h0   (by omega)) ⟨callB_of 0 hA (al_A wd_5_74) rfl rfl rfl (hA _ wd_1_7) (hA _ wd_5_71) (by decide +kernel) ⟨Nat.le_of_ble_eq_true rfl, Nat.le_of_ble_eq_true rfl⟩, hA _ wd_5_73, hA _ ws_39⟩ ⟨bl, recv_X9 hE hG t_h0, fun U hU9 hW9 => ⟨rfl, by rw [hU9]; exact hG, hE.go hS hU9 hW9⟩⟩ rfl rfl hl.1 rfl (lv_room (Nat.le_of_ble_eq_true rfl)) dX9_readStatement_305 ⟨Nat.zero_le _, Nat.zero_le _⟩) hS (fun u931 H locs w932 hG hS => ?_)
                              obtain ⟨hf933, w932⟩ := w932
                              have hk934 : u931 119 0 = u916 119 0 := hf933 119 0 (by decide) (by decide) (by decide) (by decide)
                              have hk935 : u931 124 0 = u916 124 0 := hf933 124 0 (by decide) (by decide) (by decide) (by decide)
                              have hk936 : u916 124 0 = u871 124 0 := hf918 124 0 (by decide) (by decide)
                              have hk937 : u871 124 0 = (gs u761 125 x770.toInt.toNat x779.toInt) 124 0 := hf873 124 0 (by decide) (by decide) (by decide) (by decide)
                              have hk937 : u871 124 0 = u761 124 0 := by rw [hk937]; simp [gs]
                              have hk938 : u761 124 0 = (gs (gs u731 124 0 x752.toInt) 125 x744.toInt.toNat x194.toInt) 124 0 := hf763 124 0 (by decide) (by decide) (by decide) (by decide)
                              have hk938 : u761 124 0 = x752.toInt := by rw [hk938]; simp [gs]
                              exact W.vret hx hb hr (fun t ht hW => ⟨⟨u931, rfl, ⟨(fun c j h115 h116 h117 h118 h119 h120 h124 h125 => by rw [hf933 c j h115 h116 h117 h118, hf918 c j h119 h120, hf873 c j h115 h116 h117 h118, gs_c _ _ _ _ h125, hf763 c j h115 h116 h117 h118, gs_c _ _ _ _ h125, gs_c _ _ _ _ h124, hf733 c j h119 h120]), (by omega)⟩, ok1 ht hG⟩, hS.F ht⟩) hS.2.2 dX9_readStatement_308
                      · skip
                        refine lv_aload_n hx hb dX9_readStatement_162 rfl (lv_at hl 2 rfl) ?_
                        refine ty_iconst hx hb (1) dX9_readStatement_163 (by decide) (fun x939 h940 => ?_)
                        have hk941 : u761 119 0 = (gs (gs u731 124 0 x752.toInt) 125 x744.toInt.toNat x194.toInt) 119 0 := hf763 119 0 (by decide) (by decide) (by decide) (by decide)
                        have hk941 : u761 119 0 = u731 119 0 := by rw [hk941]; simp [gs]
                        have e942 : (gs u761 125 x770.toInt.toNat x779.toInt) 119 0 = u761 119 0 := by simp [gs]
                        have e943 : (gs u761 125 x770.toInt.toNat x779.toInt) 119 0 = u761 119 0 := by simp [gs]
                        refine cV (va_runV (C := RX9) (As := [.int x939]) (rest := []) ⟨hx, hb, hml, hown, hA⟩ (k_X9_fails l dC dI dA sz X Γ hU (gs u761 125 x770.toInt.toNat x779.toInt) h0 t_h0 x939   ) ⟨callB_of 1 hA (al_A wd_5_102) rfl rfl rfl (hA _ wd_1_7) (hA _ wd_5_99) (by decide +kernel) ⟨Nat.le_of_ble_eq_true rfl, Nat.le_of_ble_eq_true rfl⟩, hA _ wd_5_101, hA _ ws_43⟩ ⟨bl, recv_X9 hE hG t_h0, fun U hU9 hW9 => ⟨rfl, by rw [hU9]; exact hG, hE.go hS hU9 hW9⟩⟩ rfl rfl hl.1 rfl (lv_room (Nat.le_of_ble_eq_true rfl)) dX9_readStatement_164 ⟨Nat.zero_le _, Nat.zero_le _⟩) hS (fun u944 H locs w945 hG hS => ?_)
                        obtain ⟨hf946, w945⟩ := w945
                        refine lv_goto (tgt := 277) hx hb dX9_readStatement_167 (by decide) ?_
                        refine lv_aload_n hx hb dX9_readStatement_277 rfl (lv_at hl 2 rfl) ?_
                        refine get_X9_19 hx hb hA hown hE hG t_h0 wd_4_149 dX9_readStatement_278 (fun x947 h948 => ?_)
                        refine ty_if_ne (tgt := 297) hx hb dX9_readStatement_281 (by decide) (fun c950 => ?_) (fun c950 => ?_)
                        · skip
                          refine lv_aload_n hx hb dX9_readStatement_297 rfl (lv_at hl 2 rfl) ?_
                          refine get_X9_19 hx hb hA hown hE hG t_h0 wd_4_149 dX9_readStatement_298 (fun x951 h952 => ?_)
                          refine ty_if_ne (tgt := 308) hx hb dX9_readStatement_301 (by decide) (fun c954 => ?_) (fun c954 => ?_)
                          · skip
                            have hk955 : u944 115 0 = (gs u761 125 x770.toInt.toNat x779.toInt) 115 0 := hf946 115 0 (by decide) (by decide)
                            have hk955 : u944 115 0 = u761 115 0 := by rw [hk955]; simp [gs]
                            have hk956 : u944 116 0 = (gs u761 125 x770.toInt.toNat x779.toInt) 116 0 := hf946 116 0 (by decide) (by decide)
                            have hk956 : u944 116 0 = u761 116 0 := by rw [hk956]; simp [gs]
                            have hk957 : u944 124 0 = (gs u761 125 x770.toInt.toNat x779.toInt) 124 0 := hf946 124 0 (by decide) (by decide)
                            have hk957 : u944 124 0 = u761 124 0 := by rw [hk957]; simp [gs]
                            have hk958 : u761 124 0 = (gs (gs u731 124 0 x752.toInt) 125 x744.toInt.toNat x194.toInt) 124 0 := hf763 124 0 (by decide) (by decide) (by decide) (by decide)
                            have hk958 : u761 124 0 = x752.toInt := by rw [hk958]; simp [gs]
                            exact W.vret hx hb hr (fun t ht hW => ⟨⟨u944, rfl, ⟨(fun c j h115 h116 h117 h118 h119 h120 h124 h125 => by rw [hf946 c j h119 h120, gs_c _ _ _ _ h125, hf763 c j h115 h116 h117 h118, gs_c _ _ _ _ h125, gs_c _ _ _ _ h124, hf733 c j h119 h120]), (by omega)⟩, ok1 ht hG⟩, hS.F ht⟩) hS.2.2 dX9_readStatement_308
                          · skip
                            refine lv_aload_n hx hb dX9_readStatement_304 rfl (lv_at hl 2 rfl) ?_
                            have hk959 : u944 114 0 = (gs u761 125 x770.toInt.toNat x779.toInt) 114 0 := hf946 114 0 (by decide) (by decide)
                            have hk959 : u944 114 0 = u761 114 0 := by rw [hk959]; simp [gs]
                            have hk960 : u944 115 0 = (gs u761 125 x770.toInt.toNat x779.toInt) 115 0 := hf946 115 0 (by decide) (by decide)
                            have hk960 : u944 115 0 = u761 115 0 := by rw [hk960]; simp [gs]
                            refine cV (va_runV (C := RX9) (As := []) (rest := []) ⟨hx, hb, hml, hown, hA⟩ (k_X9_next l dC dI dA sz X Γ hU u944 h0 t_h0   (by omega)) ⟨callB_of 0 hA (al_A wd_5_74) rfl rfl rfl (hA _ wd_1_7) (hA _ wd_5_71) (by decide +kernel) ⟨Nat.le_of_ble_eq_true rfl, Nat.le_of_ble_eq_true rfl⟩, hA _ wd_5_73, hA _ ws_39⟩ ⟨bl, recv_X9 hE hG t_h0, fun U hU9 hW9 => ⟨rfl, by rw [hU9]; exact hG, hE.go hS hU9 hW9⟩⟩ rfl rfl hl.1 rfl (lv_room (Nat.le_of_ble_eq_true rfl)) dX9_readStatement_305 ⟨Nat.zero_le _, Nat.zero_le _⟩) hS (fun u961 H locs w962 hG hS => ?_)
                            obtain ⟨hf963, w962⟩ := w962
                            have hk964 : u961 119 0 = u944 119 0 := hf963 119 0 (by decide) (by decide) (by decide) (by decide)
                            have hk965 : u961 124 0 = u944 124 0 := hf963 124 0 (by decide) (by decide) (by decide) (by decide)
                            have hk966 : u944 124 0 = (gs u761 125 x770.toInt.toNat x779.toInt) 124 0 := hf946 124 0 (by decide) (by decide)
                            have hk966 : u944 124 0 = u761 124 0 := by rw [hk966]; simp [gs]
                            have hk967 : u761 124 0 = (gs (gs u731 124 0 x752.toInt) 125 x744.toInt.toNat x194.toInt) 124 0 := hf763 124 0 (by decide) (by decide) (by decide) (by decide)
                            have hk967 : u761 124 0 = x752.toInt := by rw [hk967]; simp [gs]
                            exact W.vret hx hb hr (fun t ht hW => ⟨⟨u961, rfl, ⟨(fun c j h115 h116 h117 h118 h119 h120 h124 h125 => by rw [hf963 c j h115 h116 h117 h118, hf946 c j h119 h120, gs_c _ _ _ _ h125, hf763 c j h115 h116 h117 h118, gs_c _ _ _ _ h125, gs_c _ _ _ _ h124, hf733 c j h119 h120]), (by omega)⟩, ok1 ht hG⟩, hS.F ht⟩) hS.2.2 dX9_readStatement_308
                        · skip
                          refine lv_aload_n hx hb dX9_readStatement_284 rfl (lv_at hl 2 rfl) ?_
                          refine get_X9_17 hx hb hA hown hE hG t_h0 wd_4_147 dX9_readStatement_285 (fun x968 h969 => ?_)
                          have hk971 : u944 117 0 = (gs u761 125 x770.toInt.toNat x779.toInt) 117 0 := hf946 117 0 (by decide) (by decide)
                          have hk971 : u944 117 0 = u761 117 0 := by rw [hk971]; simp [gs]
                          refine ty_iconst hx hb (4) dX9_readStatement_288 (by decide) (fun x972 h973 => ?_)
                          refine ty_icmp_eq (tgt := 297) hx hb dX9_readStatement_289 (by decide) (fun c974 => ?_) (fun c974 => ?_)
                          · skip
                            refine lv_aload_n hx hb dX9_readStatement_297 rfl (lv_at hl 2 rfl) ?_
                            refine get_X9_19 hx hb hA hown hE hG t_h0 wd_4_149 dX9_readStatement_298 (fun x975 h976 => ?_)
                            refine ty_if_ne (tgt := 308) hx hb dX9_readStatement_301 (by decide) (fun c978 => ?_) (fun c978 => ?_)
                            · skip
                              have hk979 : u944 115 0 = (gs u761 125 x770.toInt.toNat x779.toInt) 115 0 := hf946 115 0 (by decide) (by decide)
                              have hk979 : u944 115 0 = u761 115 0 := by rw [hk979]; simp [gs]
                              have hk980 : u944 116 0 = (gs u761 125 x770.toInt.toNat x779.toInt) 116 0 := hf946 116 0 (by decide) (by decide)
                              have hk980 : u944 116 0 = u761 116 0 := by rw [hk980]; simp [gs]
                              have hk981 : u944 124 0 = (gs u761 125 x770.toInt.toNat x779.toInt) 124 0 := hf946 124 0 (by decide) (by decide)
                              have hk981 : u944 124 0 = u761 124 0 := by rw [hk981]; simp [gs]
                              have hk982 : u761 124 0 = (gs (gs u731 124 0 x752.toInt) 125 x744.toInt.toNat x194.toInt) 124 0 := hf763 124 0 (by decide) (by decide) (by decide) (by decide)
                              have hk982 : u761 124 0 = x752.toInt := by rw [hk982]; simp [gs]
                              exact W.vret hx hb hr (fun t ht hW => ⟨⟨u944, rfl, ⟨(fun c j h115 h116 h117 h118 h119 h120 h124 h125 => by rw [hf946 c j h119 h120, gs_c _ _ _ _ h125, hf763 c j h115 h116 h117 h118, gs_c _ _ _ _ h125, gs_c _ _ _ _ h124, hf733 c j h119 h120]), (by omega)⟩, ok1 ht hG⟩, hS.F ht⟩) hS.2.2 dX9_readStatement_308
                            · skip
                              refine lv_aload_n hx hb dX9_readStatement_304 rfl (lv_at hl 2 rfl) ?_
                              have hk983 : u944 114 0 = (gs u761 125 x770.toInt.toNat x779.toInt) 114 0 := hf946 114 0 (by decide) (by decide)
                              have hk983 : u944 114 0 = u761 114 0 := by rw [hk983]; simp [gs]
                              have hk984 : u944 115 0 = (gs u761 125 x770.toInt.toNat x779.toInt) 115 0 := hf946 115 0 (by decide) (by decide)
                              have hk984 : u944 115 0 = u761 115 0 := by rw [hk984]; simp [gs]
                              refine cV (va_runV (C := RX9) (As := []) (rest := []) ⟨hx, hb, hml, hown, hA⟩ (k_X9_next l dC dI dA sz X Γ hU u944 h0 t_h0   (by omega)) ⟨callB_of 0 hA (al_A wd_5_74) rfl rfl rfl (hA _ wd_1_7) (hA _ wd_5_71) (by decide +kernel) ⟨Nat.le_of_ble_eq_true rfl, Nat.le_of_ble_eq_true rfl⟩, hA _ wd_5_73, hA _ ws_39⟩ ⟨bl, recv_X9 hE hG t_h0, fun U hU9 hW9 => ⟨rfl, by rw [hU9]; exact hG, hE.go hS hU9 hW9⟩⟩ rfl rfl hl.1 rfl (lv_room (Nat.le_of_ble_eq_true rfl)) dX9_readStatement_305 ⟨Nat.zero_le _, Nat.zero_le _⟩) hS (fun u985 H locs w986 hG hS => ?_)
                              obtain ⟨hf987, w986⟩ := w986
                              have hk988 : u985 119 0 = u944 119 0 := hf987 119 0 (by decide) (by decide) (by decide) (by decide)
                              have hk989 : u985 124 0 = u944 124 0 := hf987 124 0 (by decide) (by decide) (by decide) (by decide)
                              have hk990 : u944 124 0 = (gs u761 125 x770.toInt.toNat x779.toInt) 124 0 := hf946 124 0 (by decide) (by decide)
                              have hk990 : u944 124 0 = u761 124 0 := by rw [hk990]; simp [gs]
                              have hk991 : u761 124 0 = (gs (gs u731 124 0 x752.toInt) 125 x744.toInt.toNat x194.toInt) 124 0 := hf763 124 0 (by decide) (by decide) (by decide) (by decide)
                              have hk991 : u761 124 0 = x752.toInt := by rw [hk991]; simp [gs]
                              exact W.vret hx hb hr (fun t ht hW => ⟨⟨u985, rfl, ⟨(fun c j h115 h116 h117 h118 h119 h120 h124 h125 => by rw [hf987 c j h115 h116 h117 h118, hf946 c j h119 h120, gs_c _ _ _ _ h125, hf763 c j h115 h116 h117 h118, gs_c _ _ _ _ h125, gs_c _ _ _ _ h124, hf733 c j h119 h120]), (by omega)⟩, ok1 ht hG⟩, hS.F ht⟩) hS.2.2 dX9_readStatement_308
                          · skip
                            refine lv_aload_n hx hb dX9_readStatement_292 rfl (lv_at hl 2 rfl) ?_
                            refine ty_iconst hx hb (1) dX9_readStatement_293 (by decide) (fun x992 h993 => ?_)
                            refine cV (va_runV (C := RX9) (As := [.int x992]) (rest := []) ⟨hx, hb, hml, hown, hA⟩ (k_X9_fails l dC dI dA sz X Γ hU u944 h0 t_h0 x992   ) ⟨callB_of 1 hA (al_A wd_5_102) rfl rfl rfl (hA _ wd_1_7) (hA _ wd_5_99) (by decide +kernel) ⟨Nat.le_of_ble_eq_true rfl, Nat.le_of_ble_eq_true rfl⟩, hA _ wd_5_101, hA _ ws_43⟩ ⟨bl, recv_X9 hE hG t_h0, fun U hU9 hW9 => ⟨rfl, by rw [hU9]; exact hG, hE.go hS hU9 hW9⟩⟩ rfl rfl hl.1 rfl (lv_room (Nat.le_of_ble_eq_true rfl)) dX9_readStatement_294 ⟨Nat.zero_le _, Nat.zero_le _⟩) hS (fun u994 H locs w995 hG hS => ?_)
                            obtain ⟨hf996, w995⟩ := w995
                            refine lv_aload_n hx hb dX9_readStatement_297 rfl (lv_at hl 2 rfl) ?_
                            refine get_X9_19 hx hb hA hown hE hG t_h0 wd_4_149 dX9_readStatement_298 (fun x997 h998 => ?_)
                            refine ty_if_ne (tgt := 308) hx hb dX9_readStatement_301 (by decide) (fun c1000 => ?_) (fun c1000 => ?_)
                            · skip
                              have hk1001 : u994 115 0 = u944 115 0 := hf996 115 0 (by decide) (by decide)
                              have hk1002 : u944 115 0 = (gs u761 125 x770.toInt.toNat x779.toInt) 115 0 := hf946 115 0 (by decide) (by decide)
                              have hk1002 : u944 115 0 = u761 115 0 := by rw [hk1002]; simp [gs]
                              have hk1003 : u994 116 0 = u944 116 0 := hf996 116 0 (by decide) (by decide)
                              have hk1004 : u944 116 0 = (gs u761 125 x770.toInt.toNat x779.toInt) 116 0 := hf946 116 0 (by decide) (by decide)
                              have hk1004 : u944 116 0 = u761 116 0 := by rw [hk1004]; simp [gs]
                              have hk1005 : u994 124 0 = u944 124 0 := hf996 124 0 (by decide) (by decide)
                              have hk1006 : u944 124 0 = (gs u761 125 x770.toInt.toNat x779.toInt) 124 0 := hf946 124 0 (by decide) (by decide)
                              have hk1006 : u944 124 0 = u761 124 0 := by rw [hk1006]; simp [gs]
                              have hk1007 : u761 124 0 = (gs (gs u731 124 0 x752.toInt) 125 x744.toInt.toNat x194.toInt) 124 0 := hf763 124 0 (by decide) (by decide) (by decide) (by decide)
                              have hk1007 : u761 124 0 = x752.toInt := by rw [hk1007]; simp [gs]
                              exact W.vret hx hb hr (fun t ht hW => ⟨⟨u994, rfl, ⟨(fun c j h115 h116 h117 h118 h119 h120 h124 h125 => by rw [hf996 c j h119 h120, hf946 c j h119 h120, gs_c _ _ _ _ h125, hf763 c j h115 h116 h117 h118, gs_c _ _ _ _ h125, gs_c _ _ _ _ h124, hf733 c j h119 h120]), (by omega)⟩, ok1 ht hG⟩, hS.F ht⟩) hS.2.2 dX9_readStatement_308
                            · skip
                              refine lv_aload_n hx hb dX9_readStatement_304 rfl (lv_at hl 2 rfl) ?_
                              have hk1008 : u994 114 0 = u944 114 0 := hf996 114 0 (by decide) (by decide)
                              have hk1009 : u944 114 0 = (gs u761 125 x770.toInt.toNat x779.toInt) 114 0 := hf946 114 0 (by decide) (by decide)
                              have hk1009 : u944 114 0 = u761 114 0 := by rw [hk1009]; simp [gs]
                              have hk1010 : u994 115 0 = u944 115 0 := hf996 115 0 (by decide) (by decide)
                              have hk1011 : u944 115 0 = (gs u761 125 x770.toInt.toNat x779.toInt) 115 0 := hf946 115 0 (by decide) (by decide)
                              have hk1011 : u944 115 0 = u761 115 0 := by rw [hk1011]; simp [gs]
                              refine cV (va_runV (C := RX9) (As := []) (rest := []) ⟨hx, hb, hml, hown, hA⟩ (k_X9_next l dC dI dA sz X Γ hU u994 h0 t_h0   (by omega)) ⟨callB_of 0 hA (al_A wd_5_74) rfl rfl rfl (hA _ wd_1_7) (hA _ wd_5_71) (by decide +kernel) ⟨Nat.le_of_ble_eq_true rfl, Nat.le_of_ble_eq_true rfl⟩, hA _ wd_5_73, hA _ ws_39⟩ ⟨bl, recv_X9 hE hG t_h0, fun U hU9 hW9 => ⟨rfl, by rw [hU9]; exact hG, hE.go hS hU9 hW9⟩⟩ rfl rfl hl.1 rfl (lv_room (Nat.le_of_ble_eq_true rfl)) dX9_readStatement_305 ⟨Nat.zero_le _, Nat.zero_le _⟩) hS (fun u1012 H locs w1013 hG hS => ?_)
                              obtain ⟨hf1014, w1013⟩ := w1013
                              have hk1015 : u1012 119 0 = u994 119 0 := hf1014 119 0 (by decide) (by decide) (by decide) (by decide)
                              have hk1016 : u1012 124 0 = u994 124 0 := hf1014 124 0 (by decide) (by decide) (by decide) (by decide)
                              have hk1017 : u994 124 0 = u944 124 0 := hf996 124 0 (by decide) (by decide)
                              have hk1018 : u944 124 0 = (gs u761 125 x770.toInt.toNat x779.toInt) 124 0 := hf946 124 0 (by decide) (by decide)
                              have hk1018 : u944 124 0 = u761 124 0 := by rw [hk1018]; simp [gs]
                              have hk1019 : u761 124 0 = (gs (gs u731 124 0 x752.toInt) 125 x744.toInt.toNat x194.toInt) 124 0 := hf763 124 0 (by decide) (by decide) (by decide) (by decide)
                              have hk1019 : u761 124 0 = x752.toInt := by rw [hk1019]; simp [gs]
                              exact W.vret hx hb hr (fun t ht hW => ⟨⟨u1012, rfl, ⟨(fun c j h115 h116 h117 h118 h119 h120 h124 h125 => by rw [hf1014 c j h115 h116 h117 h118, hf996 c j h119 h120, hf946 c j h119 h120, gs_c _ _ _ _ h125, hf763 c j h115 h116 h117 h118, gs_c _ _ _ _ h125, gs_c _ _ _ _ h124, hf733 c j h119 h120]), (by omega)⟩, ok1 ht hG⟩, hS.F ht⟩) hS.2.2 dX9_readStatement_308
                  · skip
                    refine ty_iconst hx hb (1) dX9_readStatement_138 (by decide) (fun x1020 h1021 => ?_)
                    refine lv_goto (tgt := 143) hx hb dX9_readStatement_139 (by decide) ?_
                    refine ast_mI hx hb hE hG hS hU 25 rfl (n := 120) rfl (lo := -2147483648) (hi := 2147483647) rfl rfl rfl t_b767 (rgD _) (by omega) dX9_readStatement_143 (fun H locs hG hS => ?_)
                    refine lv_aload_n hx hb dX9_readStatement_144 rfl (lv_at hl 2 rfl) ?_
                    refine va_ldcS hx hb hown (hES.1 10 (by decide)).1 dX9_readStatement_145 ?_
                    have e1022 : (gs u761 125 x770.toInt.toNat x1020.toInt) 114 0 = u761 114 0 := by simp [gs]
                    have e1023 : (gs u761 125 x770.toInt.toNat x1020.toInt) 115 0 = u761 115 0 := by simp [gs]
                    have e1024 : (gs u761 125 x770.toInt.toNat x1020.toInt) 116 0 = u761 116 0 := by simp [gs]
                    refine cI (va_runV (C := RX9) (As := [.ref (dI 100 10)]) (rest := []) ⟨hx, hb, hml, hown, hA⟩ (k_X9_isWord l dC dI dA sz X Γ hU (gs u761 125 x770.toInt.toNat x1020.toInt) h0 t_h0 10 (by decide)   (by omega)) ⟨callB_of 1 hA (al_A wd_5_93) rfl rfl rfl (hA _ wd_1_7) (hA _ wd_5_90) (by decide +kernel) ⟨Nat.le_of_ble_eq_true rfl, Nat.le_of_ble_eq_true rfl⟩, hA _ wd_5_92, hA _ ws_42⟩ ⟨bl, recv_X9 hE hG t_h0, fun U hU9 hW9 => ⟨rfl, by rw [hU9]; exact hG, hE.go hS hU9 hW9⟩⟩ rfl rfl hl.1 rfl (lv_room (Nat.le_of_ble_eq_true rfl)) dX9_readStatement_147 ⟨Nat.zero_le _, Nat.zero_le _⟩) hS (fun x1027 u1025 H locs w1026 hG hS => ?_)
                    obtain ⟨eu1028, w1026⟩ := w1026
                    rw [eu1028] at hG
                    refine ty_if_ne (tgt := 170) hx hb dX9_readStatement_150 (by decide) (fun c1029 => ?_) (fun c1029 => ?_)
                    · skip
                      refine lv_aload_n hx hb dX9_readStatement_170 rfl (lv_at hl 2 rfl) ?_
                      have e1030 : (gs u761 125 x770.toInt.toNat x1020.toInt) 114 0 = u761 114 0 := by simp [gs]
                      have e1031 : (gs u761 125 x770.toInt.toNat x1020.toInt) 115 0 = u761 115 0 := by simp [gs]
                      have e1032 : (gs u761 125 x770.toInt.toNat x1020.toInt) 114 0 = u761 114 0 := by simp [gs]
                      refine cV (va_runV (C := RX9) (As := []) (rest := []) ⟨hx, hb, hml, hown, hA⟩ (k_X9_next l dC dI dA sz X Γ hU (gs u761 125 x770.toInt.toNat x1020.toInt) h0 t_h0   (by omega)) ⟨callB_of 0 hA (al_A wd_5_74) rfl rfl rfl (hA _ wd_1_7) (hA _ wd_5_71) (by decide +kernel) ⟨Nat.le_of_ble_eq_true rfl, Nat.le_of_ble_eq_true rfl⟩, hA _ wd_5_73, hA _ ws_39⟩ ⟨bl, recv_X9 hE hG t_h0, fun U hU9 hW9 => ⟨rfl, by rw [hU9]; exact hG, hE.go hS hU9 hW9⟩⟩ rfl rfl hl.1 rfl (lv_room (Nat.le_of_ble_eq_true rfl)) dX9_readStatement_171 ⟨Nat.zero_le _, Nat.zero_le _⟩) hS (fun u1033 H locs w1034 hG hS => ?_)
                      obtain ⟨hf1035, w1034⟩ := w1034
                      refine lv_goto (tgt := 277) hx hb dX9_readStatement_174 (by decide) ?_
                      refine lv_aload_n hx hb dX9_readStatement_277 rfl (lv_at hl 2 rfl) ?_
                      refine get_X9_19 hx hb hA hown hE hG t_h0 wd_4_149 dX9_readStatement_278 (fun x1036 h1037 => ?_)
                      have hk1039 : u1033 119 0 = (gs u761 125 x770.toInt.toNat x1020.toInt) 119 0 := hf1035 119 0 (by decide) (by decide) (by decide) (by decide)
                      have hk1039 : u1033 119 0 = u761 119 0 := by rw [hk1039]; simp [gs]
                      have hk1040 : u761 119 0 = (gs (gs u731 124 0 x752.toInt) 125 x744.toInt.toNat x194.toInt) 119 0 := hf763 119 0 (by decide) (by decide) (by decide) (by decide)
                      have hk1040 : u761 119 0 = u731 119 0 := by rw [hk1040]; simp [gs]
                      refine ty_if_ne (tgt := 297) hx hb dX9_readStatement_281 (by decide) (fun c1041 => ?_) (fun c1041 => ?_)
                      · skip
                        refine lv_aload_n hx hb dX9_readStatement_297 rfl (lv_at hl 2 rfl) ?_
                        refine get_X9_19 hx hb hA hown hE hG t_h0 wd_4_149 dX9_readStatement_298 (fun x1042 h1043 => ?_)
                        refine ty_if_ne (tgt := 308) hx hb dX9_readStatement_301 (by decide) (fun c1045 => ?_) (fun c1045 => ?_)
                        · skip
                          have hk1046 : u1033 124 0 = (gs u761 125 x770.toInt.toNat x1020.toInt) 124 0 := hf1035 124 0 (by decide) (by decide) (by decide) (by decide)
                          have hk1046 : u1033 124 0 = u761 124 0 := by rw [hk1046]; simp [gs]
                          have hk1047 : u761 124 0 = (gs (gs u731 124 0 x752.toInt) 125 x744.toInt.toNat x194.toInt) 124 0 := hf763 124 0 (by decide) (by decide) (by decide) (by decide)
                          have hk1047 : u761 124 0 = x752.toInt := by rw [hk1047]; simp [gs]
                          exact W.vret hx hb hr (fun t ht hW => ⟨⟨u1033, rfl, ⟨(fun c j h115 h116 h117 h118 h119 h120 h124 h125 => by rw [hf1035 c j h115 h116 h117 h118, gs_c _ _ _ _ h125, hf763 c j h115 h116 h117 h118, gs_c _ _ _ _ h125, gs_c _ _ _ _ h124, hf733 c j h119 h120]), (by omega)⟩, ok1 ht hG⟩, hS.F ht⟩) hS.2.2 dX9_readStatement_308
                        · skip
                          refine lv_aload_n hx hb dX9_readStatement_304 rfl (lv_at hl 2 rfl) ?_
                          have hk1048 : u1033 114 0 = (gs u761 125 x770.toInt.toNat x1020.toInt) 114 0 := hf1035 114 0 (by decide) (by decide) (by decide) (by decide)
                          have hk1048 : u1033 114 0 = u761 114 0 := by rw [hk1048]; simp [gs]
                          refine cV (va_runV (C := RX9) (As := []) (rest := []) ⟨hx, hb, hml, hown, hA⟩ (k_X9_next l dC dI dA sz X Γ hU u1033 h0 t_h0   (by omega)) ⟨callB_of 0 hA (al_A wd_5_74) rfl rfl rfl (hA _ wd_1_7) (hA _ wd_5_71) (by decide +kernel) ⟨Nat.le_of_ble_eq_true rfl, Nat.le_of_ble_eq_true rfl⟩, hA _ wd_5_73, hA _ ws_39⟩ ⟨bl, recv_X9 hE hG t_h0, fun U hU9 hW9 => ⟨rfl, by rw [hU9]; exact hG, hE.go hS hU9 hW9⟩⟩ rfl rfl hl.1 rfl (lv_room (Nat.le_of_ble_eq_true rfl)) dX9_readStatement_305 ⟨Nat.zero_le _, Nat.zero_le _⟩) hS (fun u1049 H locs w1050 hG hS => ?_)
                          obtain ⟨hf1051, w1050⟩ := w1050
                          have hk1052 : u1049 119 0 = u1033 119 0 := hf1051 119 0 (by decide) (by decide) (by decide) (by decide)
                          have hk1053 : u1049 124 0 = u1033 124 0 := hf1051 124 0 (by decide) (by decide) (by decide) (by decide)
                          have hk1054 : u1033 124 0 = (gs u761 125 x770.toInt.toNat x1020.toInt) 124 0 := hf1035 124 0 (by decide) (by decide) (by decide) (by decide)
                          have hk1054 : u1033 124 0 = u761 124 0 := by rw [hk1054]; simp [gs]
                          have hk1055 : u761 124 0 = (gs (gs u731 124 0 x752.toInt) 125 x744.toInt.toNat x194.toInt) 124 0 := hf763 124 0 (by decide) (by decide) (by decide) (by decide)
                          have hk1055 : u761 124 0 = x752.toInt := by rw [hk1055]; simp [gs]
                          exact W.vret hx hb hr (fun t ht hW => ⟨⟨u1049, rfl, ⟨(fun c j h115 h116 h117 h118 h119 h120 h124 h125 => by rw [hf1051 c j h115 h116 h117 h118, hf1035 c j h115 h116 h117 h118, gs_c _ _ _ _ h125, hf763 c j h115 h116 h117 h118, gs_c _ _ _ _ h125, gs_c _ _ _ _ h124, hf733 c j h119 h120]), (by omega)⟩, ok1 ht hG⟩, hS.F ht⟩) hS.2.2 dX9_readStatement_308
                      · skip
                        refine lv_aload_n hx hb dX9_readStatement_284 rfl (lv_at hl 2 rfl) ?_
                        refine get_X9_17 hx hb hA hown hE hG t_h0 wd_4_147 dX9_readStatement_285 (fun x1056 h1057 => ?_)
                        refine ty_iconst hx hb (4) dX9_readStatement_288 (by decide) (fun x1059 h1060 => ?_)
                        refine ty_icmp_eq (tgt := 297) hx hb dX9_readStatement_289 (by decide) (fun c1061 => ?_) (fun c1061 => ?_)
                        · skip
                          refine lv_aload_n hx hb dX9_readStatement_297 rfl (lv_at hl 2 rfl) ?_
                          refine get_X9_19 hx hb hA hown hE hG t_h0 wd_4_149 dX9_readStatement_298 (fun x1062 h1063 => ?_)
                          refine ty_if_ne (tgt := 308) hx hb dX9_readStatement_301 (by decide) (fun c1065 => ?_) (fun c1065 => ?_)
                          · skip
                            have hk1066 : u1033 124 0 = (gs u761 125 x770.toInt.toNat x1020.toInt) 124 0 := hf1035 124 0 (by decide) (by decide) (by decide) (by decide)
                            have hk1066 : u1033 124 0 = u761 124 0 := by rw [hk1066]; simp [gs]
                            have hk1067 : u761 124 0 = (gs (gs u731 124 0 x752.toInt) 125 x744.toInt.toNat x194.toInt) 124 0 := hf763 124 0 (by decide) (by decide) (by decide) (by decide)
                            have hk1067 : u761 124 0 = x752.toInt := by rw [hk1067]; simp [gs]
                            exact W.vret hx hb hr (fun t ht hW => ⟨⟨u1033, rfl, ⟨(fun c j h115 h116 h117 h118 h119 h120 h124 h125 => by rw [hf1035 c j h115 h116 h117 h118, gs_c _ _ _ _ h125, hf763 c j h115 h116 h117 h118, gs_c _ _ _ _ h125, gs_c _ _ _ _ h124, hf733 c j h119 h120]), (by omega)⟩, ok1 ht hG⟩, hS.F ht⟩) hS.2.2 dX9_readStatement_308
                          · skip
                            refine lv_aload_n hx hb dX9_readStatement_304 rfl (lv_at hl 2 rfl) ?_
                            have hk1068 : u1033 114 0 = (gs u761 125 x770.toInt.toNat x1020.toInt) 114 0 := hf1035 114 0 (by decide) (by decide) (by decide) (by decide)
                            have hk1068 : u1033 114 0 = u761 114 0 := by rw [hk1068]; simp [gs]
                            refine cV (va_runV (C := RX9) (As := []) (rest := []) ⟨hx, hb, hml, hown, hA⟩ (k_X9_next l dC dI dA sz X Γ hU u1033 h0 t_h0   (by omega)) ⟨callB_of 0 hA (al_A wd_5_74) rfl rfl rfl (hA _ wd_1_7) (hA _ wd_5_71) (by decide +kernel) ⟨Nat.le_of_ble_eq_true rfl, Nat.le_of_ble_eq_true rfl⟩, hA _ wd_5_73, hA _ ws_39⟩ ⟨bl, recv_X9 hE hG t_h0, fun U hU9 hW9 => ⟨rfl, by rw [hU9]; exact hG, hE.go hS hU9 hW9⟩⟩ rfl rfl hl.1 rfl (lv_room (Nat.le_of_ble_eq_true rfl)) dX9_readStatement_305 ⟨Nat.zero_le _, Nat.zero_le _⟩) hS (fun u1069 H locs w1070 hG hS => ?_)
                            obtain ⟨hf1071, w1070⟩ := w1070
                            have hk1072 : u1069 119 0 = u1033 119 0 := hf1071 119 0 (by decide) (by decide) (by decide) (by decide)
                            have hk1073 : u1069 124 0 = u1033 124 0 := hf1071 124 0 (by decide) (by decide) (by decide) (by decide)
                            have hk1074 : u1033 124 0 = (gs u761 125 x770.toInt.toNat x1020.toInt) 124 0 := hf1035 124 0 (by decide) (by decide) (by decide) (by decide)
                            have hk1074 : u1033 124 0 = u761 124 0 := by rw [hk1074]; simp [gs]
                            have hk1075 : u761 124 0 = (gs (gs u731 124 0 x752.toInt) 125 x744.toInt.toNat x194.toInt) 124 0 := hf763 124 0 (by decide) (by decide) (by decide) (by decide)
                            have hk1075 : u761 124 0 = x752.toInt := by rw [hk1075]; simp [gs]
                            exact W.vret hx hb hr (fun t ht hW => ⟨⟨u1069, rfl, ⟨(fun c j h115 h116 h117 h118 h119 h120 h124 h125 => by rw [hf1071 c j h115 h116 h117 h118, hf1035 c j h115 h116 h117 h118, gs_c _ _ _ _ h125, hf763 c j h115 h116 h117 h118, gs_c _ _ _ _ h125, gs_c _ _ _ _ h124, hf733 c j h119 h120]), (by omega)⟩, ok1 ht hG⟩, hS.F ht⟩) hS.2.2 dX9_readStatement_308
                        · skip
                          refine lv_aload_n hx hb dX9_readStatement_292 rfl (lv_at hl 2 rfl) ?_
                          refine ty_iconst hx hb (1) dX9_readStatement_293 (by decide) (fun x1076 h1077 => ?_)
                          refine cV (va_runV (C := RX9) (As := [.int x1076]) (rest := []) ⟨hx, hb, hml, hown, hA⟩ (k_X9_fails l dC dI dA sz X Γ hU u1033 h0 t_h0 x1076   ) ⟨callB_of 1 hA (al_A wd_5_102) rfl rfl rfl (hA _ wd_1_7) (hA _ wd_5_99) (by decide +kernel) ⟨Nat.le_of_ble_eq_true rfl, Nat.le_of_ble_eq_true rfl⟩, hA _ wd_5_101, hA _ ws_43⟩ ⟨bl, recv_X9 hE hG t_h0, fun U hU9 hW9 => ⟨rfl, by rw [hU9]; exact hG, hE.go hS hU9 hW9⟩⟩ rfl rfl hl.1 rfl (lv_room (Nat.le_of_ble_eq_true rfl)) dX9_readStatement_294 ⟨Nat.zero_le _, Nat.zero_le _⟩) hS (fun u1078 H locs w1079 hG hS => ?_)
                          obtain ⟨hf1080, w1079⟩ := w1079
                          refine lv_aload_n hx hb dX9_readStatement_297 rfl (lv_at hl 2 rfl) ?_
                          refine get_X9_19 hx hb hA hown hE hG t_h0 wd_4_149 dX9_readStatement_298 (fun x1081 h1082 => ?_)
                          refine ty_if_ne (tgt := 308) hx hb dX9_readStatement_301 (by decide) (fun c1084 => ?_) (fun c1084 => ?_)
                          · skip
                            have hk1085 : u1078 115 0 = u1033 115 0 := hf1080 115 0 (by decide) (by decide)
                            have hk1086 : u1078 116 0 = u1033 116 0 := hf1080 116 0 (by decide) (by decide)
                            have hk1087 : u1078 124 0 = u1033 124 0 := hf1080 124 0 (by decide) (by decide)
                            have hk1088 : u1033 124 0 = (gs u761 125 x770.toInt.toNat x1020.toInt) 124 0 := hf1035 124 0 (by decide) (by decide) (by decide) (by decide)
                            have hk1088 : u1033 124 0 = u761 124 0 := by rw [hk1088]; simp [gs]
                            have hk1089 : u761 124 0 = (gs (gs u731 124 0 x752.toInt) 125 x744.toInt.toNat x194.toInt) 124 0 := hf763 124 0 (by decide) (by decide) (by decide) (by decide)
                            have hk1089 : u761 124 0 = x752.toInt := by rw [hk1089]; simp [gs]
                            exact W.vret hx hb hr (fun t ht hW => ⟨⟨u1078, rfl, ⟨(fun c j h115 h116 h117 h118 h119 h120 h124 h125 => by rw [hf1080 c j h119 h120, hf1035 c j h115 h116 h117 h118, gs_c _ _ _ _ h125, hf763 c j h115 h116 h117 h118, gs_c _ _ _ _ h125, gs_c _ _ _ _ h124, hf733 c j h119 h120]), (by omega)⟩, ok1 ht hG⟩, hS.F ht⟩) hS.2.2 dX9_readStatement_308
                          · skip
                            refine lv_aload_n hx hb dX9_readStatement_304 rfl (lv_at hl 2 rfl) ?_
                            have hk1090 : u1078 114 0 = u1033 114 0 := hf1080 114 0 (by decide) (by decide)
                            have hk1091 : u1033 114 0 = (gs u761 125 x770.toInt.toNat x1020.toInt) 114 0 := hf1035 114 0 (by decide) (by decide) (by decide) (by decide)
                            have hk1091 : u1033 114 0 = u761 114 0 := by rw [hk1091]; simp [gs]
                            have hk1092 : u1078 115 0 = u1033 115 0 := hf1080 115 0 (by decide) (by decide)
                            refine cV (va_runV (C := RX9) (As := []) (rest := []) ⟨hx, hb, hml, hown, hA⟩ (k_X9_next l dC dI dA sz X Γ hU u1078 h0 t_h0   (by omega)) ⟨callB_of 0 hA (al_A wd_5_74) rfl rfl rfl (hA _ wd_1_7) (hA _ wd_5_71) (by decide +kernel) ⟨Nat.le_of_ble_eq_true rfl, Nat.le_of_ble_eq_true rfl⟩, hA _ wd_5_73, hA _ ws_39⟩ ⟨bl, recv_X9 hE hG t_h0, fun U hU9 hW9 => ⟨rfl, by rw [hU9]; exact hG, hE.go hS hU9 hW9⟩⟩ rfl rfl hl.1 rfl (lv_room (Nat.le_of_ble_eq_true rfl)) dX9_readStatement_305 ⟨Nat.zero_le _, Nat.zero_le _⟩) hS (fun u1093 H locs w1094 hG hS => ?_)
                            obtain ⟨hf1095, w1094⟩ := w1094
                            have hk1096 : u1093 119 0 = u1078 119 0 := hf1095 119 0 (by decide) (by decide) (by decide) (by decide)
                            have hk1097 : u1093 124 0 = u1078 124 0 := hf1095 124 0 (by decide) (by decide) (by decide) (by decide)
                            have hk1098 : u1078 124 0 = u1033 124 0 := hf1080 124 0 (by decide) (by decide)
                            have hk1099 : u1033 124 0 = (gs u761 125 x770.toInt.toNat x1020.toInt) 124 0 := hf1035 124 0 (by decide) (by decide) (by decide) (by decide)
                            have hk1099 : u1033 124 0 = u761 124 0 := by rw [hk1099]; simp [gs]
                            have hk1100 : u761 124 0 = (gs (gs u731 124 0 x752.toInt) 125 x744.toInt.toNat x194.toInt) 124 0 := hf763 124 0 (by decide) (by decide) (by decide) (by decide)
                            have hk1100 : u761 124 0 = x752.toInt := by rw [hk1100]; simp [gs]
                            exact W.vret hx hb hr (fun t ht hW => ⟨⟨u1093, rfl, ⟨(fun c j h115 h116 h117 h118 h119 h120 h124 h125 => by rw [hf1095 c j h115 h116 h117 h118, hf1080 c j h119 h120, hf1035 c j h115 h116 h117 h118, gs_c _ _ _ _ h125, hf763 c j h115 h116 h117 h118, gs_c _ _ _ _ h125, gs_c _ _ _ _ h124, hf733 c j h119 h120]), (by omega)⟩, ok1 ht hG⟩, hS.F ht⟩) hS.2.2 dX9_readStatement_308
                    · skip
                      refine lv_aload_n hx hb dX9_readStatement_153 rfl (lv_at hl 2 rfl) ?_
                      refine va_ldcS hx hb hown (hES.1 11 (by decide)).1 dX9_readStatement_154 ?_
                      have e1101 : (gs u761 125 x770.toInt.toNat x1020.toInt) 114 0 = u761 114 0 := by simp [gs]
                      have e1102 : (gs u761 125 x770.toInt.toNat x1020.toInt) 115 0 = u761 115 0 := by simp [gs]
                      have e1103 : (gs u761 125 x770.toInt.toNat x1020.toInt) 116 0 = u761 116 0 := by simp [gs]
                      refine cI (va_runV (C := RX9) (As := [.ref (dI 100 11)]) (rest := []) ⟨hx, hb, hml, hown, hA⟩ (k_X9_isWord l dC dI dA sz X Γ hU (gs u761 125 x770.toInt.toNat x1020.toInt) h0 t_h0 11 (by decide)   (by omega)) ⟨callB_of 1 hA (al_A wd_5_93) rfl rfl rfl (hA _ wd_1_7) (hA _ wd_5_90) (by decide +kernel) ⟨Nat.le_of_ble_eq_true rfl, Nat.le_of_ble_eq_true rfl⟩, hA _ wd_5_92, hA _ ws_42⟩ ⟨bl, recv_X9 hE hG t_h0, fun U hU9 hW9 => ⟨rfl, by rw [hU9]; exact hG, hE.go hS hU9 hW9⟩⟩ rfl rfl hl.1 rfl (lv_room (Nat.le_of_ble_eq_true rfl)) dX9_readStatement_156 ⟨Nat.zero_le _, Nat.zero_le _⟩) hS (fun x1106 u1104 H locs w1105 hG hS => ?_)
                      obtain ⟨eu1107, w1105⟩ := w1105
                      rw [eu1107] at hG
                      refine ty_if_ne (tgt := 170) hx hb dX9_readStatement_159 (by decide) (fun c1108 => ?_) (fun c1108 => ?_)
                      · skip
                        refine lv_aload_n hx hb dX9_readStatement_170 rfl (lv_at hl 2 rfl) ?_
                        have e1109 : (gs u761 125 x770.toInt.toNat x1020.toInt) 114 0 = u761 114 0 := by simp [gs]
                        have e1110 : (gs u761 125 x770.toInt.toNat x1020.toInt) 115 0 = u761 115 0 := by simp [gs]
                        have e1111 : (gs u761 125 x770.toInt.toNat x1020.toInt) 114 0 = u761 114 0 := by simp [gs]
                        refine cV (va_runV (C := RX9) (As := []) (rest := []) ⟨hx, hb, hml, hown, hA⟩ (k_X9_next l dC dI dA sz X Γ hU (gs u761 125 x770.toInt.toNat x1020.toInt) h0 t_h0   (by omega)) ⟨callB_of 0 hA (al_A wd_5_74) rfl rfl rfl (hA _ wd_1_7) (hA _ wd_5_71) (by decide +kernel) ⟨Nat.le_of_ble_eq_true rfl, Nat.le_of_ble_eq_true rfl⟩, hA _ wd_5_73, hA _ ws_39⟩ ⟨bl, recv_X9 hE hG t_h0, fun U hU9 hW9 => ⟨rfl, by rw [hU9]; exact hG, hE.go hS hU9 hW9⟩⟩ rfl rfl hl.1 rfl (lv_room (Nat.le_of_ble_eq_true rfl)) dX9_readStatement_171 ⟨Nat.zero_le _, Nat.zero_le _⟩) hS (fun u1112 H locs w1113 hG hS => ?_)
                        obtain ⟨hf1114, w1113⟩ := w1113
                        refine lv_goto (tgt := 277) hx hb dX9_readStatement_174 (by decide) ?_
                        refine lv_aload_n hx hb dX9_readStatement_277 rfl (lv_at hl 2 rfl) ?_
                        refine get_X9_19 hx hb hA hown hE hG t_h0 wd_4_149 dX9_readStatement_278 (fun x1115 h1116 => ?_)
                        have hk1118 : u1112 119 0 = (gs u761 125 x770.toInt.toNat x1020.toInt) 119 0 := hf1114 119 0 (by decide) (by decide) (by decide) (by decide)
                        have hk1118 : u1112 119 0 = u761 119 0 := by rw [hk1118]; simp [gs]
                        have hk1119 : u761 119 0 = (gs (gs u731 124 0 x752.toInt) 125 x744.toInt.toNat x194.toInt) 119 0 := hf763 119 0 (by decide) (by decide) (by decide) (by decide)
                        have hk1119 : u761 119 0 = u731 119 0 := by rw [hk1119]; simp [gs]
                        refine ty_if_ne (tgt := 297) hx hb dX9_readStatement_281 (by decide) (fun c1120 => ?_) (fun c1120 => ?_)
                        · skip
                          refine lv_aload_n hx hb dX9_readStatement_297 rfl (lv_at hl 2 rfl) ?_
                          refine get_X9_19 hx hb hA hown hE hG t_h0 wd_4_149 dX9_readStatement_298 (fun x1121 h1122 => ?_)
                          refine ty_if_ne (tgt := 308) hx hb dX9_readStatement_301 (by decide) (fun c1124 => ?_) (fun c1124 => ?_)
                          · skip
                            have hk1125 : u1112 124 0 = (gs u761 125 x770.toInt.toNat x1020.toInt) 124 0 := hf1114 124 0 (by decide) (by decide) (by decide) (by decide)
                            have hk1125 : u1112 124 0 = u761 124 0 := by rw [hk1125]; simp [gs]
                            have hk1126 : u761 124 0 = (gs (gs u731 124 0 x752.toInt) 125 x744.toInt.toNat x194.toInt) 124 0 := hf763 124 0 (by decide) (by decide) (by decide) (by decide)
                            have hk1126 : u761 124 0 = x752.toInt := by rw [hk1126]; simp [gs]
                            exact W.vret hx hb hr (fun t ht hW => ⟨⟨u1112, rfl, ⟨(fun c j h115 h116 h117 h118 h119 h120 h124 h125 => by rw [hf1114 c j h115 h116 h117 h118, gs_c _ _ _ _ h125, hf763 c j h115 h116 h117 h118, gs_c _ _ _ _ h125, gs_c _ _ _ _ h124, hf733 c j h119 h120]), (by omega)⟩, ok1 ht hG⟩, hS.F ht⟩) hS.2.2 dX9_readStatement_308
                          · skip
                            refine lv_aload_n hx hb dX9_readStatement_304 rfl (lv_at hl 2 rfl) ?_
                            have hk1127 : u1112 114 0 = (gs u761 125 x770.toInt.toNat x1020.toInt) 114 0 := hf1114 114 0 (by decide) (by decide) (by decide) (by decide)
                            have hk1127 : u1112 114 0 = u761 114 0 := by rw [hk1127]; simp [gs]
                            refine cV (va_runV (C := RX9) (As := []) (rest := []) ⟨hx, hb, hml, hown, hA⟩ (k_X9_next l dC dI dA sz X Γ hU u1112 h0 t_h0   (by omega)) ⟨callB_of 0 hA (al_A wd_5_74) rfl rfl rfl (hA _ wd_1_7) (hA _ wd_5_71) (by decide +kernel) ⟨Nat.le_of_ble_eq_true rfl, Nat.le_of_ble_eq_true rfl⟩, hA _ wd_5_73, hA _ ws_39⟩ ⟨bl, recv_X9 hE hG t_h0, fun U hU9 hW9 => ⟨rfl, by rw [hU9]; exact hG, hE.go hS hU9 hW9⟩⟩ rfl rfl hl.1 rfl (lv_room (Nat.le_of_ble_eq_true rfl)) dX9_readStatement_305 ⟨Nat.zero_le _, Nat.zero_le _⟩) hS (fun u1128 H locs w1129 hG hS => ?_)
                            obtain ⟨hf1130, w1129⟩ := w1129
                            have hk1131 : u1128 119 0 = u1112 119 0 := hf1130 119 0 (by decide) (by decide) (by decide) (by decide)
                            have hk1132 : u1128 124 0 = u1112 124 0 := hf1130 124 0 (by decide) (by decide) (by decide) (by decide)
                            have hk1133 : u1112 124 0 = (gs u761 125 x770.toInt.toNat x1020.toInt) 124 0 := hf1114 124 0 (by decide) (by decide) (by decide) (by decide)
                            have hk1133 : u1112 124 0 = u761 124 0 := by rw [hk1133]; simp [gs]
                            have hk1134 : u761 124 0 = (gs (gs u731 124 0 x752.toInt) 125 x744.toInt.toNat x194.toInt) 124 0 := hf763 124 0 (by decide) (by decide) (by decide) (by decide)
                            have hk1134 : u761 124 0 = x752.toInt := by rw [hk1134]; simp [gs]
                            exact W.vret hx hb hr (fun t ht hW => ⟨⟨u1128, rfl, ⟨(fun c j h115 h116 h117 h118 h119 h120 h124 h125 => by rw [hf1130 c j h115 h116 h117 h118, hf1114 c j h115 h116 h117 h118, gs_c _ _ _ _ h125, hf763 c j h115 h116 h117 h118, gs_c _ _ _ _ h125, gs_c _ _ _ _ h124, hf733 c j h119 h120]), (by omega)⟩, ok1 ht hG⟩, hS.F ht⟩) hS.2.2 dX9_readStatement_308
                        · skip
                          refine lv_aload_n hx hb dX9_readStatement_284 rfl (lv_at hl 2 rfl) ?_
                          refine get_X9_17 hx hb hA hown hE hG t_h0 wd_4_147 dX9_readStatement_285 (fun x1135 h1136 => ?_)
                          refine ty_iconst hx hb (4) dX9_readStatement_288 (by decide) (fun x1138 h1139 => ?_)
                          refine ty_icmp_eq (tgt := 297) hx hb dX9_readStatement_289 (by decide) (fun c1140 => ?_) (fun c1140 => ?_)
                          · skip
                            refine lv_aload_n hx hb dX9_readStatement_297 rfl (lv_at hl 2 rfl) ?_
                            refine get_X9_19 hx hb hA hown hE hG t_h0 wd_4_149 dX9_readStatement_298 (fun x1141 h1142 => ?_)
                            refine ty_if_ne (tgt := 308) hx hb dX9_readStatement_301 (by decide) (fun c1144 => ?_) (fun c1144 => ?_)
                            · skip
                              have hk1145 : u1112 124 0 = (gs u761 125 x770.toInt.toNat x1020.toInt) 124 0 := hf1114 124 0 (by decide) (by decide) (by decide) (by decide)
                              have hk1145 : u1112 124 0 = u761 124 0 := by rw [hk1145]; simp [gs]
                              have hk1146 : u761 124 0 = (gs (gs u731 124 0 x752.toInt) 125 x744.toInt.toNat x194.toInt) 124 0 := hf763 124 0 (by decide) (by decide) (by decide) (by decide)
                              have hk1146 : u761 124 0 = x752.toInt := by rw [hk1146]; simp [gs]
                              exact W.vret hx hb hr (fun t ht hW => ⟨⟨u1112, rfl, ⟨(fun c j h115 h116 h117 h118 h119 h120 h124 h125 => by rw [hf1114 c j h115 h116 h117 h118, gs_c _ _ _ _ h125, hf763 c j h115 h116 h117 h118, gs_c _ _ _ _ h125, gs_c _ _ _ _ h124, hf733 c j h119 h120]), (by omega)⟩, ok1 ht hG⟩, hS.F ht⟩) hS.2.2 dX9_readStatement_308
                            · skip
                              refine lv_aload_n hx hb dX9_readStatement_304 rfl (lv_at hl 2 rfl) ?_
                              have hk1147 : u1112 114 0 = (gs u761 125 x770.toInt.toNat x1020.toInt) 114 0 := hf1114 114 0 (by decide) (by decide) (by decide) (by decide)
                              have hk1147 : u1112 114 0 = u761 114 0 := by rw [hk1147]; simp [gs]
                              refine cV (va_runV (C := RX9) (As := []) (rest := []) ⟨hx, hb, hml, hown, hA⟩ (k_X9_next l dC dI dA sz X Γ hU u1112 h0 t_h0   (by omega)) ⟨callB_of 0 hA (al_A wd_5_74) rfl rfl rfl (hA _ wd_1_7) (hA _ wd_5_71) (by decide +kernel) ⟨Nat.le_of_ble_eq_true rfl, Nat.le_of_ble_eq_true rfl⟩, hA _ wd_5_73, hA _ ws_39⟩ ⟨bl, recv_X9 hE hG t_h0, fun U hU9 hW9 => ⟨rfl, by rw [hU9]; exact hG, hE.go hS hU9 hW9⟩⟩ rfl rfl hl.1 rfl (lv_room (Nat.le_of_ble_eq_true rfl)) dX9_readStatement_305 ⟨Nat.zero_le _, Nat.zero_le _⟩) hS (fun u1148 H locs w1149 hG hS => ?_)
                              obtain ⟨hf1150, w1149⟩ := w1149
                              have hk1151 : u1148 119 0 = u1112 119 0 := hf1150 119 0 (by decide) (by decide) (by decide) (by decide)
                              have hk1152 : u1148 124 0 = u1112 124 0 := hf1150 124 0 (by decide) (by decide) (by decide) (by decide)
                              have hk1153 : u1112 124 0 = (gs u761 125 x770.toInt.toNat x1020.toInt) 124 0 := hf1114 124 0 (by decide) (by decide) (by decide) (by decide)
                              have hk1153 : u1112 124 0 = u761 124 0 := by rw [hk1153]; simp [gs]
                              have hk1154 : u761 124 0 = (gs (gs u731 124 0 x752.toInt) 125 x744.toInt.toNat x194.toInt) 124 0 := hf763 124 0 (by decide) (by decide) (by decide) (by decide)
                              have hk1154 : u761 124 0 = x752.toInt := by rw [hk1154]; simp [gs]
                              exact W.vret hx hb hr (fun t ht hW => ⟨⟨u1148, rfl, ⟨(fun c j h115 h116 h117 h118 h119 h120 h124 h125 => by rw [hf1150 c j h115 h116 h117 h118, hf1114 c j h115 h116 h117 h118, gs_c _ _ _ _ h125, hf763 c j h115 h116 h117 h118, gs_c _ _ _ _ h125, gs_c _ _ _ _ h124, hf733 c j h119 h120]), (by omega)⟩, ok1 ht hG⟩, hS.F ht⟩) hS.2.2 dX9_readStatement_308
                          · skip
                            refine lv_aload_n hx hb dX9_readStatement_292 rfl (lv_at hl 2 rfl) ?_
                            refine ty_iconst hx hb (1) dX9_readStatement_293 (by decide) (fun x1155 h1156 => ?_)
                            refine cV (va_runV (C := RX9) (As := [.int x1155]) (rest := []) ⟨hx, hb, hml, hown, hA⟩ (k_X9_fails l dC dI dA sz X Γ hU u1112 h0 t_h0 x1155   ) ⟨callB_of 1 hA (al_A wd_5_102) rfl rfl rfl (hA _ wd_1_7) (hA _ wd_5_99) (by decide +kernel) ⟨Nat.le_of_ble_eq_true rfl, Nat.le_of_ble_eq_true rfl⟩, hA _ wd_5_101, hA _ ws_43⟩ ⟨bl, recv_X9 hE hG t_h0, fun U hU9 hW9 => ⟨rfl, by rw [hU9]; exact hG, hE.go hS hU9 hW9⟩⟩ rfl rfl hl.1 rfl (lv_room (Nat.le_of_ble_eq_true rfl)) dX9_readStatement_294 ⟨Nat.zero_le _, Nat.zero_le _⟩) hS (fun u1157 H locs w1158 hG hS => ?_)
                            obtain ⟨hf1159, w1158⟩ := w1158
                            refine lv_aload_n hx hb dX9_readStatement_297 rfl (lv_at hl 2 rfl) ?_
                            refine get_X9_19 hx hb hA hown hE hG t_h0 wd_4_149 dX9_readStatement_298 (fun x1160 h1161 => ?_)
                            refine ty_if_ne (tgt := 308) hx hb dX9_readStatement_301 (by decide) (fun c1163 => ?_) (fun c1163 => ?_)
                            · skip
                              have hk1164 : u1157 115 0 = u1112 115 0 := hf1159 115 0 (by decide) (by decide)
                              have hk1165 : u1157 116 0 = u1112 116 0 := hf1159 116 0 (by decide) (by decide)
                              have hk1166 : u1157 124 0 = u1112 124 0 := hf1159 124 0 (by decide) (by decide)
                              have hk1167 : u1112 124 0 = (gs u761 125 x770.toInt.toNat x1020.toInt) 124 0 := hf1114 124 0 (by decide) (by decide) (by decide) (by decide)
                              have hk1167 : u1112 124 0 = u761 124 0 := by rw [hk1167]; simp [gs]
                              have hk1168 : u761 124 0 = (gs (gs u731 124 0 x752.toInt) 125 x744.toInt.toNat x194.toInt) 124 0 := hf763 124 0 (by decide) (by decide) (by decide) (by decide)
                              have hk1168 : u761 124 0 = x752.toInt := by rw [hk1168]; simp [gs]
                              exact W.vret hx hb hr (fun t ht hW => ⟨⟨u1157, rfl, ⟨(fun c j h115 h116 h117 h118 h119 h120 h124 h125 => by rw [hf1159 c j h119 h120, hf1114 c j h115 h116 h117 h118, gs_c _ _ _ _ h125, hf763 c j h115 h116 h117 h118, gs_c _ _ _ _ h125, gs_c _ _ _ _ h124, hf733 c j h119 h120]), (by omega)⟩, ok1 ht hG⟩, hS.F ht⟩) hS.2.2 dX9_readStatement_308
                            · skip
                              refine lv_aload_n hx hb dX9_readStatement_304 rfl (lv_at hl 2 rfl) ?_
                              have hk1169 : u1157 114 0 = u1112 114 0 := hf1159 114 0 (by decide) (by decide)
                              have hk1170 : u1112 114 0 = (gs u761 125 x770.toInt.toNat x1020.toInt) 114 0 := hf1114 114 0 (by decide) (by decide) (by decide) (by decide)
                              have hk1170 : u1112 114 0 = u761 114 0 := by rw [hk1170]; simp [gs]
                              have hk1171 : u1157 115 0 = u1112 115 0 := hf1159 115 0 (by decide) (by decide)
                              refine cV (va_runV (C := RX9) (As := []) (rest := []) ⟨hx, hb, hml, hown, hA⟩ (k_X9_next l dC dI dA sz X Γ hU u1157 h0 t_h0   (by omega)) ⟨callB_of 0 hA (al_A wd_5_74) rfl rfl rfl (hA _ wd_1_7) (hA _ wd_5_71) (by decide +kernel) ⟨Nat.le_of_ble_eq_true rfl, Nat.le_of_ble_eq_true rfl⟩, hA _ wd_5_73, hA _ ws_39⟩ ⟨bl, recv_X9 hE hG t_h0, fun U hU9 hW9 => ⟨rfl, by rw [hU9]; exact hG, hE.go hS hU9 hW9⟩⟩ rfl rfl hl.1 rfl (lv_room (Nat.le_of_ble_eq_true rfl)) dX9_readStatement_305 ⟨Nat.zero_le _, Nat.zero_le _⟩) hS (fun u1172 H locs w1173 hG hS => ?_)
                              obtain ⟨hf1174, w1173⟩ := w1173
                              have hk1175 : u1172 119 0 = u1157 119 0 := hf1174 119 0 (by decide) (by decide) (by decide) (by decide)
                              have hk1176 : u1172 124 0 = u1157 124 0 := hf1174 124 0 (by decide) (by decide) (by decide) (by decide)
                              have hk1177 : u1157 124 0 = u1112 124 0 := hf1159 124 0 (by decide) (by decide)
                              have hk1178 : u1112 124 0 = (gs u761 125 x770.toInt.toNat x1020.toInt) 124 0 := hf1114 124 0 (by decide) (by decide) (by decide) (by decide)
                              have hk1178 : u1112 124 0 = u761 124 0 := by rw [hk1178]; simp [gs]
                              have hk1179 : u761 124 0 = (gs (gs u731 124 0 x752.toInt) 125 x744.toInt.toNat x194.toInt) 124 0 := hf763 124 0 (by decide) (by decide) (by decide) (by decide)
                              have hk1179 : u761 124 0 = x752.toInt := by rw [hk1179]; simp [gs]
                              exact W.vret hx hb hr (fun t ht hW => ⟨⟨u1172, rfl, ⟨(fun c j h115 h116 h117 h118 h119 h120 h124 h125 => by rw [hf1174 c j h115 h116 h117 h118, hf1159 c j h119 h120, hf1114 c j h115 h116 h117 h118, gs_c _ _ _ _ h125, hf763 c j h115 h116 h117 h118, gs_c _ _ _ _ h125, gs_c _ _ _ _ h124, hf733 c j h119 h120]), (by omega)⟩, ok1 ht hG⟩, hS.F ht⟩) hS.2.2 dX9_readStatement_308
                      · skip
                        refine lv_aload_n hx hb dX9_readStatement_162 rfl (lv_at hl 2 rfl) ?_
                        refine ty_iconst hx hb (1) dX9_readStatement_163 (by decide) (fun x1180 h1181 => ?_)
                        have hk1182 : u761 119 0 = (gs (gs u731 124 0 x752.toInt) 125 x744.toInt.toNat x194.toInt) 119 0 := hf763 119 0 (by decide) (by decide) (by decide) (by decide)
                        have hk1182 : u761 119 0 = u731 119 0 := by rw [hk1182]; simp [gs]
                        have e1183 : (gs u761 125 x770.toInt.toNat x1020.toInt) 119 0 = u761 119 0 := by simp [gs]
                        have e1184 : (gs u761 125 x770.toInt.toNat x1020.toInt) 119 0 = u761 119 0 := by simp [gs]
                        refine cV (va_runV (C := RX9) (As := [.int x1180]) (rest := []) ⟨hx, hb, hml, hown, hA⟩ (k_X9_fails l dC dI dA sz X Γ hU (gs u761 125 x770.toInt.toNat x1020.toInt) h0 t_h0 x1180   ) ⟨callB_of 1 hA (al_A wd_5_102) rfl rfl rfl (hA _ wd_1_7) (hA _ wd_5_99) (by decide +kernel) ⟨Nat.le_of_ble_eq_true rfl, Nat.le_of_ble_eq_true rfl⟩, hA _ wd_5_101, hA _ ws_43⟩ ⟨bl, recv_X9 hE hG t_h0, fun U hU9 hW9 => ⟨rfl, by rw [hU9]; exact hG, hE.go hS hU9 hW9⟩⟩ rfl rfl hl.1 rfl (lv_room (Nat.le_of_ble_eq_true rfl)) dX9_readStatement_164 ⟨Nat.zero_le _, Nat.zero_le _⟩) hS (fun u1185 H locs w1186 hG hS => ?_)
                        obtain ⟨hf1187, w1186⟩ := w1186
                        refine lv_goto (tgt := 277) hx hb dX9_readStatement_167 (by decide) ?_
                        refine lv_aload_n hx hb dX9_readStatement_277 rfl (lv_at hl 2 rfl) ?_
                        refine get_X9_19 hx hb hA hown hE hG t_h0 wd_4_149 dX9_readStatement_278 (fun x1188 h1189 => ?_)
                        refine ty_if_ne (tgt := 297) hx hb dX9_readStatement_281 (by decide) (fun c1191 => ?_) (fun c1191 => ?_)
                        · skip
                          refine lv_aload_n hx hb dX9_readStatement_297 rfl (lv_at hl 2 rfl) ?_
                          refine get_X9_19 hx hb hA hown hE hG t_h0 wd_4_149 dX9_readStatement_298 (fun x1192 h1193 => ?_)
                          refine ty_if_ne (tgt := 308) hx hb dX9_readStatement_301 (by decide) (fun c1195 => ?_) (fun c1195 => ?_)
                          · skip
                            have hk1196 : u1185 115 0 = (gs u761 125 x770.toInt.toNat x1020.toInt) 115 0 := hf1187 115 0 (by decide) (by decide)
                            have hk1196 : u1185 115 0 = u761 115 0 := by rw [hk1196]; simp [gs]
                            have hk1197 : u1185 116 0 = (gs u761 125 x770.toInt.toNat x1020.toInt) 116 0 := hf1187 116 0 (by decide) (by decide)
                            have hk1197 : u1185 116 0 = u761 116 0 := by rw [hk1197]; simp [gs]
                            have hk1198 : u1185 124 0 = (gs u761 125 x770.toInt.toNat x1020.toInt) 124 0 := hf1187 124 0 (by decide) (by decide)
                            have hk1198 : u1185 124 0 = u761 124 0 := by rw [hk1198]; simp [gs]
                            have hk1199 : u761 124 0 = (gs (gs u731 124 0 x752.toInt) 125 x744.toInt.toNat x194.toInt) 124 0 := hf763 124 0 (by decide) (by decide) (by decide) (by decide)
                            have hk1199 : u761 124 0 = x752.toInt := by rw [hk1199]; simp [gs]
                            exact W.vret hx hb hr (fun t ht hW => ⟨⟨u1185, rfl, ⟨(fun c j h115 h116 h117 h118 h119 h120 h124 h125 => by rw [hf1187 c j h119 h120, gs_c _ _ _ _ h125, hf763 c j h115 h116 h117 h118, gs_c _ _ _ _ h125, gs_c _ _ _ _ h124, hf733 c j h119 h120]), (by omega)⟩, ok1 ht hG⟩, hS.F ht⟩) hS.2.2 dX9_readStatement_308
                          · skip
                            refine lv_aload_n hx hb dX9_readStatement_304 rfl (lv_at hl 2 rfl) ?_
                            have hk1200 : u1185 114 0 = (gs u761 125 x770.toInt.toNat x1020.toInt) 114 0 := hf1187 114 0 (by decide) (by decide)
                            have hk1200 : u1185 114 0 = u761 114 0 := by rw [hk1200]; simp [gs]
                            have hk1201 : u1185 115 0 = (gs u761 125 x770.toInt.toNat x1020.toInt) 115 0 := hf1187 115 0 (by decide) (by decide)
                            have hk1201 : u1185 115 0 = u761 115 0 := by rw [hk1201]; simp [gs]
                            refine cV (va_runV (C := RX9) (As := []) (rest := []) ⟨hx, hb, hml, hown, hA⟩ (k_X9_next l dC dI dA sz X Γ hU u1185 h0 t_h0   (by omega)) ⟨callB_of 0 hA (al_A wd_5_74) rfl rfl rfl (hA _ wd_1_7) (hA _ wd_5_71) (by decide +kernel) ⟨Nat.le_of_ble_eq_true rfl, Nat.le_of_ble_eq_true rfl⟩, hA _ wd_5_73, hA _ ws_39⟩ ⟨bl, recv_X9 hE hG t_h0, fun U hU9 hW9 => ⟨rfl, by rw [hU9]; exact hG, hE.go hS hU9 hW9⟩⟩ rfl rfl hl.1 rfl (lv_room (Nat.le_of_ble_eq_true rfl)) dX9_readStatement_305 ⟨Nat.zero_le _, Nat.zero_le _⟩) hS (fun u1202 H locs w1203 hG hS => ?_)
                            obtain ⟨hf1204, w1203⟩ := w1203
                            have hk1205 : u1202 119 0 = u1185 119 0 := hf1204 119 0 (by decide) (by decide) (by decide) (by decide)
                            have hk1206 : u1202 124 0 = u1185 124 0 := hf1204 124 0 (by decide) (by decide) (by decide) (by decide)
                            have hk1207 : u1185 124 0 = (gs u761 125 x770.toInt.toNat x1020.toInt) 124 0 := hf1187 124 0 (by decide) (by decide)
                            have hk1207 : u1185 124 0 = u761 124 0 := by rw [hk1207]; simp [gs]
                            have hk1208 : u761 124 0 = (gs (gs u731 124 0 x752.toInt) 125 x744.toInt.toNat x194.toInt) 124 0 := hf763 124 0 (by decide) (by decide) (by decide) (by decide)
                            have hk1208 : u761 124 0 = x752.toInt := by rw [hk1208]; simp [gs]
                            exact W.vret hx hb hr (fun t ht hW => ⟨⟨u1202, rfl, ⟨(fun c j h115 h116 h117 h118 h119 h120 h124 h125 => by rw [hf1204 c j h115 h116 h117 h118, hf1187 c j h119 h120, gs_c _ _ _ _ h125, hf763 c j h115 h116 h117 h118, gs_c _ _ _ _ h125, gs_c _ _ _ _ h124, hf733 c j h119 h120]), (by omega)⟩, ok1 ht hG⟩, hS.F ht⟩) hS.2.2 dX9_readStatement_308
                        · skip
                          refine lv_aload_n hx hb dX9_readStatement_284 rfl (lv_at hl 2 rfl) ?_
                          refine get_X9_17 hx hb hA hown hE hG t_h0 wd_4_147 dX9_readStatement_285 (fun x1209 h1210 => ?_)
                          have hk1212 : u1185 117 0 = (gs u761 125 x770.toInt.toNat x1020.toInt) 117 0 := hf1187 117 0 (by decide) (by decide)
                          have hk1212 : u1185 117 0 = u761 117 0 := by rw [hk1212]; simp [gs]
                          refine ty_iconst hx hb (4) dX9_readStatement_288 (by decide) (fun x1213 h1214 => ?_)
                          refine ty_icmp_eq (tgt := 297) hx hb dX9_readStatement_289 (by decide) (fun c1215 => ?_) (fun c1215 => ?_)
                          · skip
                            refine lv_aload_n hx hb dX9_readStatement_297 rfl (lv_at hl 2 rfl) ?_
                            refine get_X9_19 hx hb hA hown hE hG t_h0 wd_4_149 dX9_readStatement_298 (fun x1216 h1217 => ?_)
                            refine ty_if_ne (tgt := 308) hx hb dX9_readStatement_301 (by decide) (fun c1219 => ?_) (fun c1219 => ?_)
                            · skip
                              have hk1220 : u1185 115 0 = (gs u761 125 x770.toInt.toNat x1020.toInt) 115 0 := hf1187 115 0 (by decide) (by decide)
                              have hk1220 : u1185 115 0 = u761 115 0 := by rw [hk1220]; simp [gs]
                              have hk1221 : u1185 116 0 = (gs u761 125 x770.toInt.toNat x1020.toInt) 116 0 := hf1187 116 0 (by decide) (by decide)
                              have hk1221 : u1185 116 0 = u761 116 0 := by rw [hk1221]; simp [gs]
                              have hk1222 : u1185 124 0 = (gs u761 125 x770.toInt.toNat x1020.toInt) 124 0 := hf1187 124 0 (by decide) (by decide)
                              have hk1222 : u1185 124 0 = u761 124 0 := by rw [hk1222]; simp [gs]
                              have hk1223 : u761 124 0 = (gs (gs u731 124 0 x752.toInt) 125 x744.toInt.toNat x194.toInt) 124 0 := hf763 124 0 (by decide) (by decide) (by decide) (by decide)
                              have hk1223 : u761 124 0 = x752.toInt := by rw [hk1223]; simp [gs]
                              exact W.vret hx hb hr (fun t ht hW => ⟨⟨u1185, rfl, ⟨(fun c j h115 h116 h117 h118 h119 h120 h124 h125 => by rw [hf1187 c j h119 h120, gs_c _ _ _ _ h125, hf763 c j h115 h116 h117 h118, gs_c _ _ _ _ h125, gs_c _ _ _ _ h124, hf733 c j h119 h120]), (by omega)⟩, ok1 ht hG⟩, hS.F ht⟩) hS.2.2 dX9_readStatement_308
                            · skip
                              refine lv_aload_n hx hb dX9_readStatement_304 rfl (lv_at hl 2 rfl) ?_
                              have hk1224 : u1185 114 0 = (gs u761 125 x770.toInt.toNat x1020.toInt) 114 0 := hf1187 114 0 (by decide) (by decide)
                              have hk1224 : u1185 114 0 = u761 114 0 := by rw [hk1224]; simp [gs]
                              have hk1225 : u1185 115 0 = (gs u761 125 x770.toInt.toNat x1020.toInt) 115 0 := hf1187 115 0 (by decide) (by decide)
                              have hk1225 : u1185 115 0 = u761 115 0 := by rw [hk1225]; simp [gs]
                              refine cV (va_runV (C := RX9) (As := []) (rest := []) ⟨hx, hb, hml, hown, hA⟩ (k_X9_next l dC dI dA sz X Γ hU u1185 h0 t_h0   (by omega)) ⟨callB_of 0 hA (al_A wd_5_74) rfl rfl rfl (hA _ wd_1_7) (hA _ wd_5_71) (by decide +kernel) ⟨Nat.le_of_ble_eq_true rfl, Nat.le_of_ble_eq_true rfl⟩, hA _ wd_5_73, hA _ ws_39⟩ ⟨bl, recv_X9 hE hG t_h0, fun U hU9 hW9 => ⟨rfl, by rw [hU9]; exact hG, hE.go hS hU9 hW9⟩⟩ rfl rfl hl.1 rfl (lv_room (Nat.le_of_ble_eq_true rfl)) dX9_readStatement_305 ⟨Nat.zero_le _, Nat.zero_le _⟩) hS (fun u1226 H locs w1227 hG hS => ?_)
                              obtain ⟨hf1228, w1227⟩ := w1227
                              have hk1229 : u1226 119 0 = u1185 119 0 := hf1228 119 0 (by decide) (by decide) (by decide) (by decide)
                              have hk1230 : u1226 124 0 = u1185 124 0 := hf1228 124 0 (by decide) (by decide) (by decide) (by decide)
                              have hk1231 : u1185 124 0 = (gs u761 125 x770.toInt.toNat x1020.toInt) 124 0 := hf1187 124 0 (by decide) (by decide)
                              have hk1231 : u1185 124 0 = u761 124 0 := by rw [hk1231]; simp [gs]
                              have hk1232 : u761 124 0 = (gs (gs u731 124 0 x752.toInt) 125 x744.toInt.toNat x194.toInt) 124 0 := hf763 124 0 (by decide) (by decide) (by decide) (by decide)
                              have hk1232 : u761 124 0 = x752.toInt := by rw [hk1232]; simp [gs]
                              exact W.vret hx hb hr (fun t ht hW => ⟨⟨u1226, rfl, ⟨(fun c j h115 h116 h117 h118 h119 h120 h124 h125 => by rw [hf1228 c j h115 h116 h117 h118, hf1187 c j h119 h120, gs_c _ _ _ _ h125, hf763 c j h115 h116 h117 h118, gs_c _ _ _ _ h125, gs_c _ _ _ _ h124, hf733 c j h119 h120]), (by omega)⟩, ok1 ht hG⟩, hS.F ht⟩) hS.2.2 dX9_readStatement_308
                          · skip
                            refine lv_aload_n hx hb dX9_readStatement_292 rfl (lv_at hl 2 rfl) ?_
                            refine ty_iconst hx hb (1) dX9_readStatement_293 (by decide) (fun x1233 h1234 => ?_)
                            refine cV (va_runV (C := RX9) (As := [.int x1233]) (rest := []) ⟨hx, hb, hml, hown, hA⟩ (k_X9_fails l dC dI dA sz X Γ hU u1185 h0 t_h0 x1233   ) ⟨callB_of 1 hA (al_A wd_5_102) rfl rfl rfl (hA _ wd_1_7) (hA _ wd_5_99) (by decide +kernel) ⟨Nat.le_of_ble_eq_true rfl, Nat.le_of_ble_eq_true rfl⟩, hA _ wd_5_101, hA _ ws_43⟩ ⟨bl, recv_X9 hE hG t_h0, fun U hU9 hW9 => ⟨rfl, by rw [hU9]; exact hG, hE.go hS hU9 hW9⟩⟩ rfl rfl hl.1 rfl (lv_room (Nat.le_of_ble_eq_true rfl)) dX9_readStatement_294 ⟨Nat.zero_le _, Nat.zero_le _⟩) hS (fun u1235 H locs w1236 hG hS => ?_)
                            obtain ⟨hf1237, w1236⟩ := w1236
                            refine lv_aload_n hx hb dX9_readStatement_297 rfl (lv_at hl 2 rfl) ?_
                            refine get_X9_19 hx hb hA hown hE hG t_h0 wd_4_149 dX9_readStatement_298 (fun x1238 h1239 => ?_)
                            refine ty_if_ne (tgt := 308) hx hb dX9_readStatement_301 (by decide) (fun c1241 => ?_) (fun c1241 => ?_)
                            · skip
                              have hk1242 : u1235 115 0 = u1185 115 0 := hf1237 115 0 (by decide) (by decide)
                              have hk1243 : u1185 115 0 = (gs u761 125 x770.toInt.toNat x1020.toInt) 115 0 := hf1187 115 0 (by decide) (by decide)
                              have hk1243 : u1185 115 0 = u761 115 0 := by rw [hk1243]; simp [gs]
                              have hk1244 : u1235 116 0 = u1185 116 0 := hf1237 116 0 (by decide) (by decide)
                              have hk1245 : u1185 116 0 = (gs u761 125 x770.toInt.toNat x1020.toInt) 116 0 := hf1187 116 0 (by decide) (by decide)
                              have hk1245 : u1185 116 0 = u761 116 0 := by rw [hk1245]; simp [gs]
                              have hk1246 : u1235 124 0 = u1185 124 0 := hf1237 124 0 (by decide) (by decide)
                              have hk1247 : u1185 124 0 = (gs u761 125 x770.toInt.toNat x1020.toInt) 124 0 := hf1187 124 0 (by decide) (by decide)
                              have hk1247 : u1185 124 0 = u761 124 0 := by rw [hk1247]; simp [gs]
                              have hk1248 : u761 124 0 = (gs (gs u731 124 0 x752.toInt) 125 x744.toInt.toNat x194.toInt) 124 0 := hf763 124 0 (by decide) (by decide) (by decide) (by decide)
                              have hk1248 : u761 124 0 = x752.toInt := by rw [hk1248]; simp [gs]
                              exact W.vret hx hb hr (fun t ht hW => ⟨⟨u1235, rfl, ⟨(fun c j h115 h116 h117 h118 h119 h120 h124 h125 => by rw [hf1237 c j h119 h120, hf1187 c j h119 h120, gs_c _ _ _ _ h125, hf763 c j h115 h116 h117 h118, gs_c _ _ _ _ h125, gs_c _ _ _ _ h124, hf733 c j h119 h120]), (by omega)⟩, ok1 ht hG⟩, hS.F ht⟩) hS.2.2 dX9_readStatement_308
                            · skip
                              refine lv_aload_n hx hb dX9_readStatement_304 rfl (lv_at hl 2 rfl) ?_
                              have hk1249 : u1235 114 0 = u1185 114 0 := hf1237 114 0 (by decide) (by decide)
                              have hk1250 : u1185 114 0 = (gs u761 125 x770.toInt.toNat x1020.toInt) 114 0 := hf1187 114 0 (by decide) (by decide)
                              have hk1250 : u1185 114 0 = u761 114 0 := by rw [hk1250]; simp [gs]
                              have hk1251 : u1235 115 0 = u1185 115 0 := hf1237 115 0 (by decide) (by decide)
                              have hk1252 : u1185 115 0 = (gs u761 125 x770.toInt.toNat x1020.toInt) 115 0 := hf1187 115 0 (by decide) (by decide)
                              have hk1252 : u1185 115 0 = u761 115 0 := by rw [hk1252]; simp [gs]
                              refine cV (va_runV (C := RX9) (As := []) (rest := []) ⟨hx, hb, hml, hown, hA⟩ (k_X9_next l dC dI dA sz X Γ hU u1235 h0 t_h0   (by omega)) ⟨callB_of 0 hA (al_A wd_5_74) rfl rfl rfl (hA _ wd_1_7) (hA _ wd_5_71) (by decide +kernel) ⟨Nat.le_of_ble_eq_true rfl, Nat.le_of_ble_eq_true rfl⟩, hA _ wd_5_73, hA _ ws_39⟩ ⟨bl, recv_X9 hE hG t_h0, fun U hU9 hW9 => ⟨rfl, by rw [hU9]; exact hG, hE.go hS hU9 hW9⟩⟩ rfl rfl hl.1 rfl (lv_room (Nat.le_of_ble_eq_true rfl)) dX9_readStatement_305 ⟨Nat.zero_le _, Nat.zero_le _⟩) hS (fun u1253 H locs w1254 hG hS => ?_)
                              obtain ⟨hf1255, w1254⟩ := w1254
                              have hk1256 : u1253 119 0 = u1235 119 0 := hf1255 119 0 (by decide) (by decide) (by decide) (by decide)
                              have hk1257 : u1253 124 0 = u1235 124 0 := hf1255 124 0 (by decide) (by decide) (by decide) (by decide)
                              have hk1258 : u1235 124 0 = u1185 124 0 := hf1237 124 0 (by decide) (by decide)
                              have hk1259 : u1185 124 0 = (gs u761 125 x770.toInt.toNat x1020.toInt) 124 0 := hf1187 124 0 (by decide) (by decide)
                              have hk1259 : u1185 124 0 = u761 124 0 := by rw [hk1259]; simp [gs]
                              have hk1260 : u761 124 0 = (gs (gs u731 124 0 x752.toInt) 125 x744.toInt.toNat x194.toInt) 124 0 := hf763 124 0 (by decide) (by decide) (by decide) (by decide)
                              have hk1260 : u761 124 0 = x752.toInt := by rw [hk1260]; simp [gs]
                              exact W.vret hx hb hr (fun t ht hW => ⟨⟨u1253, rfl, ⟨(fun c j h115 h116 h117 h118 h119 h120 h124 h125 => by rw [hf1255 c j h115 h116 h117 h118, hf1237 c j h119 h120, hf1187 c j h119 h120, gs_c _ _ _ _ h125, hf763 c j h115 h116 h117 h118, gs_c _ _ _ _ h125, gs_c _ _ _ _ h124, hf733 c j h119 h120]), (by omega)⟩, ok1 ht hG⟩, hS.F ht⟩) hS.2.2 dX9_readStatement_308
              · skip
                have hk1261 : u731 115 0 = g 115 0 := hf733 115 0 (by decide) (by decide)
                have hk1262 : u731 116 0 = g 116 0 := hf733 116 0 (by decide) (by decide)
                have hk1263 : u731 124 0 = g 124 0 := hf733 124 0 (by decide) (by decide)
                exact W.vret hx hb hr (fun t ht hW => ⟨⟨u731, rfl, ⟨(fun c j h115 h116 h117 h118 h119 h120 h124 h125 => by rw [hf733 c j h119 h120]), (by omega)⟩, ok1 ht hG⟩, hS.F ht⟩) hS.2.2 dX9_readStatement_88
          · exfalso; omega
      · skip
        refine ty_iconst hx hb (2) dX9_readStatement_35 (by decide) (fun x1264 h1265 => ?_)
        refine lv_goto (tgt := 53) hx hb dX9_readStatement_36 (by decide) ?_
        refine lv_istore_n (lv' := [(1, .int x1264), (0, .ref h0)]) hx hb dX9_readStatement_53 rfl hl (by decide) rfl (fun ls hl => ?_)
        refine lv_iload_n hx hb dX9_readStatement_54 rfl (lv_at hl 0 rfl) ?_
        refine ty_iconst hx hb (-1) dX9_readStatement_55 (by decide) (fun x1266 h1267 => ?_)
        refine ty_icmp_ne (tgt := 67) hx hb dX9_readStatement_56 (by decide) (fun c1268 => ?_) (fun c1268 => ?_)
        · skip
          refine lv_aload_n hx hb dX9_readStatement_67 rfl (lv_at hl 1 rfl) ?_
          refine get_X9_24 hx hb hA hown hE hG t_h0 wd_4_154 dX9_readStatement_68 (fun x1269 h1270 => ?_)
          refine ty_bipush hx hb (30) dX9_readStatement_71 (by decide) (fun x1272 h1273 => ?_)
          refine ty_icmp_ne (tgt := 81) hx hb dX9_readStatement_73 (by decide) (fun c1274 => ?_) (fun c1274 => ?_)
          · skip
            refine lv_aload_n hx hb dX9_readStatement_81 rfl (lv_at hl 1 rfl) ?_
            refine get_X9_19 hx hb hA hown hE hG t_h0 wd_4_149 dX9_readStatement_82 (fun x1275 h1276 => ?_)
            refine ty_if_eq (tgt := 89) hx hb dX9_readStatement_85 (by decide) (fun c1278 => ?_) (fun c1278 => ?_)
            · skip
              refine ty_iconst hx hb (4) dX9_readStatement_89 (by decide) (fun x1279 h1280 => ?_)
              refine lv_aload_n hx hb dX9_readStatement_90 rfl (lv_at hl 1 rfl) ?_
              refine get_X9_24 hx hb hA hown hE hG t_h0 wd_4_154 dX9_readStatement_91 (fun x1281 h1282 => ?_)
              refine ty_imul hx hb dX9_readStatement_94 (fun x1284 h1285 => ?_)
              try have h1286 : x1284.toInt = 4 * x1281.toInt := ty_mull h1285 (by omega) (by omega) (by omega)
              refine lv_istore_n (lv' := [(2, .int x1284), (1, .int x1264), (0, .ref h0)]) hx hb dX9_readStatement_95 rfl hl (by decide) rfl (fun ls hl => ?_)
              refine lv_aload_n hx hb dX9_readStatement_96 rfl (lv_at hl 2 rfl) ?_
              refine lv_dup hx hb dX9_readStatement_97 rfl ?_
              refine get_X9_24 hx hb hA hown hE hG t_h0 wd_4_154 dX9_readStatement_98 (fun x1287 h1288 => ?_)
              refine ty_iconst hx hb (1) dX9_readStatement_101 (by decide) (fun x1290 h1291 => ?_)
              refine ty_iadd hx hb dX9_readStatement_102 (fun x1292 h1293 => ?_)
              try have h1294 : x1292.toInt = x1287.toInt + x1290.toInt := ty_add h1293 (by omega) (by omega)
              refine put_X9_24 hx hb hA hown hE hG hS hU t_h0 wd_4_154 dX9_readStatement_103 (fun H locs hG hS => ?_)
              refine lv_aload_n hx hb dX9_readStatement_106 rfl (lv_at hl 2 rfl) ?_
              refine get_X9_25 hx hb hA hown hE hG t_h0 wd_4_155 dX9_readStatement_107 (fun b1295 (t_b1295 : ty Γ b1295 125) => ?_)
              refine lv_iload_n hx hb dX9_readStatement_110 rfl (lv_at hl 0 rfl) ?_
              refine lv_iload_n hx hb dX9_readStatement_111 rfl (lv_at hl 1 rfl) ?_
              refine ast_mI hx hb hE hG hS hU 25 rfl (n := 120) rfl (lo := -2147483648) (hi := 2147483647) rfl rfl rfl t_b1295 (rgD _) (by omega) dX9_readStatement_112 (fun H locs hG hS => ?_)
              refine lv_aload_n hx hb dX9_readStatement_113 rfl (lv_at hl 2 rfl) ?_
              have e1296 : (gs (gs g 124 0 x1292.toInt) 125 x1284.toInt.toNat x1264.toInt) 114 0 = g 114 0 := by simp [gs]
              have e1297 : (gs (gs g 124 0 x1292.toInt) 125 x1284.toInt.toNat x1264.toInt) 115 0 = g 115 0 := by simp [gs]
              have e1298 : (gs (gs g 124 0 x1292.toInt) 125 x1284.toInt.toNat x1264.toInt) 114 0 = g 114 0 := by simp [gs]
              refine cV (va_runV (C := RX9) (As := []) (rest := []) ⟨hx, hb, hml, hown, hA⟩ (k_X9_next l dC dI dA sz X Γ hU (gs (gs g 124 0 x1292.toInt) 125 x1284.toInt.toNat x1264.toInt) h0 t_h0   (by omega)) ⟨callB_of 0 hA (al_A wd_5_74) rfl rfl rfl (hA _ wd_1_7) (hA _ wd_5_71) (by decide +kernel) ⟨Nat.le_of_ble_eq_true rfl, Nat.le_of_ble_eq_true rfl⟩, hA _ wd_5_73, hA _ ws_39⟩ ⟨bl, recv_X9 hE hG t_h0, fun U hU9 hW9 => ⟨rfl, by rw [hU9]; exact hG, hE.go hS hU9 hW9⟩⟩ rfl rfl hl.1 rfl (lv_room (Nat.le_of_ble_eq_true rfl)) dX9_readStatement_114 ⟨Nat.zero_le _, Nat.zero_le _⟩) hS (fun u1299 H locs w1300 hG hS => ?_)
              obtain ⟨hf1301, w1300⟩ := w1300
              refine lv_iload_n hx hb dX9_readStatement_117 rfl (lv_at hl 1 rfl) ?_
              refine ty_iconst hx hb (3) dX9_readStatement_118 (by decide) (fun x1302 h1303 => ?_)
              refine ty_icmp_ne (tgt := 177) hx hb dX9_readStatement_119 (by decide) (fun c1304 => ?_) (fun c1304 => ?_)
              · skip
                refine lv_aload_n hx hb dX9_readStatement_177 rfl (lv_at hl 2 rfl) ?_
                refine get_X9_25 hx hb hA hown hE hG t_h0 wd_4_155 dX9_readStatement_178 (fun b1305 (t_b1305 : ty Γ b1305 125) => ?_)
                refine lv_iload_n hx hb dX9_readStatement_181 rfl (lv_at hl 0 rfl) ?_
                refine ty_iconst hx hb (1) dX9_readStatement_182 (by decide) (fun x1306 h1307 => ?_)
                refine ty_iadd hx hb dX9_readStatement_183 (fun x1308 h1309 => ?_)
                try have h1310 : x1308.toInt = x1284.toInt + x1306.toInt := ty_add h1309 (by omega) (by omega)
                refine lv_iload_n hx hb dX9_readStatement_184 rfl (lv_at hl 1 rfl) ?_
                refine ty_if_ne (tgt := 198) hx hb dX9_readStatement_185 (by decide) (fun c1311 => ?_) (fun c1311 => ?_)
                · skip
                  refine lv_iload_n hx hb dX9_readStatement_198 rfl (lv_at hl 1 rfl) ?_
                  refine ty_iconst hx hb (1) dX9_readStatement_199 (by decide) (fun x1312 h1313 => ?_)
                  refine ty_icmp_ne (tgt := 212) hx hb dX9_readStatement_200 (by decide) (fun c1314 => ?_) (fun c1314 => ?_)
                  · skip
                    refine lv_aload_n hx hb dX9_readStatement_212 rfl (lv_at hl 2 rfl) ?_
                    refine ty_iconst hx hb (0) dX9_readStatement_213 (by decide) (fun x1315 h1316 => ?_)
                    refine ty_bipush hx hb (52) dX9_readStatement_214 (by decide) (fun x1317 h1318 => ?_)
                    have hk1319 : u1299 114 0 = (gs (gs g 124 0 x1292.toInt) 125 x1284.toInt.toNat x1264.toInt) 114 0 := hf1301 114 0 (by decide) (by decide) (by decide) (by decide)
                    have hk1319 : u1299 114 0 = g 114 0 := by rw [hk1319]; simp [gs]
                    have hk1320 : u1299 119 0 = (gs (gs g 124 0 x1292.toInt) 125 x1284.toInt.toNat x1264.toInt) 119 0 := hf1301 119 0 (by decide) (by decide) (by decide) (by decide)
                    have hk1320 : u1299 119 0 = g 119 0 := by rw [hk1320]; simp [gs]
                    refine cI (va_runV (C := RX9) (As := [.int x1315, .int x1317]) (rest := [.int x1308, .ref b1305]) ⟨hx, hb, hml, hown, hA⟩ (k_X9_number l dC dI dA sz X Γ hU u1299 h0 t_h0 x1315 x1317   (by omega) (by omega)) ⟨callB_of 2 hA (al_A wd_5_108) rfl rfl rfl (hA _ wd_1_7) (hA _ wd_5_105) (by decide +kernel) ⟨Nat.le_of_ble_eq_true rfl, Nat.le_of_ble_eq_true rfl⟩, hA _ wd_5_107, hA _ ws_44⟩ ⟨bl, recv_X9 hE hG t_h0, fun U hU9 hW9 => ⟨rfl, by rw [hU9]; exact hG, hE.go hS hU9 hW9⟩⟩ rfl rfl hl.1 rfl (lv_room (Nat.le_of_ble_eq_true rfl)) dX9_readStatement_216 ⟨Nat.zero_le _, Nat.zero_le _⟩) hS (fun x1323 u1321 H locs w1322 hG hS => ?_)
                    obtain ⟨hf1324, w1322⟩ := w1322
                    refine ast_mI hx hb hE hG hS hU 25 rfl (n := 120) rfl (lo := -2147483648) (hi := 2147483647) rfl rfl rfl t_b1305 (rgD _) (by omega) dX9_readStatement_219 (fun H locs hG hS => ?_)
                    refine lv_aload_n hx hb dX9_readStatement_220 rfl (lv_at hl 2 rfl) ?_
                    refine get_X9_25 hx hb hA hown hE hG t_h0 wd_4_155 dX9_readStatement_221 (fun b1325 (t_b1325 : ty Γ b1325 125) => ?_)
                    refine lv_iload_n hx hb dX9_readStatement_224 rfl (lv_at hl 0 rfl) ?_
                    refine ty_iconst hx hb (2) dX9_readStatement_225 (by decide) (fun x1326 h1327 => ?_)
                    refine ty_iadd hx hb dX9_readStatement_226 (fun x1328 h1329 => ?_)
                    try have h1330 : x1328.toInt = x1284.toInt + x1326.toInt := ty_add h1329 (by omega) (by omega)
                    refine lv_iload_n hx hb dX9_readStatement_227 rfl (lv_at hl 1 rfl) ?_
                    refine ty_if_ne (tgt := 248) hx hb dX9_readStatement_228 (by decide) (fun c1331 => ?_) (fun c1331 => ?_)
                    · skip
                      refine lv_aload_n hx hb dX9_readStatement_248 rfl (lv_at hl 2 rfl) ?_
                      refine ty_iconst hx hb (0) dX9_readStatement_249 (by decide) (fun x1332 h1333 => ?_)
                      refine ty_sipush hx hb (9999) dX9_readStatement_250 (by decide) (fun x1334 h1335 => ?_)
                      have hk1336 : u1321 114 0 = u1299 114 0 := hf1324 114 0 (by decide) (by decide) (by decide) (by decide) (by decide) (by decide)
                      have e1337 : (gs u1321 125 x1308.toInt.toNat x1323.toInt) 114 0 = u1321 114 0 := by simp [gs]
                      have e1338 : (gs u1321 125 x1308.toInt.toNat x1323.toInt) 115 0 = u1321 115 0 := by simp [gs]
                      have e1339 : (gs u1321 125 x1308.toInt.toNat x1323.toInt) 116 0 = u1321 116 0 := by simp [gs]
                      have e1340 : (gs u1321 125 x1308.toInt.toNat x1323.toInt) 119 0 = u1321 119 0 := by simp [gs]
                      have e1341 : (gs u1321 125 x1308.toInt.toNat x1323.toInt) 114 0 = u1321 114 0 := by simp [gs]
                      refine cI (va_runV (C := RX9) (As := [.int x1332, .int x1334]) (rest := [.int x1328, .ref b1325]) ⟨hx, hb, hml, hown, hA⟩ (k_X9_number l dC dI dA sz X Γ hU (gs u1321 125 x1308.toInt.toNat x1323.toInt) h0 t_h0 x1332 x1334   (by omega) (by omega)) ⟨callB_of 2 hA (al_A wd_5_108) rfl rfl rfl (hA _ wd_1_7) (hA _ wd_5_105) (by decide +kernel) ⟨Nat.le_of_ble_eq_true rfl, Nat.le_of_ble_eq_true rfl⟩, hA _ wd_5_107, hA _ ws_44⟩ ⟨bl, recv_X9 hE hG t_h0, fun U hU9 hW9 => ⟨rfl, by rw [hU9]; exact hG, hE.go hS hU9 hW9⟩⟩ rfl rfl hl.1 rfl (lv_room (Nat.le_of_ble_eq_true rfl)) dX9_readStatement_253 ⟨Nat.zero_le _, Nat.zero_le _⟩) hS (fun x1344 u1342 H locs w1343 hG hS => ?_)
                      obtain ⟨hf1345, w1343⟩ := w1343
                      refine ast_mI hx hb hE hG hS hU 25 rfl (n := 120) rfl (lo := -2147483648) (hi := 2147483647) rfl rfl rfl t_b1325 (rgD _) (by omega) dX9_readStatement_256 (fun H locs hG hS => ?_)
                      refine lv_iload_n hx hb dX9_readStatement_257 rfl (lv_at hl 1 rfl) ?_
                      refine ty_if_ne (tgt := 277) hx hb dX9_readStatement_258 (by decide) (fun c1346 => ?_) (fun c1346 => ?_)
                      · skip
                        refine lv_aload_n hx hb dX9_readStatement_277 rfl (lv_at hl 2 rfl) ?_
                        refine get_X9_19 hx hb hA hown hE hG t_h0 wd_4_149 dX9_readStatement_278 (fun x1347 h1348 => ?_)
                        replace h1348 : x1347.toInt = u1342 119 0 := by rw [h1348]; simp [gs]
                        refine ty_if_ne (tgt := 297) hx hb dX9_readStatement_281 (by decide) (fun c1350 => ?_) (fun c1350 => ?_)
                        · skip
                          refine lv_aload_n hx hb dX9_readStatement_297 rfl (lv_at hl 2 rfl) ?_
                          refine get_X9_19 hx hb hA hown hE hG t_h0 wd_4_149 dX9_readStatement_298 (fun x1351 h1352 => ?_)
                          replace h1352 : x1351.toInt = u1342 119 0 := by rw [h1352]; simp [gs]
                          refine ty_if_ne (tgt := 308) hx hb dX9_readStatement_301 (by decide) (fun c1354 => ?_) (fun c1354 => ?_)
                          · skip
                            have e1355 : (gs u1342 125 x1328.toInt.toNat x1344.toInt) 115 0 = u1342 115 0 := by simp [gs]
                            have e1356 : (gs u1342 125 x1328.toInt.toNat x1344.toInt) 116 0 = u1342 116 0 := by simp [gs]
                            have e1357 : (gs u1342 125 x1328.toInt.toNat x1344.toInt) 119 0 = u1342 119 0 := by simp [gs]
                            have hk1358 : u1342 124 0 = (gs u1321 125 x1308.toInt.toNat x1323.toInt) 124 0 := hf1345 124 0 (by decide) (by decide) (by decide) (by decide) (by decide) (by decide)
                            have hk1358 : u1342 124 0 = u1321 124 0 := by rw [hk1358]; simp [gs]
                            have hk1359 : u1321 124 0 = u1299 124 0 := hf1324 124 0 (by decide) (by decide) (by decide) (by decide) (by decide) (by decide)
                            have hk1360 : u1299 124 0 = (gs (gs g 124 0 x1292.toInt) 125 x1284.toInt.toNat x1264.toInt) 124 0 := hf1301 124 0 (by decide) (by decide) (by decide) (by decide)
                            have hk1360 : u1299 124 0 = x1292.toInt := by rw [hk1360]; simp [gs]
                            have e1361 : (gs u1342 125 x1328.toInt.toNat x1344.toInt) 124 0 = u1342 124 0 := by simp [gs]
                            exact W.vret hx hb hr (fun t ht hW => ⟨⟨(gs u1342 125 x1328.toInt.toNat x1344.toInt), rfl, ⟨(fun c j h115 h116 h117 h118 h119 h120 h124 h125 => by rw [gs_c _ _ _ _ h125, hf1345 c j h115 h116 h117 h118 h119 h120, gs_c _ _ _ _ h125, hf1324 c j h115 h116 h117 h118 h119 h120, hf1301 c j h115 h116 h117 h118, gs_c _ _ _ _ h125, gs_c _ _ _ _ h124]), (by omega)⟩, ok1 ht hG⟩, hS.F ht⟩) hS.2.2 dX9_readStatement_308
                          · skip
                            refine lv_aload_n hx hb dX9_readStatement_304 rfl (lv_at hl 2 rfl) ?_
                            have hk1362 : u1342 114 0 = (gs u1321 125 x1308.toInt.toNat x1323.toInt) 114 0 := hf1345 114 0 (by decide) (by decide) (by decide) (by decide) (by decide) (by decide)
                            have hk1362 : u1342 114 0 = u1321 114 0 := by rw [hk1362]; simp [gs]
                            have e1363 : (gs u1342 125 x1328.toInt.toNat x1344.toInt) 114 0 = u1342 114 0 := by simp [gs]
                            have e1364 : (gs u1342 125 x1328.toInt.toNat x1344.toInt) 115 0 = u1342 115 0 := by simp [gs]
                            have e1365 : (gs u1342 125 x1328.toInt.toNat x1344.toInt) 114 0 = u1342 114 0 := by simp [gs]
                            refine cV (va_runV (C := RX9) (As := []) (rest := []) ⟨hx, hb, hml, hown, hA⟩ (k_X9_next l dC dI dA sz X Γ hU (gs u1342 125 x1328.toInt.toNat x1344.toInt) h0 t_h0   (by omega)) ⟨callB_of 0 hA (al_A wd_5_74) rfl rfl rfl (hA _ wd_1_7) (hA _ wd_5_71) (by decide +kernel) ⟨Nat.le_of_ble_eq_true rfl, Nat.le_of_ble_eq_true rfl⟩, hA _ wd_5_73, hA _ ws_39⟩ ⟨bl, recv_X9 hE hG t_h0, fun U hU9 hW9 => ⟨rfl, by rw [hU9]; exact hG, hE.go hS hU9 hW9⟩⟩ rfl rfl hl.1 rfl (lv_room (Nat.le_of_ble_eq_true rfl)) dX9_readStatement_305 ⟨Nat.zero_le _, Nat.zero_le _⟩) hS (fun u1366 H locs w1367 hG hS => ?_)
                            obtain ⟨hf1368, w1367⟩ := w1367
                            have hk1369 : u1366 119 0 = (gs u1342 125 x1328.toInt.toNat x1344.toInt) 119 0 := hf1368 119 0 (by decide) (by decide) (by decide) (by decide)
                            have hk1369 : u1366 119 0 = u1342 119 0 := by rw [hk1369]; simp [gs]
                            have hk1370 : u1366 124 0 = (gs u1342 125 x1328.toInt.toNat x1344.toInt) 124 0 := hf1368 124 0 (by decide) (by decide) (by decide) (by decide)
                            have hk1370 : u1366 124 0 = u1342 124 0 := by rw [hk1370]; simp [gs]
                            have hk1371 : u1342 124 0 = (gs u1321 125 x1308.toInt.toNat x1323.toInt) 124 0 := hf1345 124 0 (by decide) (by decide) (by decide) (by decide) (by decide) (by decide)
                            have hk1371 : u1342 124 0 = u1321 124 0 := by rw [hk1371]; simp [gs]
                            have hk1372 : u1321 124 0 = u1299 124 0 := hf1324 124 0 (by decide) (by decide) (by decide) (by decide) (by decide) (by decide)
                            have hk1373 : u1299 124 0 = (gs (gs g 124 0 x1292.toInt) 125 x1284.toInt.toNat x1264.toInt) 124 0 := hf1301 124 0 (by decide) (by decide) (by decide) (by decide)
                            have hk1373 : u1299 124 0 = x1292.toInt := by rw [hk1373]; simp [gs]
                            exact W.vret hx hb hr (fun t ht hW => ⟨⟨u1366, rfl, ⟨(fun c j h115 h116 h117 h118 h119 h120 h124 h125 => by rw [hf1368 c j h115 h116 h117 h118, gs_c _ _ _ _ h125, hf1345 c j h115 h116 h117 h118 h119 h120, gs_c _ _ _ _ h125, hf1324 c j h115 h116 h117 h118 h119 h120, hf1301 c j h115 h116 h117 h118, gs_c _ _ _ _ h125, gs_c _ _ _ _ h124]), (by omega)⟩, ok1 ht hG⟩, hS.F ht⟩) hS.2.2 dX9_readStatement_308
                        · skip
                          refine lv_aload_n hx hb dX9_readStatement_284 rfl (lv_at hl 2 rfl) ?_
                          refine get_X9_17 hx hb hA hown hE hG t_h0 wd_4_147 dX9_readStatement_285 (fun x1374 h1375 => ?_)
                          replace h1375 : x1374.toInt = u1342 117 0 := by rw [h1375]; simp [gs]
                          refine ty_iconst hx hb (4) dX9_readStatement_288 (by decide) (fun x1377 h1378 => ?_)
                          refine ty_icmp_eq (tgt := 297) hx hb dX9_readStatement_289 (by decide) (fun c1379 => ?_) (fun c1379 => ?_)
                          · skip
                            refine lv_aload_n hx hb dX9_readStatement_297 rfl (lv_at hl 2 rfl) ?_
                            refine get_X9_19 hx hb hA hown hE hG t_h0 wd_4_149 dX9_readStatement_298 (fun x1380 h1381 => ?_)
                            replace h1381 : x1380.toInt = u1342 119 0 := by rw [h1381]; simp [gs]
                            refine ty_if_ne (tgt := 308) hx hb dX9_readStatement_301 (by decide) (fun c1383 => ?_) (fun c1383 => ?_)
                            · skip
                              have e1384 : (gs u1342 125 x1328.toInt.toNat x1344.toInt) 115 0 = u1342 115 0 := by simp [gs]
                              have e1385 : (gs u1342 125 x1328.toInt.toNat x1344.toInt) 116 0 = u1342 116 0 := by simp [gs]
                              have e1386 : (gs u1342 125 x1328.toInt.toNat x1344.toInt) 119 0 = u1342 119 0 := by simp [gs]
                              have hk1387 : u1342 124 0 = (gs u1321 125 x1308.toInt.toNat x1323.toInt) 124 0 := hf1345 124 0 (by decide) (by decide) (by decide) (by decide) (by decide) (by decide)
                              have hk1387 : u1342 124 0 = u1321 124 0 := by rw [hk1387]; simp [gs]
                              have hk1388 : u1321 124 0 = u1299 124 0 := hf1324 124 0 (by decide) (by decide) (by decide) (by decide) (by decide) (by decide)
                              have hk1389 : u1299 124 0 = (gs (gs g 124 0 x1292.toInt) 125 x1284.toInt.toNat x1264.toInt) 124 0 := hf1301 124 0 (by decide) (by decide) (by decide) (by decide)
                              have hk1389 : u1299 124 0 = x1292.toInt := by rw [hk1389]; simp [gs]
                              have e1390 : (gs u1342 125 x1328.toInt.toNat x1344.toInt) 124 0 = u1342 124 0 := by simp [gs]
                              exact W.vret hx hb hr (fun t ht hW => ⟨⟨(gs u1342 125 x1328.toInt.toNat x1344.toInt), rfl, ⟨(fun c j h115 h116 h117 h118 h119 h120 h124 h125 => by rw [gs_c _ _ _ _ h125, hf1345 c j h115 h116 h117 h118 h119 h120, gs_c _ _ _ _ h125, hf1324 c j h115 h116 h117 h118 h119 h120, hf1301 c j h115 h116 h117 h118, gs_c _ _ _ _ h125, gs_c _ _ _ _ h124]), (by omega)⟩, ok1 ht hG⟩, hS.F ht⟩) hS.2.2 dX9_readStatement_308
                            · skip
                              refine lv_aload_n hx hb dX9_readStatement_304 rfl (lv_at hl 2 rfl) ?_
                              have hk1391 : u1342 114 0 = (gs u1321 125 x1308.toInt.toNat x1323.toInt) 114 0 := hf1345 114 0 (by decide) (by decide) (by decide) (by decide) (by decide) (by decide)
                              have hk1391 : u1342 114 0 = u1321 114 0 := by rw [hk1391]; simp [gs]
                              have e1392 : (gs u1342 125 x1328.toInt.toNat x1344.toInt) 114 0 = u1342 114 0 := by simp [gs]
                              have e1393 : (gs u1342 125 x1328.toInt.toNat x1344.toInt) 115 0 = u1342 115 0 := by simp [gs]
                              have e1394 : (gs u1342 125 x1328.toInt.toNat x1344.toInt) 114 0 = u1342 114 0 := by simp [gs]
                              refine cV (va_runV (C := RX9) (As := []) (rest := []) ⟨hx, hb, hml, hown, hA⟩ (k_X9_next l dC dI dA sz X Γ hU (gs u1342 125 x1328.toInt.toNat x1344.toInt) h0 t_h0   (by omega)) ⟨callB_of 0 hA (al_A wd_5_74) rfl rfl rfl (hA _ wd_1_7) (hA _ wd_5_71) (by decide +kernel) ⟨Nat.le_of_ble_eq_true rfl, Nat.le_of_ble_eq_true rfl⟩, hA _ wd_5_73, hA _ ws_39⟩ ⟨bl, recv_X9 hE hG t_h0, fun U hU9 hW9 => ⟨rfl, by rw [hU9]; exact hG, hE.go hS hU9 hW9⟩⟩ rfl rfl hl.1 rfl (lv_room (Nat.le_of_ble_eq_true rfl)) dX9_readStatement_305 ⟨Nat.zero_le _, Nat.zero_le _⟩) hS (fun u1395 H locs w1396 hG hS => ?_)
                              obtain ⟨hf1397, w1396⟩ := w1396
                              have hk1398 : u1395 119 0 = (gs u1342 125 x1328.toInt.toNat x1344.toInt) 119 0 := hf1397 119 0 (by decide) (by decide) (by decide) (by decide)
                              have hk1398 : u1395 119 0 = u1342 119 0 := by rw [hk1398]; simp [gs]
                              have hk1399 : u1395 124 0 = (gs u1342 125 x1328.toInt.toNat x1344.toInt) 124 0 := hf1397 124 0 (by decide) (by decide) (by decide) (by decide)
                              have hk1399 : u1395 124 0 = u1342 124 0 := by rw [hk1399]; simp [gs]
                              have hk1400 : u1342 124 0 = (gs u1321 125 x1308.toInt.toNat x1323.toInt) 124 0 := hf1345 124 0 (by decide) (by decide) (by decide) (by decide) (by decide) (by decide)
                              have hk1400 : u1342 124 0 = u1321 124 0 := by rw [hk1400]; simp [gs]
                              have hk1401 : u1321 124 0 = u1299 124 0 := hf1324 124 0 (by decide) (by decide) (by decide) (by decide) (by decide) (by decide)
                              have hk1402 : u1299 124 0 = (gs (gs g 124 0 x1292.toInt) 125 x1284.toInt.toNat x1264.toInt) 124 0 := hf1301 124 0 (by decide) (by decide) (by decide) (by decide)
                              have hk1402 : u1299 124 0 = x1292.toInt := by rw [hk1402]; simp [gs]
                              exact W.vret hx hb hr (fun t ht hW => ⟨⟨u1395, rfl, ⟨(fun c j h115 h116 h117 h118 h119 h120 h124 h125 => by rw [hf1397 c j h115 h116 h117 h118, gs_c _ _ _ _ h125, hf1345 c j h115 h116 h117 h118 h119 h120, gs_c _ _ _ _ h125, hf1324 c j h115 h116 h117 h118 h119 h120, hf1301 c j h115 h116 h117 h118, gs_c _ _ _ _ h125, gs_c _ _ _ _ h124]), (by omega)⟩, ok1 ht hG⟩, hS.F ht⟩) hS.2.2 dX9_readStatement_308
                          · skip
                            refine lv_aload_n hx hb dX9_readStatement_292 rfl (lv_at hl 2 rfl) ?_
                            refine ty_iconst hx hb (1) dX9_readStatement_293 (by decide) (fun x1403 h1404 => ?_)
                            have e1405 : (gs u1342 125 x1328.toInt.toNat x1344.toInt) 119 0 = u1342 119 0 := by simp [gs]
                            have e1406 : (gs u1342 125 x1328.toInt.toNat x1344.toInt) 119 0 = u1342 119 0 := by simp [gs]
                            refine cV (va_runV (C := RX9) (As := [.int x1403]) (rest := []) ⟨hx, hb, hml, hown, hA⟩ (k_X9_fails l dC dI dA sz X Γ hU (gs u1342 125 x1328.toInt.toNat x1344.toInt) h0 t_h0 x1403   ) ⟨callB_of 1 hA (al_A wd_5_102) rfl rfl rfl (hA _ wd_1_7) (hA _ wd_5_99) (by decide +kernel) ⟨Nat.le_of_ble_eq_true rfl, Nat.le_of_ble_eq_true rfl⟩, hA _ wd_5_101, hA _ ws_43⟩ ⟨bl, recv_X9 hE hG t_h0, fun U hU9 hW9 => ⟨rfl, by rw [hU9]; exact hG, hE.go hS hU9 hW9⟩⟩ rfl rfl hl.1 rfl (lv_room (Nat.le_of_ble_eq_true rfl)) dX9_readStatement_294 ⟨Nat.zero_le _, Nat.zero_le _⟩) hS (fun u1407 H locs w1408 hG hS => ?_)
                            obtain ⟨hf1409, w1408⟩ := w1408
                            refine lv_aload_n hx hb dX9_readStatement_297 rfl (lv_at hl 2 rfl) ?_
                            refine get_X9_19 hx hb hA hown hE hG t_h0 wd_4_149 dX9_readStatement_298 (fun x1410 h1411 => ?_)
                            refine ty_if_ne (tgt := 308) hx hb dX9_readStatement_301 (by decide) (fun c1413 => ?_) (fun c1413 => ?_)
                            · skip
                              have hk1414 : u1407 115 0 = (gs u1342 125 x1328.toInt.toNat x1344.toInt) 115 0 := hf1409 115 0 (by decide) (by decide)
                              have hk1414 : u1407 115 0 = u1342 115 0 := by rw [hk1414]; simp [gs]
                              have hk1415 : u1407 116 0 = (gs u1342 125 x1328.toInt.toNat x1344.toInt) 116 0 := hf1409 116 0 (by decide) (by decide)
                              have hk1415 : u1407 116 0 = u1342 116 0 := by rw [hk1415]; simp [gs]
                              have hk1416 : u1407 124 0 = (gs u1342 125 x1328.toInt.toNat x1344.toInt) 124 0 := hf1409 124 0 (by decide) (by decide)
                              have hk1416 : u1407 124 0 = u1342 124 0 := by rw [hk1416]; simp [gs]
                              have hk1417 : u1342 124 0 = (gs u1321 125 x1308.toInt.toNat x1323.toInt) 124 0 := hf1345 124 0 (by decide) (by decide) (by decide) (by decide) (by decide) (by decide)
                              have hk1417 : u1342 124 0 = u1321 124 0 := by rw [hk1417]; simp [gs]
                              have hk1418 : u1321 124 0 = u1299 124 0 := hf1324 124 0 (by decide) (by decide) (by decide) (by decide) (by decide) (by decide)
                              have hk1419 : u1299 124 0 = (gs (gs g 124 0 x1292.toInt) 125 x1284.toInt.toNat x1264.toInt) 124 0 := hf1301 124 0 (by decide) (by decide) (by decide) (by decide)
                              have hk1419 : u1299 124 0 = x1292.toInt := by rw [hk1419]; simp [gs]
                              exact W.vret hx hb hr (fun t ht hW => ⟨⟨u1407, rfl, ⟨(fun c j h115 h116 h117 h118 h119 h120 h124 h125 => by rw [hf1409 c j h119 h120, gs_c _ _ _ _ h125, hf1345 c j h115 h116 h117 h118 h119 h120, gs_c _ _ _ _ h125, hf1324 c j h115 h116 h117 h118 h119 h120, hf1301 c j h115 h116 h117 h118, gs_c _ _ _ _ h125, gs_c _ _ _ _ h124]), (by omega)⟩, ok1 ht hG⟩, hS.F ht⟩) hS.2.2 dX9_readStatement_308
                            · skip
                              refine lv_aload_n hx hb dX9_readStatement_304 rfl (lv_at hl 2 rfl) ?_
                              have hk1420 : u1407 114 0 = (gs u1342 125 x1328.toInt.toNat x1344.toInt) 114 0 := hf1409 114 0 (by decide) (by decide)
                              have hk1420 : u1407 114 0 = u1342 114 0 := by rw [hk1420]; simp [gs]
                              have hk1421 : u1342 114 0 = (gs u1321 125 x1308.toInt.toNat x1323.toInt) 114 0 := hf1345 114 0 (by decide) (by decide) (by decide) (by decide) (by decide) (by decide)
                              have hk1421 : u1342 114 0 = u1321 114 0 := by rw [hk1421]; simp [gs]
                              have hk1422 : u1407 115 0 = (gs u1342 125 x1328.toInt.toNat x1344.toInt) 115 0 := hf1409 115 0 (by decide) (by decide)
                              have hk1422 : u1407 115 0 = u1342 115 0 := by rw [hk1422]; simp [gs]
                              refine cV (va_runV (C := RX9) (As := []) (rest := []) ⟨hx, hb, hml, hown, hA⟩ (k_X9_next l dC dI dA sz X Γ hU u1407 h0 t_h0   (by omega)) ⟨callB_of 0 hA (al_A wd_5_74) rfl rfl rfl (hA _ wd_1_7) (hA _ wd_5_71) (by decide +kernel) ⟨Nat.le_of_ble_eq_true rfl, Nat.le_of_ble_eq_true rfl⟩, hA _ wd_5_73, hA _ ws_39⟩ ⟨bl, recv_X9 hE hG t_h0, fun U hU9 hW9 => ⟨rfl, by rw [hU9]; exact hG, hE.go hS hU9 hW9⟩⟩ rfl rfl hl.1 rfl (lv_room (Nat.le_of_ble_eq_true rfl)) dX9_readStatement_305 ⟨Nat.zero_le _, Nat.zero_le _⟩) hS (fun u1423 H locs w1424 hG hS => ?_)
                              obtain ⟨hf1425, w1424⟩ := w1424
                              have hk1426 : u1423 119 0 = u1407 119 0 := hf1425 119 0 (by decide) (by decide) (by decide) (by decide)
                              have hk1427 : u1423 124 0 = u1407 124 0 := hf1425 124 0 (by decide) (by decide) (by decide) (by decide)
                              have hk1428 : u1407 124 0 = (gs u1342 125 x1328.toInt.toNat x1344.toInt) 124 0 := hf1409 124 0 (by decide) (by decide)
                              have hk1428 : u1407 124 0 = u1342 124 0 := by rw [hk1428]; simp [gs]
                              have hk1429 : u1342 124 0 = (gs u1321 125 x1308.toInt.toNat x1323.toInt) 124 0 := hf1345 124 0 (by decide) (by decide) (by decide) (by decide) (by decide) (by decide)
                              have hk1429 : u1342 124 0 = u1321 124 0 := by rw [hk1429]; simp [gs]
                              have hk1430 : u1321 124 0 = u1299 124 0 := hf1324 124 0 (by decide) (by decide) (by decide) (by decide) (by decide) (by decide)
                              have hk1431 : u1299 124 0 = (gs (gs g 124 0 x1292.toInt) 125 x1284.toInt.toNat x1264.toInt) 124 0 := hf1301 124 0 (by decide) (by decide) (by decide) (by decide)
                              have hk1431 : u1299 124 0 = x1292.toInt := by rw [hk1431]; simp [gs]
                              exact W.vret hx hb hr (fun t ht hW => ⟨⟨u1423, rfl, ⟨(fun c j h115 h116 h117 h118 h119 h120 h124 h125 => by rw [hf1425 c j h115 h116 h117 h118, hf1409 c j h119 h120, gs_c _ _ _ _ h125, hf1345 c j h115 h116 h117 h118 h119 h120, gs_c _ _ _ _ h125, hf1324 c j h115 h116 h117 h118 h119 h120, hf1301 c j h115 h116 h117 h118, gs_c _ _ _ _ h125, gs_c _ _ _ _ h124]), (by omega)⟩, ok1 ht hG⟩, hS.F ht⟩) hS.2.2 dX9_readStatement_308
                      · exfalso; omega
                    · exfalso; omega
                  · exfalso; omega
                · exfalso; omega
              · exfalso; omega
            · skip
              exact W.vret hx hb hr (fun t ht hW => ⟨⟨g, rfl, ⟨(fun c j h115 h116 h117 h118 h119 h120 h124 h125 => by rfl), (by omega)⟩, ok1 ht hG⟩, hS.F ht⟩) hS.2.2 dX9_readStatement_88
          · skip
            refine lv_aload_n hx hb dX9_readStatement_76 rfl (lv_at hl 1 rfl) ?_
            refine ty_iconst hx hb (3) dX9_readStatement_77 (by decide) (fun x1432 h1433 => ?_)
            refine cV (va_runV (C := RX9) (As := [.int x1432]) (rest := []) ⟨hx, hb, hml, hown, hA⟩ (k_X9_fails l dC dI dA sz X Γ hU g h0 t_h0 x1432   ) ⟨callB_of 1 hA (al_A wd_5_102) rfl rfl rfl (hA _ wd_1_7) (hA _ wd_5_99) (by decide +kernel) ⟨Nat.le_of_ble_eq_true rfl, Nat.le_of_ble_eq_true rfl⟩, hA _ wd_5_101, hA _ ws_43⟩ ⟨bl, recv_X9 hE hG t_h0, fun U hU9 hW9 => ⟨rfl, by rw [hU9]; exact hG, hE.go hS hU9 hW9⟩⟩ rfl rfl hl.1 rfl (lv_room (Nat.le_of_ble_eq_true rfl)) dX9_readStatement_78 ⟨Nat.zero_le _, Nat.zero_le _⟩) hS (fun u1434 H locs w1435 hG hS => ?_)
            obtain ⟨hf1436, w1435⟩ := w1435
            refine lv_aload_n hx hb dX9_readStatement_81 rfl (lv_at hl 1 rfl) ?_
            refine get_X9_19 hx hb hA hown hE hG t_h0 wd_4_149 dX9_readStatement_82 (fun x1437 h1438 => ?_)
            refine ty_if_eq (tgt := 89) hx hb dX9_readStatement_85 (by decide) (fun c1440 => ?_) (fun c1440 => ?_)
            · skip
              refine ty_iconst hx hb (4) dX9_readStatement_89 (by decide) (fun x1441 h1442 => ?_)
              refine lv_aload_n hx hb dX9_readStatement_90 rfl (lv_at hl 1 rfl) ?_
              refine get_X9_24 hx hb hA hown hE hG t_h0 wd_4_154 dX9_readStatement_91 (fun x1443 h1444 => ?_)
              have hk1446 : u1434 124 0 = g 124 0 := hf1436 124 0 (by decide) (by decide)
              refine ty_imul hx hb dX9_readStatement_94 (fun x1447 h1448 => ?_)
              try have h1449 : x1447.toInt = 4 * x1443.toInt := ty_mull h1448 (by omega) (by omega) (by omega)
              refine lv_istore_n (lv' := [(2, .int x1447), (1, .int x1264), (0, .ref h0)]) hx hb dX9_readStatement_95 rfl hl (by decide) rfl (fun ls hl => ?_)
              refine lv_aload_n hx hb dX9_readStatement_96 rfl (lv_at hl 2 rfl) ?_
              refine lv_dup hx hb dX9_readStatement_97 rfl ?_
              refine get_X9_24 hx hb hA hown hE hG t_h0 wd_4_154 dX9_readStatement_98 (fun x1450 h1451 => ?_)
              refine ty_iconst hx hb (1) dX9_readStatement_101 (by decide) (fun x1453 h1454 => ?_)
              refine ty_iadd hx hb dX9_readStatement_102 (fun x1455 h1456 => ?_)
              try have h1457 : x1455.toInt = x1450.toInt + x1453.toInt := ty_add h1456 (by omega) (by omega)
              refine put_X9_24 hx hb hA hown hE hG hS hU t_h0 wd_4_154 dX9_readStatement_103 (fun H locs hG hS => ?_)
              refine lv_aload_n hx hb dX9_readStatement_106 rfl (lv_at hl 2 rfl) ?_
              refine get_X9_25 hx hb hA hown hE hG t_h0 wd_4_155 dX9_readStatement_107 (fun b1458 (t_b1458 : ty Γ b1458 125) => ?_)
              refine lv_iload_n hx hb dX9_readStatement_110 rfl (lv_at hl 0 rfl) ?_
              refine lv_iload_n hx hb dX9_readStatement_111 rfl (lv_at hl 1 rfl) ?_
              refine ast_mI hx hb hE hG hS hU 25 rfl (n := 120) rfl (lo := -2147483648) (hi := 2147483647) rfl rfl rfl t_b1458 (rgD _) (by omega) dX9_readStatement_112 (fun H locs hG hS => ?_)
              refine lv_aload_n hx hb dX9_readStatement_113 rfl (lv_at hl 2 rfl) ?_
              have hk1459 : u1434 114 0 = g 114 0 := hf1436 114 0 (by decide) (by decide)
              have e1460 : (gs (gs u1434 124 0 x1455.toInt) 125 x1447.toInt.toNat x1264.toInt) 114 0 = u1434 114 0 := by simp [gs]
              have hk1461 : u1434 115 0 = g 115 0 := hf1436 115 0 (by decide) (by decide)
              have e1462 : (gs (gs u1434 124 0 x1455.toInt) 125 x1447.toInt.toNat x1264.toInt) 115 0 = u1434 115 0 := by simp [gs]
              have e1463 : (gs (gs u1434 124 0 x1455.toInt) 125 x1447.toInt.toNat x1264.toInt) 114 0 = u1434 114 0 := by simp [gs]
              refine cV (va_runV (C := RX9) (As := []) (rest := []) ⟨hx, hb, hml, hown, hA⟩ (k_X9_next l dC dI dA sz X Γ hU (gs (gs u1434 124 0 x1455.toInt) 125 x1447.toInt.toNat x1264.toInt) h0 t_h0   (by omega)) ⟨callB_of 0 hA (al_A wd_5_74) rfl rfl rfl (hA _ wd_1_7) (hA _ wd_5_71) (by decide +kernel) ⟨Nat.le_of_ble_eq_true rfl, Nat.le_of_ble_eq_true rfl⟩, hA _ wd_5_73, hA _ ws_39⟩ ⟨bl, recv_X9 hE hG t_h0, fun U hU9 hW9 => ⟨rfl, by rw [hU9]; exact hG, hE.go hS hU9 hW9⟩⟩ rfl rfl hl.1 rfl (lv_room (Nat.le_of_ble_eq_true rfl)) dX9_readStatement_114 ⟨Nat.zero_le _, Nat.zero_le _⟩) hS (fun u1464 H locs w1465 hG hS => ?_)
              obtain ⟨hf1466, w1465⟩ := w1465
              refine lv_iload_n hx hb dX9_readStatement_117 rfl (lv_at hl 1 rfl) ?_
              refine ty_iconst hx hb (3) dX9_readStatement_118 (by decide) (fun x1467 h1468 => ?_)
              refine ty_icmp_ne (tgt := 177) hx hb dX9_readStatement_119 (by decide) (fun c1469 => ?_) (fun c1469 => ?_)
              · skip
                refine lv_aload_n hx hb dX9_readStatement_177 rfl (lv_at hl 2 rfl) ?_
                refine get_X9_25 hx hb hA hown hE hG t_h0 wd_4_155 dX9_readStatement_178 (fun b1470 (t_b1470 : ty Γ b1470 125) => ?_)
                refine lv_iload_n hx hb dX9_readStatement_181 rfl (lv_at hl 0 rfl) ?_
                refine ty_iconst hx hb (1) dX9_readStatement_182 (by decide) (fun x1471 h1472 => ?_)
                refine ty_iadd hx hb dX9_readStatement_183 (fun x1473 h1474 => ?_)
                try have h1475 : x1473.toInt = x1447.toInt + x1471.toInt := ty_add h1474 (by omega) (by omega)
                refine lv_iload_n hx hb dX9_readStatement_184 rfl (lv_at hl 1 rfl) ?_
                refine ty_if_ne (tgt := 198) hx hb dX9_readStatement_185 (by decide) (fun c1476 => ?_) (fun c1476 => ?_)
                · skip
                  refine lv_iload_n hx hb dX9_readStatement_198 rfl (lv_at hl 1 rfl) ?_
                  refine ty_iconst hx hb (1) dX9_readStatement_199 (by decide) (fun x1477 h1478 => ?_)
                  refine ty_icmp_ne (tgt := 212) hx hb dX9_readStatement_200 (by decide) (fun c1479 => ?_) (fun c1479 => ?_)
                  · skip
                    refine lv_aload_n hx hb dX9_readStatement_212 rfl (lv_at hl 2 rfl) ?_
                    refine ty_iconst hx hb (0) dX9_readStatement_213 (by decide) (fun x1480 h1481 => ?_)
                    refine ty_bipush hx hb (52) dX9_readStatement_214 (by decide) (fun x1482 h1483 => ?_)
                    have hk1484 : u1464 114 0 = (gs (gs u1434 124 0 x1455.toInt) 125 x1447.toInt.toNat x1264.toInt) 114 0 := hf1466 114 0 (by decide) (by decide) (by decide) (by decide)
                    have hk1484 : u1464 114 0 = u1434 114 0 := by rw [hk1484]; simp [gs]
                    have hk1485 : u1464 119 0 = (gs (gs u1434 124 0 x1455.toInt) 125 x1447.toInt.toNat x1264.toInt) 119 0 := hf1466 119 0 (by decide) (by decide) (by decide) (by decide)
                    have hk1485 : u1464 119 0 = u1434 119 0 := by rw [hk1485]; simp [gs]
                    refine cI (va_runV (C := RX9) (As := [.int x1480, .int x1482]) (rest := [.int x1473, .ref b1470]) ⟨hx, hb, hml, hown, hA⟩ (k_X9_number l dC dI dA sz X Γ hU u1464 h0 t_h0 x1480 x1482   (by omega) (by omega)) ⟨callB_of 2 hA (al_A wd_5_108) rfl rfl rfl (hA _ wd_1_7) (hA _ wd_5_105) (by decide +kernel) ⟨Nat.le_of_ble_eq_true rfl, Nat.le_of_ble_eq_true rfl⟩, hA _ wd_5_107, hA _ ws_44⟩ ⟨bl, recv_X9 hE hG t_h0, fun U hU9 hW9 => ⟨rfl, by rw [hU9]; exact hG, hE.go hS hU9 hW9⟩⟩ rfl rfl hl.1 rfl (lv_room (Nat.le_of_ble_eq_true rfl)) dX9_readStatement_216 ⟨Nat.zero_le _, Nat.zero_le _⟩) hS (fun x1488 u1486 H locs w1487 hG hS => ?_)
                    obtain ⟨hf1489, w1487⟩ := w1487
                    refine ast_mI hx hb hE hG hS hU 25 rfl (n := 120) rfl (lo := -2147483648) (hi := 2147483647) rfl rfl rfl t_b1470 (rgD _) (by omega) dX9_readStatement_219 (fun H locs hG hS => ?_)
                    refine lv_aload_n hx hb dX9_readStatement_220 rfl (lv_at hl 2 rfl) ?_
                    refine get_X9_25 hx hb hA hown hE hG t_h0 wd_4_155 dX9_readStatement_221 (fun b1490 (t_b1490 : ty Γ b1490 125) => ?_)
                    refine lv_iload_n hx hb dX9_readStatement_224 rfl (lv_at hl 0 rfl) ?_
                    refine ty_iconst hx hb (2) dX9_readStatement_225 (by decide) (fun x1491 h1492 => ?_)
                    refine ty_iadd hx hb dX9_readStatement_226 (fun x1493 h1494 => ?_)
                    try have h1495 : x1493.toInt = x1447.toInt + x1491.toInt := ty_add h1494 (by omega) (by omega)
                    refine lv_iload_n hx hb dX9_readStatement_227 rfl (lv_at hl 1 rfl) ?_
                    refine ty_if_ne (tgt := 248) hx hb dX9_readStatement_228 (by decide) (fun c1496 => ?_) (fun c1496 => ?_)
                    · skip
                      refine lv_aload_n hx hb dX9_readStatement_248 rfl (lv_at hl 2 rfl) ?_
                      refine ty_iconst hx hb (0) dX9_readStatement_249 (by decide) (fun x1497 h1498 => ?_)
                      refine ty_sipush hx hb (9999) dX9_readStatement_250 (by decide) (fun x1499 h1500 => ?_)
                      have hk1501 : u1486 114 0 = u1464 114 0 := hf1489 114 0 (by decide) (by decide) (by decide) (by decide) (by decide) (by decide)
                      have e1502 : (gs u1486 125 x1473.toInt.toNat x1488.toInt) 114 0 = u1486 114 0 := by simp [gs]
                      have e1503 : (gs u1486 125 x1473.toInt.toNat x1488.toInt) 115 0 = u1486 115 0 := by simp [gs]
                      have e1504 : (gs u1486 125 x1473.toInt.toNat x1488.toInt) 116 0 = u1486 116 0 := by simp [gs]
                      have e1505 : (gs u1486 125 x1473.toInt.toNat x1488.toInt) 119 0 = u1486 119 0 := by simp [gs]
                      have e1506 : (gs u1486 125 x1473.toInt.toNat x1488.toInt) 114 0 = u1486 114 0 := by simp [gs]
                      refine cI (va_runV (C := RX9) (As := [.int x1497, .int x1499]) (rest := [.int x1493, .ref b1490]) ⟨hx, hb, hml, hown, hA⟩ (k_X9_number l dC dI dA sz X Γ hU (gs u1486 125 x1473.toInt.toNat x1488.toInt) h0 t_h0 x1497 x1499   (by omega) (by omega)) ⟨callB_of 2 hA (al_A wd_5_108) rfl rfl rfl (hA _ wd_1_7) (hA _ wd_5_105) (by decide +kernel) ⟨Nat.le_of_ble_eq_true rfl, Nat.le_of_ble_eq_true rfl⟩, hA _ wd_5_107, hA _ ws_44⟩ ⟨bl, recv_X9 hE hG t_h0, fun U hU9 hW9 => ⟨rfl, by rw [hU9]; exact hG, hE.go hS hU9 hW9⟩⟩ rfl rfl hl.1 rfl (lv_room (Nat.le_of_ble_eq_true rfl)) dX9_readStatement_253 ⟨Nat.zero_le _, Nat.zero_le _⟩) hS (fun x1509 u1507 H locs w1508 hG hS => ?_)
                      obtain ⟨hf1510, w1508⟩ := w1508
                      refine ast_mI hx hb hE hG hS hU 25 rfl (n := 120) rfl (lo := -2147483648) (hi := 2147483647) rfl rfl rfl t_b1490 (rgD _) (by omega) dX9_readStatement_256 (fun H locs hG hS => ?_)
                      refine lv_iload_n hx hb dX9_readStatement_257 rfl (lv_at hl 1 rfl) ?_
                      refine ty_if_ne (tgt := 277) hx hb dX9_readStatement_258 (by decide) (fun c1511 => ?_) (fun c1511 => ?_)
                      · skip
                        refine lv_aload_n hx hb dX9_readStatement_277 rfl (lv_at hl 2 rfl) ?_
                        refine get_X9_19 hx hb hA hown hE hG t_h0 wd_4_149 dX9_readStatement_278 (fun x1512 h1513 => ?_)
                        replace h1513 : x1512.toInt = u1507 119 0 := by rw [h1513]; simp [gs]
                        refine ty_if_ne (tgt := 297) hx hb dX9_readStatement_281 (by decide) (fun c1515 => ?_) (fun c1515 => ?_)
                        · skip
                          refine lv_aload_n hx hb dX9_readStatement_297 rfl (lv_at hl 2 rfl) ?_
                          refine get_X9_19 hx hb hA hown hE hG t_h0 wd_4_149 dX9_readStatement_298 (fun x1516 h1517 => ?_)
                          replace h1517 : x1516.toInt = u1507 119 0 := by rw [h1517]; simp [gs]
                          refine ty_if_ne (tgt := 308) hx hb dX9_readStatement_301 (by decide) (fun c1519 => ?_) (fun c1519 => ?_)
                          · skip
                            have e1520 : (gs u1507 125 x1493.toInt.toNat x1509.toInt) 115 0 = u1507 115 0 := by simp [gs]
                            have e1521 : (gs u1507 125 x1493.toInt.toNat x1509.toInt) 116 0 = u1507 116 0 := by simp [gs]
                            have e1522 : (gs u1507 125 x1493.toInt.toNat x1509.toInt) 119 0 = u1507 119 0 := by simp [gs]
                            have hk1523 : u1507 124 0 = (gs u1486 125 x1473.toInt.toNat x1488.toInt) 124 0 := hf1510 124 0 (by decide) (by decide) (by decide) (by decide) (by decide) (by decide)
                            have hk1523 : u1507 124 0 = u1486 124 0 := by rw [hk1523]; simp [gs]
                            have hk1524 : u1486 124 0 = u1464 124 0 := hf1489 124 0 (by decide) (by decide) (by decide) (by decide) (by decide) (by decide)
                            have hk1525 : u1464 124 0 = (gs (gs u1434 124 0 x1455.toInt) 125 x1447.toInt.toNat x1264.toInt) 124 0 := hf1466 124 0 (by decide) (by decide) (by decide) (by decide)
                            have hk1525 : u1464 124 0 = x1455.toInt := by rw [hk1525]; simp [gs]
                            have e1526 : (gs u1507 125 x1493.toInt.toNat x1509.toInt) 124 0 = u1507 124 0 := by simp [gs]
                            exact W.vret hx hb hr (fun t ht hW => ⟨⟨(gs u1507 125 x1493.toInt.toNat x1509.toInt), rfl, ⟨(fun c j h115 h116 h117 h118 h119 h120 h124 h125 => by rw [gs_c _ _ _ _ h125, hf1510 c j h115 h116 h117 h118 h119 h120, gs_c _ _ _ _ h125, hf1489 c j h115 h116 h117 h118 h119 h120, hf1466 c j h115 h116 h117 h118, gs_c _ _ _ _ h125, gs_c _ _ _ _ h124, hf1436 c j h119 h120]), (by omega)⟩, ok1 ht hG⟩, hS.F ht⟩) hS.2.2 dX9_readStatement_308
                          · skip
                            refine lv_aload_n hx hb dX9_readStatement_304 rfl (lv_at hl 2 rfl) ?_
                            have hk1527 : u1507 114 0 = (gs u1486 125 x1473.toInt.toNat x1488.toInt) 114 0 := hf1510 114 0 (by decide) (by decide) (by decide) (by decide) (by decide) (by decide)
                            have hk1527 : u1507 114 0 = u1486 114 0 := by rw [hk1527]; simp [gs]
                            have e1528 : (gs u1507 125 x1493.toInt.toNat x1509.toInt) 114 0 = u1507 114 0 := by simp [gs]
                            have e1529 : (gs u1507 125 x1493.toInt.toNat x1509.toInt) 115 0 = u1507 115 0 := by simp [gs]
                            have e1530 : (gs u1507 125 x1493.toInt.toNat x1509.toInt) 114 0 = u1507 114 0 := by simp [gs]
                            refine cV (va_runV (C := RX9) (As := []) (rest := []) ⟨hx, hb, hml, hown, hA⟩ (k_X9_next l dC dI dA sz X Γ hU (gs u1507 125 x1493.toInt.toNat x1509.toInt) h0 t_h0   (by omega)) ⟨callB_of 0 hA (al_A wd_5_74) rfl rfl rfl (hA _ wd_1_7) (hA _ wd_5_71) (by decide +kernel) ⟨Nat.le_of_ble_eq_true rfl, Nat.le_of_ble_eq_true rfl⟩, hA _ wd_5_73, hA _ ws_39⟩ ⟨bl, recv_X9 hE hG t_h0, fun U hU9 hW9 => ⟨rfl, by rw [hU9]; exact hG, hE.go hS hU9 hW9⟩⟩ rfl rfl hl.1 rfl (lv_room (Nat.le_of_ble_eq_true rfl)) dX9_readStatement_305 ⟨Nat.zero_le _, Nat.zero_le _⟩) hS (fun u1531 H locs w1532 hG hS => ?_)
                            obtain ⟨hf1533, w1532⟩ := w1532
                            have hk1534 : u1531 119 0 = (gs u1507 125 x1493.toInt.toNat x1509.toInt) 119 0 := hf1533 119 0 (by decide) (by decide) (by decide) (by decide)
                            have hk1534 : u1531 119 0 = u1507 119 0 := by rw [hk1534]; simp [gs]
                            have hk1535 : u1531 124 0 = (gs u1507 125 x1493.toInt.toNat x1509.toInt) 124 0 := hf1533 124 0 (by decide) (by decide) (by decide) (by decide)
                            have hk1535 : u1531 124 0 = u1507 124 0 := by rw [hk1535]; simp [gs]
                            have hk1536 : u1507 124 0 = (gs u1486 125 x1473.toInt.toNat x1488.toInt) 124 0 := hf1510 124 0 (by decide) (by decide) (by decide) (by decide) (by decide) (by decide)
                            have hk1536 : u1507 124 0 = u1486 124 0 := by rw [hk1536]; simp [gs]
                            have hk1537 : u1486 124 0 = u1464 124 0 := hf1489 124 0 (by decide) (by decide) (by decide) (by decide) (by decide) (by decide)
                            have hk1538 : u1464 124 0 = (gs (gs u1434 124 0 x1455.toInt) 125 x1447.toInt.toNat x1264.toInt) 124 0 := hf1466 124 0 (by decide) (by decide) (by decide) (by decide)
                            have hk1538 : u1464 124 0 = x1455.toInt := by rw [hk1538]; simp [gs]
                            exact W.vret hx hb hr (fun t ht hW => ⟨⟨u1531, rfl, ⟨(fun c j h115 h116 h117 h118 h119 h120 h124 h125 => by rw [hf1533 c j h115 h116 h117 h118, gs_c _ _ _ _ h125, hf1510 c j h115 h116 h117 h118 h119 h120, gs_c _ _ _ _ h125, hf1489 c j h115 h116 h117 h118 h119 h120, hf1466 c j h115 h116 h117 h118, gs_c _ _ _ _ h125, gs_c _ _ _ _ h124, hf1436 c j h119 h120]), (by omega)⟩, ok1 ht hG⟩, hS.F ht⟩) hS.2.2 dX9_readStatement_308
                        · skip
                          refine lv_aload_n hx hb dX9_readStatement_284 rfl (lv_at hl 2 rfl) ?_
                          refine get_X9_17 hx hb hA hown hE hG t_h0 wd_4_147 dX9_readStatement_285 (fun x1539 h1540 => ?_)
                          replace h1540 : x1539.toInt = u1507 117 0 := by rw [h1540]; simp [gs]
                          refine ty_iconst hx hb (4) dX9_readStatement_288 (by decide) (fun x1542 h1543 => ?_)
                          refine ty_icmp_eq (tgt := 297) hx hb dX9_readStatement_289 (by decide) (fun c1544 => ?_) (fun c1544 => ?_)
                          · skip
                            refine lv_aload_n hx hb dX9_readStatement_297 rfl (lv_at hl 2 rfl) ?_
                            refine get_X9_19 hx hb hA hown hE hG t_h0 wd_4_149 dX9_readStatement_298 (fun x1545 h1546 => ?_)
                            replace h1546 : x1545.toInt = u1507 119 0 := by rw [h1546]; simp [gs]
                            refine ty_if_ne (tgt := 308) hx hb dX9_readStatement_301 (by decide) (fun c1548 => ?_) (fun c1548 => ?_)
                            · skip
                              have e1549 : (gs u1507 125 x1493.toInt.toNat x1509.toInt) 115 0 = u1507 115 0 := by simp [gs]
                              have e1550 : (gs u1507 125 x1493.toInt.toNat x1509.toInt) 116 0 = u1507 116 0 := by simp [gs]
                              have e1551 : (gs u1507 125 x1493.toInt.toNat x1509.toInt) 119 0 = u1507 119 0 := by simp [gs]
                              have hk1552 : u1507 124 0 = (gs u1486 125 x1473.toInt.toNat x1488.toInt) 124 0 := hf1510 124 0 (by decide) (by decide) (by decide) (by decide) (by decide) (by decide)
                              have hk1552 : u1507 124 0 = u1486 124 0 := by rw [hk1552]; simp [gs]
                              have hk1553 : u1486 124 0 = u1464 124 0 := hf1489 124 0 (by decide) (by decide) (by decide) (by decide) (by decide) (by decide)
                              have hk1554 : u1464 124 0 = (gs (gs u1434 124 0 x1455.toInt) 125 x1447.toInt.toNat x1264.toInt) 124 0 := hf1466 124 0 (by decide) (by decide) (by decide) (by decide)
                              have hk1554 : u1464 124 0 = x1455.toInt := by rw [hk1554]; simp [gs]
                              have e1555 : (gs u1507 125 x1493.toInt.toNat x1509.toInt) 124 0 = u1507 124 0 := by simp [gs]
                              exact W.vret hx hb hr (fun t ht hW => ⟨⟨(gs u1507 125 x1493.toInt.toNat x1509.toInt), rfl, ⟨(fun c j h115 h116 h117 h118 h119 h120 h124 h125 => by rw [gs_c _ _ _ _ h125, hf1510 c j h115 h116 h117 h118 h119 h120, gs_c _ _ _ _ h125, hf1489 c j h115 h116 h117 h118 h119 h120, hf1466 c j h115 h116 h117 h118, gs_c _ _ _ _ h125, gs_c _ _ _ _ h124, hf1436 c j h119 h120]), (by omega)⟩, ok1 ht hG⟩, hS.F ht⟩) hS.2.2 dX9_readStatement_308
                            · skip
                              refine lv_aload_n hx hb dX9_readStatement_304 rfl (lv_at hl 2 rfl) ?_
                              have hk1556 : u1507 114 0 = (gs u1486 125 x1473.toInt.toNat x1488.toInt) 114 0 := hf1510 114 0 (by decide) (by decide) (by decide) (by decide) (by decide) (by decide)
                              have hk1556 : u1507 114 0 = u1486 114 0 := by rw [hk1556]; simp [gs]
                              have e1557 : (gs u1507 125 x1493.toInt.toNat x1509.toInt) 114 0 = u1507 114 0 := by simp [gs]
                              have e1558 : (gs u1507 125 x1493.toInt.toNat x1509.toInt) 115 0 = u1507 115 0 := by simp [gs]
                              have e1559 : (gs u1507 125 x1493.toInt.toNat x1509.toInt) 114 0 = u1507 114 0 := by simp [gs]
                              refine cV (va_runV (C := RX9) (As := []) (rest := []) ⟨hx, hb, hml, hown, hA⟩ (k_X9_next l dC dI dA sz X Γ hU (gs u1507 125 x1493.toInt.toNat x1509.toInt) h0 t_h0   (by omega)) ⟨callB_of 0 hA (al_A wd_5_74) rfl rfl rfl (hA _ wd_1_7) (hA _ wd_5_71) (by decide +kernel) ⟨Nat.le_of_ble_eq_true rfl, Nat.le_of_ble_eq_true rfl⟩, hA _ wd_5_73, hA _ ws_39⟩ ⟨bl, recv_X9 hE hG t_h0, fun U hU9 hW9 => ⟨rfl, by rw [hU9]; exact hG, hE.go hS hU9 hW9⟩⟩ rfl rfl hl.1 rfl (lv_room (Nat.le_of_ble_eq_true rfl)) dX9_readStatement_305 ⟨Nat.zero_le _, Nat.zero_le _⟩) hS (fun u1560 H locs w1561 hG hS => ?_)
                              obtain ⟨hf1562, w1561⟩ := w1561
                              have hk1563 : u1560 119 0 = (gs u1507 125 x1493.toInt.toNat x1509.toInt) 119 0 := hf1562 119 0 (by decide) (by decide) (by decide) (by decide)
                              have hk1563 : u1560 119 0 = u1507 119 0 := by rw [hk1563]; simp [gs]
                              have hk1564 : u1560 124 0 = (gs u1507 125 x1493.toInt.toNat x1509.toInt) 124 0 := hf1562 124 0 (by decide) (by decide) (by decide) (by decide)
                              have hk1564 : u1560 124 0 = u1507 124 0 := by rw [hk1564]; simp [gs]
                              have hk1565 : u1507 124 0 = (gs u1486 125 x1473.toInt.toNat x1488.toInt) 124 0 := hf1510 124 0 (by decide) (by decide) (by decide) (by decide) (by decide) (by decide)
                              have hk1565 : u1507 124 0 = u1486 124 0 := by rw [hk1565]; simp [gs]
                              have hk1566 : u1486 124 0 = u1464 124 0 := hf1489 124 0 (by decide) (by decide) (by decide) (by decide) (by decide) (by decide)
                              have hk1567 : u1464 124 0 = (gs (gs u1434 124 0 x1455.toInt) 125 x1447.toInt.toNat x1264.toInt) 124 0 := hf1466 124 0 (by decide) (by decide) (by decide) (by decide)
                              have hk1567 : u1464 124 0 = x1455.toInt := by rw [hk1567]; simp [gs]
                              exact W.vret hx hb hr (fun t ht hW => ⟨⟨u1560, rfl, ⟨(fun c j h115 h116 h117 h118 h119 h120 h124 h125 => by rw [hf1562 c j h115 h116 h117 h118, gs_c _ _ _ _ h125, hf1510 c j h115 h116 h117 h118 h119 h120, gs_c _ _ _ _ h125, hf1489 c j h115 h116 h117 h118 h119 h120, hf1466 c j h115 h116 h117 h118, gs_c _ _ _ _ h125, gs_c _ _ _ _ h124, hf1436 c j h119 h120]), (by omega)⟩, ok1 ht hG⟩, hS.F ht⟩) hS.2.2 dX9_readStatement_308
                          · skip
                            refine lv_aload_n hx hb dX9_readStatement_292 rfl (lv_at hl 2 rfl) ?_
                            refine ty_iconst hx hb (1) dX9_readStatement_293 (by decide) (fun x1568 h1569 => ?_)
                            have e1570 : (gs u1507 125 x1493.toInt.toNat x1509.toInt) 119 0 = u1507 119 0 := by simp [gs]
                            have e1571 : (gs u1507 125 x1493.toInt.toNat x1509.toInt) 119 0 = u1507 119 0 := by simp [gs]
                            refine cV (va_runV (C := RX9) (As := [.int x1568]) (rest := []) ⟨hx, hb, hml, hown, hA⟩ (k_X9_fails l dC dI dA sz X Γ hU (gs u1507 125 x1493.toInt.toNat x1509.toInt) h0 t_h0 x1568   ) ⟨callB_of 1 hA (al_A wd_5_102) rfl rfl rfl (hA _ wd_1_7) (hA _ wd_5_99) (by decide +kernel) ⟨Nat.le_of_ble_eq_true rfl, Nat.le_of_ble_eq_true rfl⟩, hA _ wd_5_101, hA _ ws_43⟩ ⟨bl, recv_X9 hE hG t_h0, fun U hU9 hW9 => ⟨rfl, by rw [hU9]; exact hG, hE.go hS hU9 hW9⟩⟩ rfl rfl hl.1 rfl (lv_room (Nat.le_of_ble_eq_true rfl)) dX9_readStatement_294 ⟨Nat.zero_le _, Nat.zero_le _⟩) hS (fun u1572 H locs w1573 hG hS => ?_)
                            obtain ⟨hf1574, w1573⟩ := w1573
                            refine lv_aload_n hx hb dX9_readStatement_297 rfl (lv_at hl 2 rfl) ?_
                            refine get_X9_19 hx hb hA hown hE hG t_h0 wd_4_149 dX9_readStatement_298 (fun x1575 h1576 => ?_)
                            refine ty_if_ne (tgt := 308) hx hb dX9_readStatement_301 (by decide) (fun c1578 => ?_) (fun c1578 => ?_)
                            · skip
                              have hk1579 : u1572 115 0 = (gs u1507 125 x1493.toInt.toNat x1509.toInt) 115 0 := hf1574 115 0 (by decide) (by decide)
                              have hk1579 : u1572 115 0 = u1507 115 0 := by rw [hk1579]; simp [gs]
                              have hk1580 : u1572 116 0 = (gs u1507 125 x1493.toInt.toNat x1509.toInt) 116 0 := hf1574 116 0 (by decide) (by decide)
                              have hk1580 : u1572 116 0 = u1507 116 0 := by rw [hk1580]; simp [gs]
                              have hk1581 : u1572 124 0 = (gs u1507 125 x1493.toInt.toNat x1509.toInt) 124 0 := hf1574 124 0 (by decide) (by decide)
                              have hk1581 : u1572 124 0 = u1507 124 0 := by rw [hk1581]; simp [gs]
                              have hk1582 : u1507 124 0 = (gs u1486 125 x1473.toInt.toNat x1488.toInt) 124 0 := hf1510 124 0 (by decide) (by decide) (by decide) (by decide) (by decide) (by decide)
                              have hk1582 : u1507 124 0 = u1486 124 0 := by rw [hk1582]; simp [gs]
                              have hk1583 : u1486 124 0 = u1464 124 0 := hf1489 124 0 (by decide) (by decide) (by decide) (by decide) (by decide) (by decide)
                              have hk1584 : u1464 124 0 = (gs (gs u1434 124 0 x1455.toInt) 125 x1447.toInt.toNat x1264.toInt) 124 0 := hf1466 124 0 (by decide) (by decide) (by decide) (by decide)
                              have hk1584 : u1464 124 0 = x1455.toInt := by rw [hk1584]; simp [gs]
                              exact W.vret hx hb hr (fun t ht hW => ⟨⟨u1572, rfl, ⟨(fun c j h115 h116 h117 h118 h119 h120 h124 h125 => by rw [hf1574 c j h119 h120, gs_c _ _ _ _ h125, hf1510 c j h115 h116 h117 h118 h119 h120, gs_c _ _ _ _ h125, hf1489 c j h115 h116 h117 h118 h119 h120, hf1466 c j h115 h116 h117 h118, gs_c _ _ _ _ h125, gs_c _ _ _ _ h124, hf1436 c j h119 h120]), (by omega)⟩, ok1 ht hG⟩, hS.F ht⟩) hS.2.2 dX9_readStatement_308
                            · skip
                              refine lv_aload_n hx hb dX9_readStatement_304 rfl (lv_at hl 2 rfl) ?_
                              have hk1585 : u1572 114 0 = (gs u1507 125 x1493.toInt.toNat x1509.toInt) 114 0 := hf1574 114 0 (by decide) (by decide)
                              have hk1585 : u1572 114 0 = u1507 114 0 := by rw [hk1585]; simp [gs]
                              have hk1586 : u1507 114 0 = (gs u1486 125 x1473.toInt.toNat x1488.toInt) 114 0 := hf1510 114 0 (by decide) (by decide) (by decide) (by decide) (by decide) (by decide)
                              have hk1586 : u1507 114 0 = u1486 114 0 := by rw [hk1586]; simp [gs]
                              have hk1587 : u1572 115 0 = (gs u1507 125 x1493.toInt.toNat x1509.toInt) 115 0 := hf1574 115 0 (by decide) (by decide)
                              have hk1587 : u1572 115 0 = u1507 115 0 := by rw [hk1587]; simp [gs]
                              refine cV (va_runV (C := RX9) (As := []) (rest := []) ⟨hx, hb, hml, hown, hA⟩ (k_X9_next l dC dI dA sz X Γ hU u1572 h0 t_h0   (by omega)) ⟨callB_of 0 hA (al_A wd_5_74) rfl rfl rfl (hA _ wd_1_7) (hA _ wd_5_71) (by decide +kernel) ⟨Nat.le_of_ble_eq_true rfl, Nat.le_of_ble_eq_true rfl⟩, hA _ wd_5_73, hA _ ws_39⟩ ⟨bl, recv_X9 hE hG t_h0, fun U hU9 hW9 => ⟨rfl, by rw [hU9]; exact hG, hE.go hS hU9 hW9⟩⟩ rfl rfl hl.1 rfl (lv_room (Nat.le_of_ble_eq_true rfl)) dX9_readStatement_305 ⟨Nat.zero_le _, Nat.zero_le _⟩) hS (fun u1588 H locs w1589 hG hS => ?_)
                              obtain ⟨hf1590, w1589⟩ := w1589
                              have hk1591 : u1588 119 0 = u1572 119 0 := hf1590 119 0 (by decide) (by decide) (by decide) (by decide)
                              have hk1592 : u1588 124 0 = u1572 124 0 := hf1590 124 0 (by decide) (by decide) (by decide) (by decide)
                              have hk1593 : u1572 124 0 = (gs u1507 125 x1493.toInt.toNat x1509.toInt) 124 0 := hf1574 124 0 (by decide) (by decide)
                              have hk1593 : u1572 124 0 = u1507 124 0 := by rw [hk1593]; simp [gs]
                              have hk1594 : u1507 124 0 = (gs u1486 125 x1473.toInt.toNat x1488.toInt) 124 0 := hf1510 124 0 (by decide) (by decide) (by decide) (by decide) (by decide) (by decide)
                              have hk1594 : u1507 124 0 = u1486 124 0 := by rw [hk1594]; simp [gs]
                              have hk1595 : u1486 124 0 = u1464 124 0 := hf1489 124 0 (by decide) (by decide) (by decide) (by decide) (by decide) (by decide)
                              have hk1596 : u1464 124 0 = (gs (gs u1434 124 0 x1455.toInt) 125 x1447.toInt.toNat x1264.toInt) 124 0 := hf1466 124 0 (by decide) (by decide) (by decide) (by decide)
                              have hk1596 : u1464 124 0 = x1455.toInt := by rw [hk1596]; simp [gs]
                              exact W.vret hx hb hr (fun t ht hW => ⟨⟨u1588, rfl, ⟨(fun c j h115 h116 h117 h118 h119 h120 h124 h125 => by rw [hf1590 c j h115 h116 h117 h118, hf1574 c j h119 h120, gs_c _ _ _ _ h125, hf1510 c j h115 h116 h117 h118 h119 h120, gs_c _ _ _ _ h125, hf1489 c j h115 h116 h117 h118 h119 h120, hf1466 c j h115 h116 h117 h118, gs_c _ _ _ _ h125, gs_c _ _ _ _ h124, hf1436 c j h119 h120]), (by omega)⟩, ok1 ht hG⟩, hS.F ht⟩) hS.2.2 dX9_readStatement_308
                      · exfalso; omega
                    · exfalso; omega
                  · exfalso; omega
                · exfalso; omega
              · exfalso; omega
            · skip
              have hk1597 : u1434 115 0 = g 115 0 := hf1436 115 0 (by decide) (by decide)
              have hk1598 : u1434 116 0 = g 116 0 := hf1436 116 0 (by decide) (by decide)
              have hk1599 : u1434 124 0 = g 124 0 := hf1436 124 0 (by decide) (by decide)
              exact W.vret hx hb hr (fun t ht hW => ⟨⟨u1434, rfl, ⟨(fun c j h115 h116 h117 h118 h119 h120 h124 h125 => by rw [hf1436 c j h119 h120]), (by omega)⟩, ok1 ht hG⟩, hS.F ht⟩) hS.2.2 dX9_readStatement_88
        · exfalso; omega
    · skip
      refine ty_iconst hx hb (1) dX9_readStatement_22 (by decide) (fun x1600 h1601 => ?_)
      refine lv_goto (tgt := 53) hx hb dX9_readStatement_23 (by decide) ?_
      refine lv_istore_n (lv' := [(1, .int x1600), (0, .ref h0)]) hx hb dX9_readStatement_53 rfl hl (by decide) rfl (fun ls hl => ?_)
      refine lv_iload_n hx hb dX9_readStatement_54 rfl (lv_at hl 0 rfl) ?_
      refine ty_iconst hx hb (-1) dX9_readStatement_55 (by decide) (fun x1602 h1603 => ?_)
      refine ty_icmp_ne (tgt := 67) hx hb dX9_readStatement_56 (by decide) (fun c1604 => ?_) (fun c1604 => ?_)
      · skip
        refine lv_aload_n hx hb dX9_readStatement_67 rfl (lv_at hl 1 rfl) ?_
        refine get_X9_24 hx hb hA hown hE hG t_h0 wd_4_154 dX9_readStatement_68 (fun x1605 h1606 => ?_)
        refine ty_bipush hx hb (30) dX9_readStatement_71 (by decide) (fun x1608 h1609 => ?_)
        refine ty_icmp_ne (tgt := 81) hx hb dX9_readStatement_73 (by decide) (fun c1610 => ?_) (fun c1610 => ?_)
        · skip
          refine lv_aload_n hx hb dX9_readStatement_81 rfl (lv_at hl 1 rfl) ?_
          refine get_X9_19 hx hb hA hown hE hG t_h0 wd_4_149 dX9_readStatement_82 (fun x1611 h1612 => ?_)
          refine ty_if_eq (tgt := 89) hx hb dX9_readStatement_85 (by decide) (fun c1614 => ?_) (fun c1614 => ?_)
          · skip
            refine ty_iconst hx hb (4) dX9_readStatement_89 (by decide) (fun x1615 h1616 => ?_)
            refine lv_aload_n hx hb dX9_readStatement_90 rfl (lv_at hl 1 rfl) ?_
            refine get_X9_24 hx hb hA hown hE hG t_h0 wd_4_154 dX9_readStatement_91 (fun x1617 h1618 => ?_)
            refine ty_imul hx hb dX9_readStatement_94 (fun x1620 h1621 => ?_)
            try have h1622 : x1620.toInt = 4 * x1617.toInt := ty_mull h1621 (by omega) (by omega) (by omega)
            refine lv_istore_n (lv' := [(2, .int x1620), (1, .int x1600), (0, .ref h0)]) hx hb dX9_readStatement_95 rfl hl (by decide) rfl (fun ls hl => ?_)
            refine lv_aload_n hx hb dX9_readStatement_96 rfl (lv_at hl 2 rfl) ?_
            refine lv_dup hx hb dX9_readStatement_97 rfl ?_
            refine get_X9_24 hx hb hA hown hE hG t_h0 wd_4_154 dX9_readStatement_98 (fun x1623 h1624 => ?_)
            refine ty_iconst hx hb (1) dX9_readStatement_101 (by decide) (fun x1626 h1627 => ?_)
            refine ty_iadd hx hb dX9_readStatement_102 (fun x1628 h1629 => ?_)
            try have h1630 : x1628.toInt = x1623.toInt + x1626.toInt := ty_add h1629 (by omega) (by omega)
            refine put_X9_24 hx hb hA hown hE hG hS hU t_h0 wd_4_154 dX9_readStatement_103 (fun H locs hG hS => ?_)
            refine lv_aload_n hx hb dX9_readStatement_106 rfl (lv_at hl 2 rfl) ?_
            refine get_X9_25 hx hb hA hown hE hG t_h0 wd_4_155 dX9_readStatement_107 (fun b1631 (t_b1631 : ty Γ b1631 125) => ?_)
            refine lv_iload_n hx hb dX9_readStatement_110 rfl (lv_at hl 0 rfl) ?_
            refine lv_iload_n hx hb dX9_readStatement_111 rfl (lv_at hl 1 rfl) ?_
            refine ast_mI hx hb hE hG hS hU 25 rfl (n := 120) rfl (lo := -2147483648) (hi := 2147483647) rfl rfl rfl t_b1631 (rgD _) (by omega) dX9_readStatement_112 (fun H locs hG hS => ?_)
            refine lv_aload_n hx hb dX9_readStatement_113 rfl (lv_at hl 2 rfl) ?_
            have e1632 : (gs (gs g 124 0 x1628.toInt) 125 x1620.toInt.toNat x1600.toInt) 114 0 = g 114 0 := by simp [gs]
            have e1633 : (gs (gs g 124 0 x1628.toInt) 125 x1620.toInt.toNat x1600.toInt) 115 0 = g 115 0 := by simp [gs]
            have e1634 : (gs (gs g 124 0 x1628.toInt) 125 x1620.toInt.toNat x1600.toInt) 114 0 = g 114 0 := by simp [gs]
            refine cV (va_runV (C := RX9) (As := []) (rest := []) ⟨hx, hb, hml, hown, hA⟩ (k_X9_next l dC dI dA sz X Γ hU (gs (gs g 124 0 x1628.toInt) 125 x1620.toInt.toNat x1600.toInt) h0 t_h0   (by omega)) ⟨callB_of 0 hA (al_A wd_5_74) rfl rfl rfl (hA _ wd_1_7) (hA _ wd_5_71) (by decide +kernel) ⟨Nat.le_of_ble_eq_true rfl, Nat.le_of_ble_eq_true rfl⟩, hA _ wd_5_73, hA _ ws_39⟩ ⟨bl, recv_X9 hE hG t_h0, fun U hU9 hW9 => ⟨rfl, by rw [hU9]; exact hG, hE.go hS hU9 hW9⟩⟩ rfl rfl hl.1 rfl (lv_room (Nat.le_of_ble_eq_true rfl)) dX9_readStatement_114 ⟨Nat.zero_le _, Nat.zero_le _⟩) hS (fun u1635 H locs w1636 hG hS => ?_)
            obtain ⟨hf1637, w1636⟩ := w1636
            refine lv_iload_n hx hb dX9_readStatement_117 rfl (lv_at hl 1 rfl) ?_
            refine ty_iconst hx hb (3) dX9_readStatement_118 (by decide) (fun x1638 h1639 => ?_)
            refine ty_icmp_ne (tgt := 177) hx hb dX9_readStatement_119 (by decide) (fun c1640 => ?_) (fun c1640 => ?_)
            · skip
              refine lv_aload_n hx hb dX9_readStatement_177 rfl (lv_at hl 2 rfl) ?_
              refine get_X9_25 hx hb hA hown hE hG t_h0 wd_4_155 dX9_readStatement_178 (fun b1641 (t_b1641 : ty Γ b1641 125) => ?_)
              refine lv_iload_n hx hb dX9_readStatement_181 rfl (lv_at hl 0 rfl) ?_
              refine ty_iconst hx hb (1) dX9_readStatement_182 (by decide) (fun x1642 h1643 => ?_)
              refine ty_iadd hx hb dX9_readStatement_183 (fun x1644 h1645 => ?_)
              try have h1646 : x1644.toInt = x1620.toInt + x1642.toInt := ty_add h1645 (by omega) (by omega)
              refine lv_iload_n hx hb dX9_readStatement_184 rfl (lv_at hl 1 rfl) ?_
              refine ty_if_ne (tgt := 198) hx hb dX9_readStatement_185 (by decide) (fun c1647 => ?_) (fun c1647 => ?_)
              · skip
                refine lv_iload_n hx hb dX9_readStatement_198 rfl (lv_at hl 1 rfl) ?_
                refine ty_iconst hx hb (1) dX9_readStatement_199 (by decide) (fun x1648 h1649 => ?_)
                refine ty_icmp_ne (tgt := 212) hx hb dX9_readStatement_200 (by decide) (fun c1650 => ?_) (fun c1650 => ?_)
                · exfalso; omega
                · skip
                  refine lv_aload_n hx hb dX9_readStatement_203 rfl (lv_at hl 2 rfl) ?_
                  refine ty_iconst hx hb (1) dX9_readStatement_204 (by decide) (fun x1651 h1652 => ?_)
                  refine ty_iconst hx hb (4) dX9_readStatement_205 (by decide) (fun x1653 h1654 => ?_)
                  have hk1655 : u1635 114 0 = (gs (gs g 124 0 x1628.toInt) 125 x1620.toInt.toNat x1600.toInt) 114 0 := hf1637 114 0 (by decide) (by decide) (by decide) (by decide)
                  have hk1655 : u1635 114 0 = g 114 0 := by rw [hk1655]; simp [gs]
                  have hk1656 : u1635 119 0 = (gs (gs g 124 0 x1628.toInt) 125 x1620.toInt.toNat x1600.toInt) 119 0 := hf1637 119 0 (by decide) (by decide) (by decide) (by decide)
                  have hk1656 : u1635 119 0 = g 119 0 := by rw [hk1656]; simp [gs]
                  refine cI (va_runV (C := RX9) (As := [.int x1651, .int x1653]) (rest := [.int x1644, .ref b1641]) ⟨hx, hb, hml, hown, hA⟩ (k_X9_number l dC dI dA sz X Γ hU u1635 h0 t_h0 x1651 x1653   (by omega) (by omega)) ⟨callB_of 2 hA (al_A wd_5_108) rfl rfl rfl (hA _ wd_1_7) (hA _ wd_5_105) (by decide +kernel) ⟨Nat.le_of_ble_eq_true rfl, Nat.le_of_ble_eq_true rfl⟩, hA _ wd_5_107, hA _ ws_44⟩ ⟨bl, recv_X9 hE hG t_h0, fun U hU9 hW9 => ⟨rfl, by rw [hU9]; exact hG, hE.go hS hU9 hW9⟩⟩ rfl rfl hl.1 rfl (lv_room (Nat.le_of_ble_eq_true rfl)) dX9_readStatement_206 ⟨Nat.zero_le _, Nat.zero_le _⟩) hS (fun x1659 u1657 H locs w1658 hG hS => ?_)
                  obtain ⟨hf1660, w1658⟩ := w1658
                  refine lv_goto (tgt := 219) hx hb dX9_readStatement_209 (by decide) ?_
                  refine ast_mI hx hb hE hG hS hU 25 rfl (n := 120) rfl (lo := -2147483648) (hi := 2147483647) rfl rfl rfl t_b1641 (rgD _) (by omega) dX9_readStatement_219 (fun H locs hG hS => ?_)
                  refine lv_aload_n hx hb dX9_readStatement_220 rfl (lv_at hl 2 rfl) ?_
                  refine get_X9_25 hx hb hA hown hE hG t_h0 wd_4_155 dX9_readStatement_221 (fun b1661 (t_b1661 : ty Γ b1661 125) => ?_)
                  refine lv_iload_n hx hb dX9_readStatement_224 rfl (lv_at hl 0 rfl) ?_
                  refine ty_iconst hx hb (2) dX9_readStatement_225 (by decide) (fun x1662 h1663 => ?_)
                  refine ty_iadd hx hb dX9_readStatement_226 (fun x1664 h1665 => ?_)
                  try have h1666 : x1664.toInt = x1620.toInt + x1662.toInt := ty_add h1665 (by omega) (by omega)
                  refine lv_iload_n hx hb dX9_readStatement_227 rfl (lv_at hl 1 rfl) ?_
                  refine ty_if_ne (tgt := 248) hx hb dX9_readStatement_228 (by decide) (fun c1667 => ?_) (fun c1667 => ?_)
                  · skip
                    refine lv_aload_n hx hb dX9_readStatement_248 rfl (lv_at hl 2 rfl) ?_
                    refine ty_iconst hx hb (0) dX9_readStatement_249 (by decide) (fun x1668 h1669 => ?_)
                    refine ty_sipush hx hb (9999) dX9_readStatement_250 (by decide) (fun x1670 h1671 => ?_)
                    have hk1672 : u1657 114 0 = u1635 114 0 := hf1660 114 0 (by decide) (by decide) (by decide) (by decide) (by decide) (by decide)
                    have e1673 : (gs u1657 125 x1644.toInt.toNat x1659.toInt) 114 0 = u1657 114 0 := by simp [gs]
                    have e1674 : (gs u1657 125 x1644.toInt.toNat x1659.toInt) 115 0 = u1657 115 0 := by simp [gs]
                    have e1675 : (gs u1657 125 x1644.toInt.toNat x1659.toInt) 116 0 = u1657 116 0 := by simp [gs]
                    have e1676 : (gs u1657 125 x1644.toInt.toNat x1659.toInt) 119 0 = u1657 119 0 := by simp [gs]
                    have e1677 : (gs u1657 125 x1644.toInt.toNat x1659.toInt) 114 0 = u1657 114 0 := by simp [gs]
                    refine cI (va_runV (C := RX9) (As := [.int x1668, .int x1670]) (rest := [.int x1664, .ref b1661]) ⟨hx, hb, hml, hown, hA⟩ (k_X9_number l dC dI dA sz X Γ hU (gs u1657 125 x1644.toInt.toNat x1659.toInt) h0 t_h0 x1668 x1670   (by omega) (by omega)) ⟨callB_of 2 hA (al_A wd_5_108) rfl rfl rfl (hA _ wd_1_7) (hA _ wd_5_105) (by decide +kernel) ⟨Nat.le_of_ble_eq_true rfl, Nat.le_of_ble_eq_true rfl⟩, hA _ wd_5_107, hA _ ws_44⟩ ⟨bl, recv_X9 hE hG t_h0, fun U hU9 hW9 => ⟨rfl, by rw [hU9]; exact hG, hE.go hS hU9 hW9⟩⟩ rfl rfl hl.1 rfl (lv_room (Nat.le_of_ble_eq_true rfl)) dX9_readStatement_253 ⟨Nat.zero_le _, Nat.zero_le _⟩) hS (fun x1680 u1678 H locs w1679 hG hS => ?_)
                    obtain ⟨hf1681, w1679⟩ := w1679
                    refine ast_mI hx hb hE hG hS hU 25 rfl (n := 120) rfl (lo := -2147483648) (hi := 2147483647) rfl rfl rfl t_b1661 (rgD _) (by omega) dX9_readStatement_256 (fun H locs hG hS => ?_)
                    refine lv_iload_n hx hb dX9_readStatement_257 rfl (lv_at hl 1 rfl) ?_
                    refine ty_if_ne (tgt := 277) hx hb dX9_readStatement_258 (by decide) (fun c1682 => ?_) (fun c1682 => ?_)
                    · skip
                      refine lv_aload_n hx hb dX9_readStatement_277 rfl (lv_at hl 2 rfl) ?_
                      refine get_X9_19 hx hb hA hown hE hG t_h0 wd_4_149 dX9_readStatement_278 (fun x1683 h1684 => ?_)
                      replace h1684 : x1683.toInt = u1678 119 0 := by rw [h1684]; simp [gs]
                      refine ty_if_ne (tgt := 297) hx hb dX9_readStatement_281 (by decide) (fun c1686 => ?_) (fun c1686 => ?_)
                      · skip
                        refine lv_aload_n hx hb dX9_readStatement_297 rfl (lv_at hl 2 rfl) ?_
                        refine get_X9_19 hx hb hA hown hE hG t_h0 wd_4_149 dX9_readStatement_298 (fun x1687 h1688 => ?_)
                        replace h1688 : x1687.toInt = u1678 119 0 := by rw [h1688]; simp [gs]
                        refine ty_if_ne (tgt := 308) hx hb dX9_readStatement_301 (by decide) (fun c1690 => ?_) (fun c1690 => ?_)
                        · skip
                          have e1691 : (gs u1678 125 x1664.toInt.toNat x1680.toInt) 115 0 = u1678 115 0 := by simp [gs]
                          have e1692 : (gs u1678 125 x1664.toInt.toNat x1680.toInt) 116 0 = u1678 116 0 := by simp [gs]
                          have e1693 : (gs u1678 125 x1664.toInt.toNat x1680.toInt) 119 0 = u1678 119 0 := by simp [gs]
                          have hk1694 : u1678 124 0 = (gs u1657 125 x1644.toInt.toNat x1659.toInt) 124 0 := hf1681 124 0 (by decide) (by decide) (by decide) (by decide) (by decide) (by decide)
                          have hk1694 : u1678 124 0 = u1657 124 0 := by rw [hk1694]; simp [gs]
                          have hk1695 : u1657 124 0 = u1635 124 0 := hf1660 124 0 (by decide) (by decide) (by decide) (by decide) (by decide) (by decide)
                          have hk1696 : u1635 124 0 = (gs (gs g 124 0 x1628.toInt) 125 x1620.toInt.toNat x1600.toInt) 124 0 := hf1637 124 0 (by decide) (by decide) (by decide) (by decide)
                          have hk1696 : u1635 124 0 = x1628.toInt := by rw [hk1696]; simp [gs]
                          have e1697 : (gs u1678 125 x1664.toInt.toNat x1680.toInt) 124 0 = u1678 124 0 := by simp [gs]
                          exact W.vret hx hb hr (fun t ht hW => ⟨⟨(gs u1678 125 x1664.toInt.toNat x1680.toInt), rfl, ⟨(fun c j h115 h116 h117 h118 h119 h120 h124 h125 => by rw [gs_c _ _ _ _ h125, hf1681 c j h115 h116 h117 h118 h119 h120, gs_c _ _ _ _ h125, hf1660 c j h115 h116 h117 h118 h119 h120, hf1637 c j h115 h116 h117 h118, gs_c _ _ _ _ h125, gs_c _ _ _ _ h124]), (by omega)⟩, ok1 ht hG⟩, hS.F ht⟩) hS.2.2 dX9_readStatement_308
                        · skip
                          refine lv_aload_n hx hb dX9_readStatement_304 rfl (lv_at hl 2 rfl) ?_
                          have hk1698 : u1678 114 0 = (gs u1657 125 x1644.toInt.toNat x1659.toInt) 114 0 := hf1681 114 0 (by decide) (by decide) (by decide) (by decide) (by decide) (by decide)
                          have hk1698 : u1678 114 0 = u1657 114 0 := by rw [hk1698]; simp [gs]
                          have e1699 : (gs u1678 125 x1664.toInt.toNat x1680.toInt) 114 0 = u1678 114 0 := by simp [gs]
                          have e1700 : (gs u1678 125 x1664.toInt.toNat x1680.toInt) 115 0 = u1678 115 0 := by simp [gs]
                          have e1701 : (gs u1678 125 x1664.toInt.toNat x1680.toInt) 114 0 = u1678 114 0 := by simp [gs]
                          refine cV (va_runV (C := RX9) (As := []) (rest := []) ⟨hx, hb, hml, hown, hA⟩ (k_X9_next l dC dI dA sz X Γ hU (gs u1678 125 x1664.toInt.toNat x1680.toInt) h0 t_h0   (by omega)) ⟨callB_of 0 hA (al_A wd_5_74) rfl rfl rfl (hA _ wd_1_7) (hA _ wd_5_71) (by decide +kernel) ⟨Nat.le_of_ble_eq_true rfl, Nat.le_of_ble_eq_true rfl⟩, hA _ wd_5_73, hA _ ws_39⟩ ⟨bl, recv_X9 hE hG t_h0, fun U hU9 hW9 => ⟨rfl, by rw [hU9]; exact hG, hE.go hS hU9 hW9⟩⟩ rfl rfl hl.1 rfl (lv_room (Nat.le_of_ble_eq_true rfl)) dX9_readStatement_305 ⟨Nat.zero_le _, Nat.zero_le _⟩) hS (fun u1702 H locs w1703 hG hS => ?_)
                          obtain ⟨hf1704, w1703⟩ := w1703
                          have hk1705 : u1702 119 0 = (gs u1678 125 x1664.toInt.toNat x1680.toInt) 119 0 := hf1704 119 0 (by decide) (by decide) (by decide) (by decide)
                          have hk1705 : u1702 119 0 = u1678 119 0 := by rw [hk1705]; simp [gs]
                          have hk1706 : u1702 124 0 = (gs u1678 125 x1664.toInt.toNat x1680.toInt) 124 0 := hf1704 124 0 (by decide) (by decide) (by decide) (by decide)
                          have hk1706 : u1702 124 0 = u1678 124 0 := by rw [hk1706]; simp [gs]
                          have hk1707 : u1678 124 0 = (gs u1657 125 x1644.toInt.toNat x1659.toInt) 124 0 := hf1681 124 0 (by decide) (by decide) (by decide) (by decide) (by decide) (by decide)
                          have hk1707 : u1678 124 0 = u1657 124 0 := by rw [hk1707]; simp [gs]
                          have hk1708 : u1657 124 0 = u1635 124 0 := hf1660 124 0 (by decide) (by decide) (by decide) (by decide) (by decide) (by decide)
                          have hk1709 : u1635 124 0 = (gs (gs g 124 0 x1628.toInt) 125 x1620.toInt.toNat x1600.toInt) 124 0 := hf1637 124 0 (by decide) (by decide) (by decide) (by decide)
                          have hk1709 : u1635 124 0 = x1628.toInt := by rw [hk1709]; simp [gs]
                          exact W.vret hx hb hr (fun t ht hW => ⟨⟨u1702, rfl, ⟨(fun c j h115 h116 h117 h118 h119 h120 h124 h125 => by rw [hf1704 c j h115 h116 h117 h118, gs_c _ _ _ _ h125, hf1681 c j h115 h116 h117 h118 h119 h120, gs_c _ _ _ _ h125, hf1660 c j h115 h116 h117 h118 h119 h120, hf1637 c j h115 h116 h117 h118, gs_c _ _ _ _ h125, gs_c _ _ _ _ h124]), (by omega)⟩, ok1 ht hG⟩, hS.F ht⟩) hS.2.2 dX9_readStatement_308
                      · skip
                        refine lv_aload_n hx hb dX9_readStatement_284 rfl (lv_at hl 2 rfl) ?_
                        refine get_X9_17 hx hb hA hown hE hG t_h0 wd_4_147 dX9_readStatement_285 (fun x1710 h1711 => ?_)
                        replace h1711 : x1710.toInt = u1678 117 0 := by rw [h1711]; simp [gs]
                        refine ty_iconst hx hb (4) dX9_readStatement_288 (by decide) (fun x1713 h1714 => ?_)
                        refine ty_icmp_eq (tgt := 297) hx hb dX9_readStatement_289 (by decide) (fun c1715 => ?_) (fun c1715 => ?_)
                        · skip
                          refine lv_aload_n hx hb dX9_readStatement_297 rfl (lv_at hl 2 rfl) ?_
                          refine get_X9_19 hx hb hA hown hE hG t_h0 wd_4_149 dX9_readStatement_298 (fun x1716 h1717 => ?_)
                          replace h1717 : x1716.toInt = u1678 119 0 := by rw [h1717]; simp [gs]
                          refine ty_if_ne (tgt := 308) hx hb dX9_readStatement_301 (by decide) (fun c1719 => ?_) (fun c1719 => ?_)
                          · skip
                            have e1720 : (gs u1678 125 x1664.toInt.toNat x1680.toInt) 115 0 = u1678 115 0 := by simp [gs]
                            have e1721 : (gs u1678 125 x1664.toInt.toNat x1680.toInt) 116 0 = u1678 116 0 := by simp [gs]
                            have e1722 : (gs u1678 125 x1664.toInt.toNat x1680.toInt) 119 0 = u1678 119 0 := by simp [gs]
                            have hk1723 : u1678 124 0 = (gs u1657 125 x1644.toInt.toNat x1659.toInt) 124 0 := hf1681 124 0 (by decide) (by decide) (by decide) (by decide) (by decide) (by decide)
                            have hk1723 : u1678 124 0 = u1657 124 0 := by rw [hk1723]; simp [gs]
                            have hk1724 : u1657 124 0 = u1635 124 0 := hf1660 124 0 (by decide) (by decide) (by decide) (by decide) (by decide) (by decide)
                            have hk1725 : u1635 124 0 = (gs (gs g 124 0 x1628.toInt) 125 x1620.toInt.toNat x1600.toInt) 124 0 := hf1637 124 0 (by decide) (by decide) (by decide) (by decide)
                            have hk1725 : u1635 124 0 = x1628.toInt := by rw [hk1725]; simp [gs]
                            have e1726 : (gs u1678 125 x1664.toInt.toNat x1680.toInt) 124 0 = u1678 124 0 := by simp [gs]
                            exact W.vret hx hb hr (fun t ht hW => ⟨⟨(gs u1678 125 x1664.toInt.toNat x1680.toInt), rfl, ⟨(fun c j h115 h116 h117 h118 h119 h120 h124 h125 => by rw [gs_c _ _ _ _ h125, hf1681 c j h115 h116 h117 h118 h119 h120, gs_c _ _ _ _ h125, hf1660 c j h115 h116 h117 h118 h119 h120, hf1637 c j h115 h116 h117 h118, gs_c _ _ _ _ h125, gs_c _ _ _ _ h124]), (by omega)⟩, ok1 ht hG⟩, hS.F ht⟩) hS.2.2 dX9_readStatement_308
                          · skip
                            refine lv_aload_n hx hb dX9_readStatement_304 rfl (lv_at hl 2 rfl) ?_
                            have hk1727 : u1678 114 0 = (gs u1657 125 x1644.toInt.toNat x1659.toInt) 114 0 := hf1681 114 0 (by decide) (by decide) (by decide) (by decide) (by decide) (by decide)
                            have hk1727 : u1678 114 0 = u1657 114 0 := by rw [hk1727]; simp [gs]
                            have e1728 : (gs u1678 125 x1664.toInt.toNat x1680.toInt) 114 0 = u1678 114 0 := by simp [gs]
                            have e1729 : (gs u1678 125 x1664.toInt.toNat x1680.toInt) 115 0 = u1678 115 0 := by simp [gs]
                            have e1730 : (gs u1678 125 x1664.toInt.toNat x1680.toInt) 114 0 = u1678 114 0 := by simp [gs]
                            refine cV (va_runV (C := RX9) (As := []) (rest := []) ⟨hx, hb, hml, hown, hA⟩ (k_X9_next l dC dI dA sz X Γ hU (gs u1678 125 x1664.toInt.toNat x1680.toInt) h0 t_h0   (by omega)) ⟨callB_of 0 hA (al_A wd_5_74) rfl rfl rfl (hA _ wd_1_7) (hA _ wd_5_71) (by decide +kernel) ⟨Nat.le_of_ble_eq_true rfl, Nat.le_of_ble_eq_true rfl⟩, hA _ wd_5_73, hA _ ws_39⟩ ⟨bl, recv_X9 hE hG t_h0, fun U hU9 hW9 => ⟨rfl, by rw [hU9]; exact hG, hE.go hS hU9 hW9⟩⟩ rfl rfl hl.1 rfl (lv_room (Nat.le_of_ble_eq_true rfl)) dX9_readStatement_305 ⟨Nat.zero_le _, Nat.zero_le _⟩) hS (fun u1731 H locs w1732 hG hS => ?_)
                            obtain ⟨hf1733, w1732⟩ := w1732
                            have hk1734 : u1731 119 0 = (gs u1678 125 x1664.toInt.toNat x1680.toInt) 119 0 := hf1733 119 0 (by decide) (by decide) (by decide) (by decide)
                            have hk1734 : u1731 119 0 = u1678 119 0 := by rw [hk1734]; simp [gs]
                            have hk1735 : u1731 124 0 = (gs u1678 125 x1664.toInt.toNat x1680.toInt) 124 0 := hf1733 124 0 (by decide) (by decide) (by decide) (by decide)
                            have hk1735 : u1731 124 0 = u1678 124 0 := by rw [hk1735]; simp [gs]
                            have hk1736 : u1678 124 0 = (gs u1657 125 x1644.toInt.toNat x1659.toInt) 124 0 := hf1681 124 0 (by decide) (by decide) (by decide) (by decide) (by decide) (by decide)
                            have hk1736 : u1678 124 0 = u1657 124 0 := by rw [hk1736]; simp [gs]
                            have hk1737 : u1657 124 0 = u1635 124 0 := hf1660 124 0 (by decide) (by decide) (by decide) (by decide) (by decide) (by decide)
                            have hk1738 : u1635 124 0 = (gs (gs g 124 0 x1628.toInt) 125 x1620.toInt.toNat x1600.toInt) 124 0 := hf1637 124 0 (by decide) (by decide) (by decide) (by decide)
                            have hk1738 : u1635 124 0 = x1628.toInt := by rw [hk1738]; simp [gs]
                            exact W.vret hx hb hr (fun t ht hW => ⟨⟨u1731, rfl, ⟨(fun c j h115 h116 h117 h118 h119 h120 h124 h125 => by rw [hf1733 c j h115 h116 h117 h118, gs_c _ _ _ _ h125, hf1681 c j h115 h116 h117 h118 h119 h120, gs_c _ _ _ _ h125, hf1660 c j h115 h116 h117 h118 h119 h120, hf1637 c j h115 h116 h117 h118, gs_c _ _ _ _ h125, gs_c _ _ _ _ h124]), (by omega)⟩, ok1 ht hG⟩, hS.F ht⟩) hS.2.2 dX9_readStatement_308
                        · skip
                          refine lv_aload_n hx hb dX9_readStatement_292 rfl (lv_at hl 2 rfl) ?_
                          refine ty_iconst hx hb (1) dX9_readStatement_293 (by decide) (fun x1739 h1740 => ?_)
                          have e1741 : (gs u1678 125 x1664.toInt.toNat x1680.toInt) 119 0 = u1678 119 0 := by simp [gs]
                          have e1742 : (gs u1678 125 x1664.toInt.toNat x1680.toInt) 119 0 = u1678 119 0 := by simp [gs]
                          refine cV (va_runV (C := RX9) (As := [.int x1739]) (rest := []) ⟨hx, hb, hml, hown, hA⟩ (k_X9_fails l dC dI dA sz X Γ hU (gs u1678 125 x1664.toInt.toNat x1680.toInt) h0 t_h0 x1739   ) ⟨callB_of 1 hA (al_A wd_5_102) rfl rfl rfl (hA _ wd_1_7) (hA _ wd_5_99) (by decide +kernel) ⟨Nat.le_of_ble_eq_true rfl, Nat.le_of_ble_eq_true rfl⟩, hA _ wd_5_101, hA _ ws_43⟩ ⟨bl, recv_X9 hE hG t_h0, fun U hU9 hW9 => ⟨rfl, by rw [hU9]; exact hG, hE.go hS hU9 hW9⟩⟩ rfl rfl hl.1 rfl (lv_room (Nat.le_of_ble_eq_true rfl)) dX9_readStatement_294 ⟨Nat.zero_le _, Nat.zero_le _⟩) hS (fun u1743 H locs w1744 hG hS => ?_)
                          obtain ⟨hf1745, w1744⟩ := w1744
                          refine lv_aload_n hx hb dX9_readStatement_297 rfl (lv_at hl 2 rfl) ?_
                          refine get_X9_19 hx hb hA hown hE hG t_h0 wd_4_149 dX9_readStatement_298 (fun x1746 h1747 => ?_)
                          refine ty_if_ne (tgt := 308) hx hb dX9_readStatement_301 (by decide) (fun c1749 => ?_) (fun c1749 => ?_)
                          · skip
                            have hk1750 : u1743 115 0 = (gs u1678 125 x1664.toInt.toNat x1680.toInt) 115 0 := hf1745 115 0 (by decide) (by decide)
                            have hk1750 : u1743 115 0 = u1678 115 0 := by rw [hk1750]; simp [gs]
                            have hk1751 : u1743 116 0 = (gs u1678 125 x1664.toInt.toNat x1680.toInt) 116 0 := hf1745 116 0 (by decide) (by decide)
                            have hk1751 : u1743 116 0 = u1678 116 0 := by rw [hk1751]; simp [gs]
                            have hk1752 : u1743 124 0 = (gs u1678 125 x1664.toInt.toNat x1680.toInt) 124 0 := hf1745 124 0 (by decide) (by decide)
                            have hk1752 : u1743 124 0 = u1678 124 0 := by rw [hk1752]; simp [gs]
                            have hk1753 : u1678 124 0 = (gs u1657 125 x1644.toInt.toNat x1659.toInt) 124 0 := hf1681 124 0 (by decide) (by decide) (by decide) (by decide) (by decide) (by decide)
                            have hk1753 : u1678 124 0 = u1657 124 0 := by rw [hk1753]; simp [gs]
                            have hk1754 : u1657 124 0 = u1635 124 0 := hf1660 124 0 (by decide) (by decide) (by decide) (by decide) (by decide) (by decide)
                            have hk1755 : u1635 124 0 = (gs (gs g 124 0 x1628.toInt) 125 x1620.toInt.toNat x1600.toInt) 124 0 := hf1637 124 0 (by decide) (by decide) (by decide) (by decide)
                            have hk1755 : u1635 124 0 = x1628.toInt := by rw [hk1755]; simp [gs]
                            exact W.vret hx hb hr (fun t ht hW => ⟨⟨u1743, rfl, ⟨(fun c j h115 h116 h117 h118 h119 h120 h124 h125 => by rw [hf1745 c j h119 h120, gs_c _ _ _ _ h125, hf1681 c j h115 h116 h117 h118 h119 h120, gs_c _ _ _ _ h125, hf1660 c j h115 h116 h117 h118 h119 h120, hf1637 c j h115 h116 h117 h118, gs_c _ _ _ _ h125, gs_c _ _ _ _ h124]), (by omega)⟩, ok1 ht hG⟩, hS.F ht⟩) hS.2.2 dX9_readStatement_308
                          · skip
                            refine lv_aload_n hx hb dX9_readStatement_304 rfl (lv_at hl 2 rfl) ?_
                            have hk1756 : u1743 114 0 = (gs u1678 125 x1664.toInt.toNat x1680.toInt) 114 0 := hf1745 114 0 (by decide) (by decide)
                            have hk1756 : u1743 114 0 = u1678 114 0 := by rw [hk1756]; simp [gs]
                            have hk1757 : u1678 114 0 = (gs u1657 125 x1644.toInt.toNat x1659.toInt) 114 0 := hf1681 114 0 (by decide) (by decide) (by decide) (by decide) (by decide) (by decide)
                            have hk1757 : u1678 114 0 = u1657 114 0 := by rw [hk1757]; simp [gs]
                            have hk1758 : u1743 115 0 = (gs u1678 125 x1664.toInt.toNat x1680.toInt) 115 0 := hf1745 115 0 (by decide) (by decide)
                            have hk1758 : u1743 115 0 = u1678 115 0 := by rw [hk1758]; simp [gs]
                            refine cV (va_runV (C := RX9) (As := []) (rest := []) ⟨hx, hb, hml, hown, hA⟩ (k_X9_next l dC dI dA sz X Γ hU u1743 h0 t_h0   (by omega)) ⟨callB_of 0 hA (al_A wd_5_74) rfl rfl rfl (hA _ wd_1_7) (hA _ wd_5_71) (by decide +kernel) ⟨Nat.le_of_ble_eq_true rfl, Nat.le_of_ble_eq_true rfl⟩, hA _ wd_5_73, hA _ ws_39⟩ ⟨bl, recv_X9 hE hG t_h0, fun U hU9 hW9 => ⟨rfl, by rw [hU9]; exact hG, hE.go hS hU9 hW9⟩⟩ rfl rfl hl.1 rfl (lv_room (Nat.le_of_ble_eq_true rfl)) dX9_readStatement_305 ⟨Nat.zero_le _, Nat.zero_le _⟩) hS (fun u1759 H locs w1760 hG hS => ?_)
                            obtain ⟨hf1761, w1760⟩ := w1760
                            have hk1762 : u1759 119 0 = u1743 119 0 := hf1761 119 0 (by decide) (by decide) (by decide) (by decide)
                            have hk1763 : u1759 124 0 = u1743 124 0 := hf1761 124 0 (by decide) (by decide) (by decide) (by decide)
                            have hk1764 : u1743 124 0 = (gs u1678 125 x1664.toInt.toNat x1680.toInt) 124 0 := hf1745 124 0 (by decide) (by decide)
                            have hk1764 : u1743 124 0 = u1678 124 0 := by rw [hk1764]; simp [gs]
                            have hk1765 : u1678 124 0 = (gs u1657 125 x1644.toInt.toNat x1659.toInt) 124 0 := hf1681 124 0 (by decide) (by decide) (by decide) (by decide) (by decide) (by decide)
                            have hk1765 : u1678 124 0 = u1657 124 0 := by rw [hk1765]; simp [gs]
                            have hk1766 : u1657 124 0 = u1635 124 0 := hf1660 124 0 (by decide) (by decide) (by decide) (by decide) (by decide) (by decide)
                            have hk1767 : u1635 124 0 = (gs (gs g 124 0 x1628.toInt) 125 x1620.toInt.toNat x1600.toInt) 124 0 := hf1637 124 0 (by decide) (by decide) (by decide) (by decide)
                            have hk1767 : u1635 124 0 = x1628.toInt := by rw [hk1767]; simp [gs]
                            exact W.vret hx hb hr (fun t ht hW => ⟨⟨u1759, rfl, ⟨(fun c j h115 h116 h117 h118 h119 h120 h124 h125 => by rw [hf1761 c j h115 h116 h117 h118, hf1745 c j h119 h120, gs_c _ _ _ _ h125, hf1681 c j h115 h116 h117 h118 h119 h120, gs_c _ _ _ _ h125, hf1660 c j h115 h116 h117 h118 h119 h120, hf1637 c j h115 h116 h117 h118, gs_c _ _ _ _ h125, gs_c _ _ _ _ h124]), (by omega)⟩, ok1 ht hG⟩, hS.F ht⟩) hS.2.2 dX9_readStatement_308
                    · exfalso; omega
                  · exfalso; omega
              · exfalso; omega
            · exfalso; omega
          · skip
            exact W.vret hx hb hr (fun t ht hW => ⟨⟨g, rfl, ⟨(fun c j h115 h116 h117 h118 h119 h120 h124 h125 => by rfl), (by omega)⟩, ok1 ht hG⟩, hS.F ht⟩) hS.2.2 dX9_readStatement_88
        · skip
          refine lv_aload_n hx hb dX9_readStatement_76 rfl (lv_at hl 1 rfl) ?_
          refine ty_iconst hx hb (3) dX9_readStatement_77 (by decide) (fun x1768 h1769 => ?_)
          refine cV (va_runV (C := RX9) (As := [.int x1768]) (rest := []) ⟨hx, hb, hml, hown, hA⟩ (k_X9_fails l dC dI dA sz X Γ hU g h0 t_h0 x1768   ) ⟨callB_of 1 hA (al_A wd_5_102) rfl rfl rfl (hA _ wd_1_7) (hA _ wd_5_99) (by decide +kernel) ⟨Nat.le_of_ble_eq_true rfl, Nat.le_of_ble_eq_true rfl⟩, hA _ wd_5_101, hA _ ws_43⟩ ⟨bl, recv_X9 hE hG t_h0, fun U hU9 hW9 => ⟨rfl, by rw [hU9]; exact hG, hE.go hS hU9 hW9⟩⟩ rfl rfl hl.1 rfl (lv_room (Nat.le_of_ble_eq_true rfl)) dX9_readStatement_78 ⟨Nat.zero_le _, Nat.zero_le _⟩) hS (fun u1770 H locs w1771 hG hS => ?_)
          obtain ⟨hf1772, w1771⟩ := w1771
          refine lv_aload_n hx hb dX9_readStatement_81 rfl (lv_at hl 1 rfl) ?_
          refine get_X9_19 hx hb hA hown hE hG t_h0 wd_4_149 dX9_readStatement_82 (fun x1773 h1774 => ?_)
          refine ty_if_eq (tgt := 89) hx hb dX9_readStatement_85 (by decide) (fun c1776 => ?_) (fun c1776 => ?_)
          · skip
            refine ty_iconst hx hb (4) dX9_readStatement_89 (by decide) (fun x1777 h1778 => ?_)
            refine lv_aload_n hx hb dX9_readStatement_90 rfl (lv_at hl 1 rfl) ?_
            refine get_X9_24 hx hb hA hown hE hG t_h0 wd_4_154 dX9_readStatement_91 (fun x1779 h1780 => ?_)
            have hk1782 : u1770 124 0 = g 124 0 := hf1772 124 0 (by decide) (by decide)
            refine ty_imul hx hb dX9_readStatement_94 (fun x1783 h1784 => ?_)
            try have h1785 : x1783.toInt = 4 * x1779.toInt := ty_mull h1784 (by omega) (by omega) (by omega)
            refine lv_istore_n (lv' := [(2, .int x1783), (1, .int x1600), (0, .ref h0)]) hx hb dX9_readStatement_95 rfl hl (by decide) rfl (fun ls hl => ?_)
            refine lv_aload_n hx hb dX9_readStatement_96 rfl (lv_at hl 2 rfl) ?_
            refine lv_dup hx hb dX9_readStatement_97 rfl ?_
            refine get_X9_24 hx hb hA hown hE hG t_h0 wd_4_154 dX9_readStatement_98 (fun x1786 h1787 => ?_)
            refine ty_iconst hx hb (1) dX9_readStatement_101 (by decide) (fun x1789 h1790 => ?_)
            refine ty_iadd hx hb dX9_readStatement_102 (fun x1791 h1792 => ?_)
            try have h1793 : x1791.toInt = x1786.toInt + x1789.toInt := ty_add h1792 (by omega) (by omega)
            refine put_X9_24 hx hb hA hown hE hG hS hU t_h0 wd_4_154 dX9_readStatement_103 (fun H locs hG hS => ?_)
            refine lv_aload_n hx hb dX9_readStatement_106 rfl (lv_at hl 2 rfl) ?_
            refine get_X9_25 hx hb hA hown hE hG t_h0 wd_4_155 dX9_readStatement_107 (fun b1794 (t_b1794 : ty Γ b1794 125) => ?_)
            refine lv_iload_n hx hb dX9_readStatement_110 rfl (lv_at hl 0 rfl) ?_
            refine lv_iload_n hx hb dX9_readStatement_111 rfl (lv_at hl 1 rfl) ?_
            refine ast_mI hx hb hE hG hS hU 25 rfl (n := 120) rfl (lo := -2147483648) (hi := 2147483647) rfl rfl rfl t_b1794 (rgD _) (by omega) dX9_readStatement_112 (fun H locs hG hS => ?_)
            refine lv_aload_n hx hb dX9_readStatement_113 rfl (lv_at hl 2 rfl) ?_
            have hk1795 : u1770 114 0 = g 114 0 := hf1772 114 0 (by decide) (by decide)
            have e1796 : (gs (gs u1770 124 0 x1791.toInt) 125 x1783.toInt.toNat x1600.toInt) 114 0 = u1770 114 0 := by simp [gs]
            have hk1797 : u1770 115 0 = g 115 0 := hf1772 115 0 (by decide) (by decide)
            have e1798 : (gs (gs u1770 124 0 x1791.toInt) 125 x1783.toInt.toNat x1600.toInt) 115 0 = u1770 115 0 := by simp [gs]
            have e1799 : (gs (gs u1770 124 0 x1791.toInt) 125 x1783.toInt.toNat x1600.toInt) 114 0 = u1770 114 0 := by simp [gs]
            refine cV (va_runV (C := RX9) (As := []) (rest := []) ⟨hx, hb, hml, hown, hA⟩ (k_X9_next l dC dI dA sz X Γ hU (gs (gs u1770 124 0 x1791.toInt) 125 x1783.toInt.toNat x1600.toInt) h0 t_h0   (by omega)) ⟨callB_of 0 hA (al_A wd_5_74) rfl rfl rfl (hA _ wd_1_7) (hA _ wd_5_71) (by decide +kernel) ⟨Nat.le_of_ble_eq_true rfl, Nat.le_of_ble_eq_true rfl⟩, hA _ wd_5_73, hA _ ws_39⟩ ⟨bl, recv_X9 hE hG t_h0, fun U hU9 hW9 => ⟨rfl, by rw [hU9]; exact hG, hE.go hS hU9 hW9⟩⟩ rfl rfl hl.1 rfl (lv_room (Nat.le_of_ble_eq_true rfl)) dX9_readStatement_114 ⟨Nat.zero_le _, Nat.zero_le _⟩) hS (fun u1800 H locs w1801 hG hS => ?_)
            obtain ⟨hf1802, w1801⟩ := w1801
            refine lv_iload_n hx hb dX9_readStatement_117 rfl (lv_at hl 1 rfl) ?_
            refine ty_iconst hx hb (3) dX9_readStatement_118 (by decide) (fun x1803 h1804 => ?_)
            refine ty_icmp_ne (tgt := 177) hx hb dX9_readStatement_119 (by decide) (fun c1805 => ?_) (fun c1805 => ?_)
            · skip
              refine lv_aload_n hx hb dX9_readStatement_177 rfl (lv_at hl 2 rfl) ?_
              refine get_X9_25 hx hb hA hown hE hG t_h0 wd_4_155 dX9_readStatement_178 (fun b1806 (t_b1806 : ty Γ b1806 125) => ?_)
              refine lv_iload_n hx hb dX9_readStatement_181 rfl (lv_at hl 0 rfl) ?_
              refine ty_iconst hx hb (1) dX9_readStatement_182 (by decide) (fun x1807 h1808 => ?_)
              refine ty_iadd hx hb dX9_readStatement_183 (fun x1809 h1810 => ?_)
              try have h1811 : x1809.toInt = x1783.toInt + x1807.toInt := ty_add h1810 (by omega) (by omega)
              refine lv_iload_n hx hb dX9_readStatement_184 rfl (lv_at hl 1 rfl) ?_
              refine ty_if_ne (tgt := 198) hx hb dX9_readStatement_185 (by decide) (fun c1812 => ?_) (fun c1812 => ?_)
              · skip
                refine lv_iload_n hx hb dX9_readStatement_198 rfl (lv_at hl 1 rfl) ?_
                refine ty_iconst hx hb (1) dX9_readStatement_199 (by decide) (fun x1813 h1814 => ?_)
                refine ty_icmp_ne (tgt := 212) hx hb dX9_readStatement_200 (by decide) (fun c1815 => ?_) (fun c1815 => ?_)
                · exfalso; omega
                · skip
                  refine lv_aload_n hx hb dX9_readStatement_203 rfl (lv_at hl 2 rfl) ?_
                  refine ty_iconst hx hb (1) dX9_readStatement_204 (by decide) (fun x1816 h1817 => ?_)
                  refine ty_iconst hx hb (4) dX9_readStatement_205 (by decide) (fun x1818 h1819 => ?_)
                  have hk1820 : u1800 114 0 = (gs (gs u1770 124 0 x1791.toInt) 125 x1783.toInt.toNat x1600.toInt) 114 0 := hf1802 114 0 (by decide) (by decide) (by decide) (by decide)
                  have hk1820 : u1800 114 0 = u1770 114 0 := by rw [hk1820]; simp [gs]
                  have hk1821 : u1800 119 0 = (gs (gs u1770 124 0 x1791.toInt) 125 x1783.toInt.toNat x1600.toInt) 119 0 := hf1802 119 0 (by decide) (by decide) (by decide) (by decide)
                  have hk1821 : u1800 119 0 = u1770 119 0 := by rw [hk1821]; simp [gs]
                  refine cI (va_runV (C := RX9) (As := [.int x1816, .int x1818]) (rest := [.int x1809, .ref b1806]) ⟨hx, hb, hml, hown, hA⟩ (k_X9_number l dC dI dA sz X Γ hU u1800 h0 t_h0 x1816 x1818   (by omega) (by omega)) ⟨callB_of 2 hA (al_A wd_5_108) rfl rfl rfl (hA _ wd_1_7) (hA _ wd_5_105) (by decide +kernel) ⟨Nat.le_of_ble_eq_true rfl, Nat.le_of_ble_eq_true rfl⟩, hA _ wd_5_107, hA _ ws_44⟩ ⟨bl, recv_X9 hE hG t_h0, fun U hU9 hW9 => ⟨rfl, by rw [hU9]; exact hG, hE.go hS hU9 hW9⟩⟩ rfl rfl hl.1 rfl (lv_room (Nat.le_of_ble_eq_true rfl)) dX9_readStatement_206 ⟨Nat.zero_le _, Nat.zero_le _⟩) hS (fun x1824 u1822 H locs w1823 hG hS => ?_)
                  obtain ⟨hf1825, w1823⟩ := w1823
                  refine lv_goto (tgt := 219) hx hb dX9_readStatement_209 (by decide) ?_
                  refine ast_mI hx hb hE hG hS hU 25 rfl (n := 120) rfl (lo := -2147483648) (hi := 2147483647) rfl rfl rfl t_b1806 (rgD _) (by omega) dX9_readStatement_219 (fun H locs hG hS => ?_)
                  refine lv_aload_n hx hb dX9_readStatement_220 rfl (lv_at hl 2 rfl) ?_
                  refine get_X9_25 hx hb hA hown hE hG t_h0 wd_4_155 dX9_readStatement_221 (fun b1826 (t_b1826 : ty Γ b1826 125) => ?_)
                  refine lv_iload_n hx hb dX9_readStatement_224 rfl (lv_at hl 0 rfl) ?_
                  refine ty_iconst hx hb (2) dX9_readStatement_225 (by decide) (fun x1827 h1828 => ?_)
                  refine ty_iadd hx hb dX9_readStatement_226 (fun x1829 h1830 => ?_)
                  try have h1831 : x1829.toInt = x1783.toInt + x1827.toInt := ty_add h1830 (by omega) (by omega)
                  refine lv_iload_n hx hb dX9_readStatement_227 rfl (lv_at hl 1 rfl) ?_
                  refine ty_if_ne (tgt := 248) hx hb dX9_readStatement_228 (by decide) (fun c1832 => ?_) (fun c1832 => ?_)
                  · skip
                    refine lv_aload_n hx hb dX9_readStatement_248 rfl (lv_at hl 2 rfl) ?_
                    refine ty_iconst hx hb (0) dX9_readStatement_249 (by decide) (fun x1833 h1834 => ?_)
                    refine ty_sipush hx hb (9999) dX9_readStatement_250 (by decide) (fun x1835 h1836 => ?_)
                    have hk1837 : u1822 114 0 = u1800 114 0 := hf1825 114 0 (by decide) (by decide) (by decide) (by decide) (by decide) (by decide)
                    have e1838 : (gs u1822 125 x1809.toInt.toNat x1824.toInt) 114 0 = u1822 114 0 := by simp [gs]
                    have e1839 : (gs u1822 125 x1809.toInt.toNat x1824.toInt) 115 0 = u1822 115 0 := by simp [gs]
                    have e1840 : (gs u1822 125 x1809.toInt.toNat x1824.toInt) 116 0 = u1822 116 0 := by simp [gs]
                    have e1841 : (gs u1822 125 x1809.toInt.toNat x1824.toInt) 119 0 = u1822 119 0 := by simp [gs]
                    have e1842 : (gs u1822 125 x1809.toInt.toNat x1824.toInt) 114 0 = u1822 114 0 := by simp [gs]
                    refine cI (va_runV (C := RX9) (As := [.int x1833, .int x1835]) (rest := [.int x1829, .ref b1826]) ⟨hx, hb, hml, hown, hA⟩ (k_X9_number l dC dI dA sz X Γ hU (gs u1822 125 x1809.toInt.toNat x1824.toInt) h0 t_h0 x1833 x1835   (by omega) (by omega)) ⟨callB_of 2 hA (al_A wd_5_108) rfl rfl rfl (hA _ wd_1_7) (hA _ wd_5_105) (by decide +kernel) ⟨Nat.le_of_ble_eq_true rfl, Nat.le_of_ble_eq_true rfl⟩, hA _ wd_5_107, hA _ ws_44⟩ ⟨bl, recv_X9 hE hG t_h0, fun U hU9 hW9 => ⟨rfl, by rw [hU9]; exact hG, hE.go hS hU9 hW9⟩⟩ rfl rfl hl.1 rfl (lv_room (Nat.le_of_ble_eq_true rfl)) dX9_readStatement_253 ⟨Nat.zero_le _, Nat.zero_le _⟩) hS (fun x1845 u1843 H locs w1844 hG hS => ?_)
                    obtain ⟨hf1846, w1844⟩ := w1844
                    refine ast_mI hx hb hE hG hS hU 25 rfl (n := 120) rfl (lo := -2147483648) (hi := 2147483647) rfl rfl rfl t_b1826 (rgD _) (by omega) dX9_readStatement_256 (fun H locs hG hS => ?_)
                    refine lv_iload_n hx hb dX9_readStatement_257 rfl (lv_at hl 1 rfl) ?_
                    refine ty_if_ne (tgt := 277) hx hb dX9_readStatement_258 (by decide) (fun c1847 => ?_) (fun c1847 => ?_)
                    · skip
                      refine lv_aload_n hx hb dX9_readStatement_277 rfl (lv_at hl 2 rfl) ?_
                      refine get_X9_19 hx hb hA hown hE hG t_h0 wd_4_149 dX9_readStatement_278 (fun x1848 h1849 => ?_)
                      replace h1849 : x1848.toInt = u1843 119 0 := by rw [h1849]; simp [gs]
                      refine ty_if_ne (tgt := 297) hx hb dX9_readStatement_281 (by decide) (fun c1851 => ?_) (fun c1851 => ?_)
                      · skip
                        refine lv_aload_n hx hb dX9_readStatement_297 rfl (lv_at hl 2 rfl) ?_
                        refine get_X9_19 hx hb hA hown hE hG t_h0 wd_4_149 dX9_readStatement_298 (fun x1852 h1853 => ?_)
                        replace h1853 : x1852.toInt = u1843 119 0 := by rw [h1853]; simp [gs]
                        refine ty_if_ne (tgt := 308) hx hb dX9_readStatement_301 (by decide) (fun c1855 => ?_) (fun c1855 => ?_)
                        · skip
                          have e1856 : (gs u1843 125 x1829.toInt.toNat x1845.toInt) 115 0 = u1843 115 0 := by simp [gs]
                          have e1857 : (gs u1843 125 x1829.toInt.toNat x1845.toInt) 116 0 = u1843 116 0 := by simp [gs]
                          have e1858 : (gs u1843 125 x1829.toInt.toNat x1845.toInt) 119 0 = u1843 119 0 := by simp [gs]
                          have hk1859 : u1843 124 0 = (gs u1822 125 x1809.toInt.toNat x1824.toInt) 124 0 := hf1846 124 0 (by decide) (by decide) (by decide) (by decide) (by decide) (by decide)
                          have hk1859 : u1843 124 0 = u1822 124 0 := by rw [hk1859]; simp [gs]
                          have hk1860 : u1822 124 0 = u1800 124 0 := hf1825 124 0 (by decide) (by decide) (by decide) (by decide) (by decide) (by decide)
                          have hk1861 : u1800 124 0 = (gs (gs u1770 124 0 x1791.toInt) 125 x1783.toInt.toNat x1600.toInt) 124 0 := hf1802 124 0 (by decide) (by decide) (by decide) (by decide)
                          have hk1861 : u1800 124 0 = x1791.toInt := by rw [hk1861]; simp [gs]
                          have e1862 : (gs u1843 125 x1829.toInt.toNat x1845.toInt) 124 0 = u1843 124 0 := by simp [gs]
                          exact W.vret hx hb hr (fun t ht hW => ⟨⟨(gs u1843 125 x1829.toInt.toNat x1845.toInt), rfl, ⟨(fun c j h115 h116 h117 h118 h119 h120 h124 h125 => by rw [gs_c _ _ _ _ h125, hf1846 c j h115 h116 h117 h118 h119 h120, gs_c _ _ _ _ h125, hf1825 c j h115 h116 h117 h118 h119 h120, hf1802 c j h115 h116 h117 h118, gs_c _ _ _ _ h125, gs_c _ _ _ _ h124, hf1772 c j h119 h120]), (by omega)⟩, ok1 ht hG⟩, hS.F ht⟩) hS.2.2 dX9_readStatement_308
                        · skip
                          refine lv_aload_n hx hb dX9_readStatement_304 rfl (lv_at hl 2 rfl) ?_
                          have hk1863 : u1843 114 0 = (gs u1822 125 x1809.toInt.toNat x1824.toInt) 114 0 := hf1846 114 0 (by decide) (by decide) (by decide) (by decide) (by decide) (by decide)
                          have hk1863 : u1843 114 0 = u1822 114 0 := by rw [hk1863]; simp [gs]
                          have e1864 : (gs u1843 125 x1829.toInt.toNat x1845.toInt) 114 0 = u1843 114 0 := by simp [gs]
                          have e1865 : (gs u1843 125 x1829.toInt.toNat x1845.toInt) 115 0 = u1843 115 0 := by simp [gs]
                          have e1866 : (gs u1843 125 x1829.toInt.toNat x1845.toInt) 114 0 = u1843 114 0 := by simp [gs]
                          refine cV (va_runV (C := RX9) (As := []) (rest := []) ⟨hx, hb, hml, hown, hA⟩ (k_X9_next l dC dI dA sz X Γ hU (gs u1843 125 x1829.toInt.toNat x1845.toInt) h0 t_h0   (by omega)) ⟨callB_of 0 hA (al_A wd_5_74) rfl rfl rfl (hA _ wd_1_7) (hA _ wd_5_71) (by decide +kernel) ⟨Nat.le_of_ble_eq_true rfl, Nat.le_of_ble_eq_true rfl⟩, hA _ wd_5_73, hA _ ws_39⟩ ⟨bl, recv_X9 hE hG t_h0, fun U hU9 hW9 => ⟨rfl, by rw [hU9]; exact hG, hE.go hS hU9 hW9⟩⟩ rfl rfl hl.1 rfl (lv_room (Nat.le_of_ble_eq_true rfl)) dX9_readStatement_305 ⟨Nat.zero_le _, Nat.zero_le _⟩) hS (fun u1867 H locs w1868 hG hS => ?_)
                          obtain ⟨hf1869, w1868⟩ := w1868
                          have hk1870 : u1867 119 0 = (gs u1843 125 x1829.toInt.toNat x1845.toInt) 119 0 := hf1869 119 0 (by decide) (by decide) (by decide) (by decide)
                          have hk1870 : u1867 119 0 = u1843 119 0 := by rw [hk1870]; simp [gs]
                          have hk1871 : u1867 124 0 = (gs u1843 125 x1829.toInt.toNat x1845.toInt) 124 0 := hf1869 124 0 (by decide) (by decide) (by decide) (by decide)
                          have hk1871 : u1867 124 0 = u1843 124 0 := by rw [hk1871]; simp [gs]
                          have hk1872 : u1843 124 0 = (gs u1822 125 x1809.toInt.toNat x1824.toInt) 124 0 := hf1846 124 0 (by decide) (by decide) (by decide) (by decide) (by decide) (by decide)
                          have hk1872 : u1843 124 0 = u1822 124 0 := by rw [hk1872]; simp [gs]
                          have hk1873 : u1822 124 0 = u1800 124 0 := hf1825 124 0 (by decide) (by decide) (by decide) (by decide) (by decide) (by decide)
                          have hk1874 : u1800 124 0 = (gs (gs u1770 124 0 x1791.toInt) 125 x1783.toInt.toNat x1600.toInt) 124 0 := hf1802 124 0 (by decide) (by decide) (by decide) (by decide)
                          have hk1874 : u1800 124 0 = x1791.toInt := by rw [hk1874]; simp [gs]
                          exact W.vret hx hb hr (fun t ht hW => ⟨⟨u1867, rfl, ⟨(fun c j h115 h116 h117 h118 h119 h120 h124 h125 => by rw [hf1869 c j h115 h116 h117 h118, gs_c _ _ _ _ h125, hf1846 c j h115 h116 h117 h118 h119 h120, gs_c _ _ _ _ h125, hf1825 c j h115 h116 h117 h118 h119 h120, hf1802 c j h115 h116 h117 h118, gs_c _ _ _ _ h125, gs_c _ _ _ _ h124, hf1772 c j h119 h120]), (by omega)⟩, ok1 ht hG⟩, hS.F ht⟩) hS.2.2 dX9_readStatement_308
                      · skip
                        refine lv_aload_n hx hb dX9_readStatement_284 rfl (lv_at hl 2 rfl) ?_
                        refine get_X9_17 hx hb hA hown hE hG t_h0 wd_4_147 dX9_readStatement_285 (fun x1875 h1876 => ?_)
                        replace h1876 : x1875.toInt = u1843 117 0 := by rw [h1876]; simp [gs]
                        refine ty_iconst hx hb (4) dX9_readStatement_288 (by decide) (fun x1878 h1879 => ?_)
                        refine ty_icmp_eq (tgt := 297) hx hb dX9_readStatement_289 (by decide) (fun c1880 => ?_) (fun c1880 => ?_)
                        · skip
                          refine lv_aload_n hx hb dX9_readStatement_297 rfl (lv_at hl 2 rfl) ?_
                          refine get_X9_19 hx hb hA hown hE hG t_h0 wd_4_149 dX9_readStatement_298 (fun x1881 h1882 => ?_)
                          replace h1882 : x1881.toInt = u1843 119 0 := by rw [h1882]; simp [gs]
                          refine ty_if_ne (tgt := 308) hx hb dX9_readStatement_301 (by decide) (fun c1884 => ?_) (fun c1884 => ?_)
                          · skip
                            have e1885 : (gs u1843 125 x1829.toInt.toNat x1845.toInt) 115 0 = u1843 115 0 := by simp [gs]
                            have e1886 : (gs u1843 125 x1829.toInt.toNat x1845.toInt) 116 0 = u1843 116 0 := by simp [gs]
                            have e1887 : (gs u1843 125 x1829.toInt.toNat x1845.toInt) 119 0 = u1843 119 0 := by simp [gs]
                            have hk1888 : u1843 124 0 = (gs u1822 125 x1809.toInt.toNat x1824.toInt) 124 0 := hf1846 124 0 (by decide) (by decide) (by decide) (by decide) (by decide) (by decide)
                            have hk1888 : u1843 124 0 = u1822 124 0 := by rw [hk1888]; simp [gs]
                            have hk1889 : u1822 124 0 = u1800 124 0 := hf1825 124 0 (by decide) (by decide) (by decide) (by decide) (by decide) (by decide)
                            have hk1890 : u1800 124 0 = (gs (gs u1770 124 0 x1791.toInt) 125 x1783.toInt.toNat x1600.toInt) 124 0 := hf1802 124 0 (by decide) (by decide) (by decide) (by decide)
                            have hk1890 : u1800 124 0 = x1791.toInt := by rw [hk1890]; simp [gs]
                            have e1891 : (gs u1843 125 x1829.toInt.toNat x1845.toInt) 124 0 = u1843 124 0 := by simp [gs]
                            exact W.vret hx hb hr (fun t ht hW => ⟨⟨(gs u1843 125 x1829.toInt.toNat x1845.toInt), rfl, ⟨(fun c j h115 h116 h117 h118 h119 h120 h124 h125 => by rw [gs_c _ _ _ _ h125, hf1846 c j h115 h116 h117 h118 h119 h120, gs_c _ _ _ _ h125, hf1825 c j h115 h116 h117 h118 h119 h120, hf1802 c j h115 h116 h117 h118, gs_c _ _ _ _ h125, gs_c _ _ _ _ h124, hf1772 c j h119 h120]), (by omega)⟩, ok1 ht hG⟩, hS.F ht⟩) hS.2.2 dX9_readStatement_308
                          · skip
                            refine lv_aload_n hx hb dX9_readStatement_304 rfl (lv_at hl 2 rfl) ?_
                            have hk1892 : u1843 114 0 = (gs u1822 125 x1809.toInt.toNat x1824.toInt) 114 0 := hf1846 114 0 (by decide) (by decide) (by decide) (by decide) (by decide) (by decide)
                            have hk1892 : u1843 114 0 = u1822 114 0 := by rw [hk1892]; simp [gs]
                            have e1893 : (gs u1843 125 x1829.toInt.toNat x1845.toInt) 114 0 = u1843 114 0 := by simp [gs]
                            have e1894 : (gs u1843 125 x1829.toInt.toNat x1845.toInt) 115 0 = u1843 115 0 := by simp [gs]
                            have e1895 : (gs u1843 125 x1829.toInt.toNat x1845.toInt) 114 0 = u1843 114 0 := by simp [gs]
                            refine cV (va_runV (C := RX9) (As := []) (rest := []) ⟨hx, hb, hml, hown, hA⟩ (k_X9_next l dC dI dA sz X Γ hU (gs u1843 125 x1829.toInt.toNat x1845.toInt) h0 t_h0   (by omega)) ⟨callB_of 0 hA (al_A wd_5_74) rfl rfl rfl (hA _ wd_1_7) (hA _ wd_5_71) (by decide +kernel) ⟨Nat.le_of_ble_eq_true rfl, Nat.le_of_ble_eq_true rfl⟩, hA _ wd_5_73, hA _ ws_39⟩ ⟨bl, recv_X9 hE hG t_h0, fun U hU9 hW9 => ⟨rfl, by rw [hU9]; exact hG, hE.go hS hU9 hW9⟩⟩ rfl rfl hl.1 rfl (lv_room (Nat.le_of_ble_eq_true rfl)) dX9_readStatement_305 ⟨Nat.zero_le _, Nat.zero_le _⟩) hS (fun u1896 H locs w1897 hG hS => ?_)
                            obtain ⟨hf1898, w1897⟩ := w1897
                            have hk1899 : u1896 119 0 = (gs u1843 125 x1829.toInt.toNat x1845.toInt) 119 0 := hf1898 119 0 (by decide) (by decide) (by decide) (by decide)
                            have hk1899 : u1896 119 0 = u1843 119 0 := by rw [hk1899]; simp [gs]
                            have hk1900 : u1896 124 0 = (gs u1843 125 x1829.toInt.toNat x1845.toInt) 124 0 := hf1898 124 0 (by decide) (by decide) (by decide) (by decide)
                            have hk1900 : u1896 124 0 = u1843 124 0 := by rw [hk1900]; simp [gs]
                            have hk1901 : u1843 124 0 = (gs u1822 125 x1809.toInt.toNat x1824.toInt) 124 0 := hf1846 124 0 (by decide) (by decide) (by decide) (by decide) (by decide) (by decide)
                            have hk1901 : u1843 124 0 = u1822 124 0 := by rw [hk1901]; simp [gs]
                            have hk1902 : u1822 124 0 = u1800 124 0 := hf1825 124 0 (by decide) (by decide) (by decide) (by decide) (by decide) (by decide)
                            have hk1903 : u1800 124 0 = (gs (gs u1770 124 0 x1791.toInt) 125 x1783.toInt.toNat x1600.toInt) 124 0 := hf1802 124 0 (by decide) (by decide) (by decide) (by decide)
                            have hk1903 : u1800 124 0 = x1791.toInt := by rw [hk1903]; simp [gs]
                            exact W.vret hx hb hr (fun t ht hW => ⟨⟨u1896, rfl, ⟨(fun c j h115 h116 h117 h118 h119 h120 h124 h125 => by rw [hf1898 c j h115 h116 h117 h118, gs_c _ _ _ _ h125, hf1846 c j h115 h116 h117 h118 h119 h120, gs_c _ _ _ _ h125, hf1825 c j h115 h116 h117 h118 h119 h120, hf1802 c j h115 h116 h117 h118, gs_c _ _ _ _ h125, gs_c _ _ _ _ h124, hf1772 c j h119 h120]), (by omega)⟩, ok1 ht hG⟩, hS.F ht⟩) hS.2.2 dX9_readStatement_308
                        · skip
                          refine lv_aload_n hx hb dX9_readStatement_292 rfl (lv_at hl 2 rfl) ?_
                          refine ty_iconst hx hb (1) dX9_readStatement_293 (by decide) (fun x1904 h1905 => ?_)
                          have e1906 : (gs u1843 125 x1829.toInt.toNat x1845.toInt) 119 0 = u1843 119 0 := by simp [gs]
                          have e1907 : (gs u1843 125 x1829.toInt.toNat x1845.toInt) 119 0 = u1843 119 0 := by simp [gs]
                          refine cV (va_runV (C := RX9) (As := [.int x1904]) (rest := []) ⟨hx, hb, hml, hown, hA⟩ (k_X9_fails l dC dI dA sz X Γ hU (gs u1843 125 x1829.toInt.toNat x1845.toInt) h0 t_h0 x1904   ) ⟨callB_of 1 hA (al_A wd_5_102) rfl rfl rfl (hA _ wd_1_7) (hA _ wd_5_99) (by decide +kernel) ⟨Nat.le_of_ble_eq_true rfl, Nat.le_of_ble_eq_true rfl⟩, hA _ wd_5_101, hA _ ws_43⟩ ⟨bl, recv_X9 hE hG t_h0, fun U hU9 hW9 => ⟨rfl, by rw [hU9]; exact hG, hE.go hS hU9 hW9⟩⟩ rfl rfl hl.1 rfl (lv_room (Nat.le_of_ble_eq_true rfl)) dX9_readStatement_294 ⟨Nat.zero_le _, Nat.zero_le _⟩) hS (fun u1908 H locs w1909 hG hS => ?_)
                          obtain ⟨hf1910, w1909⟩ := w1909
                          refine lv_aload_n hx hb dX9_readStatement_297 rfl (lv_at hl 2 rfl) ?_
                          refine get_X9_19 hx hb hA hown hE hG t_h0 wd_4_149 dX9_readStatement_298 (fun x1911 h1912 => ?_)
                          refine ty_if_ne (tgt := 308) hx hb dX9_readStatement_301 (by decide) (fun c1914 => ?_) (fun c1914 => ?_)
                          · skip
                            have hk1915 : u1908 115 0 = (gs u1843 125 x1829.toInt.toNat x1845.toInt) 115 0 := hf1910 115 0 (by decide) (by decide)
                            have hk1915 : u1908 115 0 = u1843 115 0 := by rw [hk1915]; simp [gs]
                            have hk1916 : u1908 116 0 = (gs u1843 125 x1829.toInt.toNat x1845.toInt) 116 0 := hf1910 116 0 (by decide) (by decide)
                            have hk1916 : u1908 116 0 = u1843 116 0 := by rw [hk1916]; simp [gs]
                            have hk1917 : u1908 124 0 = (gs u1843 125 x1829.toInt.toNat x1845.toInt) 124 0 := hf1910 124 0 (by decide) (by decide)
                            have hk1917 : u1908 124 0 = u1843 124 0 := by rw [hk1917]; simp [gs]
                            have hk1918 : u1843 124 0 = (gs u1822 125 x1809.toInt.toNat x1824.toInt) 124 0 := hf1846 124 0 (by decide) (by decide) (by decide) (by decide) (by decide) (by decide)
                            have hk1918 : u1843 124 0 = u1822 124 0 := by rw [hk1918]; simp [gs]
                            have hk1919 : u1822 124 0 = u1800 124 0 := hf1825 124 0 (by decide) (by decide) (by decide) (by decide) (by decide) (by decide)
                            have hk1920 : u1800 124 0 = (gs (gs u1770 124 0 x1791.toInt) 125 x1783.toInt.toNat x1600.toInt) 124 0 := hf1802 124 0 (by decide) (by decide) (by decide) (by decide)
                            have hk1920 : u1800 124 0 = x1791.toInt := by rw [hk1920]; simp [gs]
                            exact W.vret hx hb hr (fun t ht hW => ⟨⟨u1908, rfl, ⟨(fun c j h115 h116 h117 h118 h119 h120 h124 h125 => by rw [hf1910 c j h119 h120, gs_c _ _ _ _ h125, hf1846 c j h115 h116 h117 h118 h119 h120, gs_c _ _ _ _ h125, hf1825 c j h115 h116 h117 h118 h119 h120, hf1802 c j h115 h116 h117 h118, gs_c _ _ _ _ h125, gs_c _ _ _ _ h124, hf1772 c j h119 h120]), (by omega)⟩, ok1 ht hG⟩, hS.F ht⟩) hS.2.2 dX9_readStatement_308
                          · skip
                            refine lv_aload_n hx hb dX9_readStatement_304 rfl (lv_at hl 2 rfl) ?_
                            have hk1921 : u1908 114 0 = (gs u1843 125 x1829.toInt.toNat x1845.toInt) 114 0 := hf1910 114 0 (by decide) (by decide)
                            have hk1921 : u1908 114 0 = u1843 114 0 := by rw [hk1921]; simp [gs]
                            have hk1922 : u1843 114 0 = (gs u1822 125 x1809.toInt.toNat x1824.toInt) 114 0 := hf1846 114 0 (by decide) (by decide) (by decide) (by decide) (by decide) (by decide)
                            have hk1922 : u1843 114 0 = u1822 114 0 := by rw [hk1922]; simp [gs]
                            have hk1923 : u1908 115 0 = (gs u1843 125 x1829.toInt.toNat x1845.toInt) 115 0 := hf1910 115 0 (by decide) (by decide)
                            have hk1923 : u1908 115 0 = u1843 115 0 := by rw [hk1923]; simp [gs]
                            refine cV (va_runV (C := RX9) (As := []) (rest := []) ⟨hx, hb, hml, hown, hA⟩ (k_X9_next l dC dI dA sz X Γ hU u1908 h0 t_h0   (by omega)) ⟨callB_of 0 hA (al_A wd_5_74) rfl rfl rfl (hA _ wd_1_7) (hA _ wd_5_71) (by decide +kernel) ⟨Nat.le_of_ble_eq_true rfl, Nat.le_of_ble_eq_true rfl⟩, hA _ wd_5_73, hA _ ws_39⟩ ⟨bl, recv_X9 hE hG t_h0, fun U hU9 hW9 => ⟨rfl, by rw [hU9]; exact hG, hE.go hS hU9 hW9⟩⟩ rfl rfl hl.1 rfl (lv_room (Nat.le_of_ble_eq_true rfl)) dX9_readStatement_305 ⟨Nat.zero_le _, Nat.zero_le _⟩) hS (fun u1924 H locs w1925 hG hS => ?_)
                            obtain ⟨hf1926, w1925⟩ := w1925
                            have hk1927 : u1924 119 0 = u1908 119 0 := hf1926 119 0 (by decide) (by decide) (by decide) (by decide)
                            have hk1928 : u1924 124 0 = u1908 124 0 := hf1926 124 0 (by decide) (by decide) (by decide) (by decide)
                            have hk1929 : u1908 124 0 = (gs u1843 125 x1829.toInt.toNat x1845.toInt) 124 0 := hf1910 124 0 (by decide) (by decide)
                            have hk1929 : u1908 124 0 = u1843 124 0 := by rw [hk1929]; simp [gs]
                            have hk1930 : u1843 124 0 = (gs u1822 125 x1809.toInt.toNat x1824.toInt) 124 0 := hf1846 124 0 (by decide) (by decide) (by decide) (by decide) (by decide) (by decide)
                            have hk1930 : u1843 124 0 = u1822 124 0 := by rw [hk1930]; simp [gs]
                            have hk1931 : u1822 124 0 = u1800 124 0 := hf1825 124 0 (by decide) (by decide) (by decide) (by decide) (by decide) (by decide)
                            have hk1932 : u1800 124 0 = (gs (gs u1770 124 0 x1791.toInt) 125 x1783.toInt.toNat x1600.toInt) 124 0 := hf1802 124 0 (by decide) (by decide) (by decide) (by decide)
                            have hk1932 : u1800 124 0 = x1791.toInt := by rw [hk1932]; simp [gs]
                            exact W.vret hx hb hr (fun t ht hW => ⟨⟨u1924, rfl, ⟨(fun c j h115 h116 h117 h118 h119 h120 h124 h125 => by rw [hf1926 c j h115 h116 h117 h118, hf1910 c j h119 h120, gs_c _ _ _ _ h125, hf1846 c j h115 h116 h117 h118 h119 h120, gs_c _ _ _ _ h125, hf1825 c j h115 h116 h117 h118 h119 h120, hf1802 c j h115 h116 h117 h118, gs_c _ _ _ _ h125, gs_c _ _ _ _ h124, hf1772 c j h119 h120]), (by omega)⟩, ok1 ht hG⟩, hS.F ht⟩) hS.2.2 dX9_readStatement_308
                    · exfalso; omega
                  · exfalso; omega
              · exfalso; omega
            · exfalso; omega
          · skip
            have hk1933 : u1770 115 0 = g 115 0 := hf1772 115 0 (by decide) (by decide)
            have hk1934 : u1770 116 0 = g 116 0 := hf1772 116 0 (by decide) (by decide)
            have hk1935 : u1770 124 0 = g 124 0 := hf1772 124 0 (by decide) (by decide)
            exact W.vret hx hb hr (fun t ht hW => ⟨⟨u1770, rfl, ⟨(fun c j h115 h116 h117 h118 h119 h120 h124 h125 => by rw [hf1772 c j h119 h120]), (by omega)⟩, ok1 ht hG⟩, hS.F ht⟩) hS.2.2 dX9_readStatement_88
      · exfalso; omega
  · skip
    refine ty_iconst hx hb (0) dX9_readStatement_9 (by decide) (fun x1936 h1937 => ?_)
    refine lv_goto (tgt := 53) hx hb dX9_readStatement_10 (by decide) ?_
    refine lv_istore_n (lv' := [(1, .int x1936), (0, .ref h0)]) hx hb dX9_readStatement_53 rfl hl (by decide) rfl (fun ls hl => ?_)
    refine lv_iload_n hx hb dX9_readStatement_54 rfl (lv_at hl 0 rfl) ?_
    refine ty_iconst hx hb (-1) dX9_readStatement_55 (by decide) (fun x1938 h1939 => ?_)
    refine ty_icmp_ne (tgt := 67) hx hb dX9_readStatement_56 (by decide) (fun c1940 => ?_) (fun c1940 => ?_)
    · skip
      refine lv_aload_n hx hb dX9_readStatement_67 rfl (lv_at hl 1 rfl) ?_
      refine get_X9_24 hx hb hA hown hE hG t_h0 wd_4_154 dX9_readStatement_68 (fun x1941 h1942 => ?_)
      refine ty_bipush hx hb (30) dX9_readStatement_71 (by decide) (fun x1944 h1945 => ?_)
      refine ty_icmp_ne (tgt := 81) hx hb dX9_readStatement_73 (by decide) (fun c1946 => ?_) (fun c1946 => ?_)
      · skip
        refine lv_aload_n hx hb dX9_readStatement_81 rfl (lv_at hl 1 rfl) ?_
        refine get_X9_19 hx hb hA hown hE hG t_h0 wd_4_149 dX9_readStatement_82 (fun x1947 h1948 => ?_)
        refine ty_if_eq (tgt := 89) hx hb dX9_readStatement_85 (by decide) (fun c1950 => ?_) (fun c1950 => ?_)
        · skip
          refine ty_iconst hx hb (4) dX9_readStatement_89 (by decide) (fun x1951 h1952 => ?_)
          refine lv_aload_n hx hb dX9_readStatement_90 rfl (lv_at hl 1 rfl) ?_
          refine get_X9_24 hx hb hA hown hE hG t_h0 wd_4_154 dX9_readStatement_91 (fun x1953 h1954 => ?_)
          refine ty_imul hx hb dX9_readStatement_94 (fun x1956 h1957 => ?_)
          try have h1958 : x1956.toInt = 4 * x1953.toInt := ty_mull h1957 (by omega) (by omega) (by omega)
          refine lv_istore_n (lv' := [(2, .int x1956), (1, .int x1936), (0, .ref h0)]) hx hb dX9_readStatement_95 rfl hl (by decide) rfl (fun ls hl => ?_)
          refine lv_aload_n hx hb dX9_readStatement_96 rfl (lv_at hl 2 rfl) ?_
          refine lv_dup hx hb dX9_readStatement_97 rfl ?_
          refine get_X9_24 hx hb hA hown hE hG t_h0 wd_4_154 dX9_readStatement_98 (fun x1959 h1960 => ?_)
          refine ty_iconst hx hb (1) dX9_readStatement_101 (by decide) (fun x1962 h1963 => ?_)
          refine ty_iadd hx hb dX9_readStatement_102 (fun x1964 h1965 => ?_)
          try have h1966 : x1964.toInt = x1959.toInt + x1962.toInt := ty_add h1965 (by omega) (by omega)
          refine put_X9_24 hx hb hA hown hE hG hS hU t_h0 wd_4_154 dX9_readStatement_103 (fun H locs hG hS => ?_)
          refine lv_aload_n hx hb dX9_readStatement_106 rfl (lv_at hl 2 rfl) ?_
          refine get_X9_25 hx hb hA hown hE hG t_h0 wd_4_155 dX9_readStatement_107 (fun b1967 (t_b1967 : ty Γ b1967 125) => ?_)
          refine lv_iload_n hx hb dX9_readStatement_110 rfl (lv_at hl 0 rfl) ?_
          refine lv_iload_n hx hb dX9_readStatement_111 rfl (lv_at hl 1 rfl) ?_
          refine ast_mI hx hb hE hG hS hU 25 rfl (n := 120) rfl (lo := -2147483648) (hi := 2147483647) rfl rfl rfl t_b1967 (rgD _) (by omega) dX9_readStatement_112 (fun H locs hG hS => ?_)
          refine lv_aload_n hx hb dX9_readStatement_113 rfl (lv_at hl 2 rfl) ?_
          have e1968 : (gs (gs g 124 0 x1964.toInt) 125 x1956.toInt.toNat x1936.toInt) 114 0 = g 114 0 := by simp [gs]
          have e1969 : (gs (gs g 124 0 x1964.toInt) 125 x1956.toInt.toNat x1936.toInt) 115 0 = g 115 0 := by simp [gs]
          have e1970 : (gs (gs g 124 0 x1964.toInt) 125 x1956.toInt.toNat x1936.toInt) 114 0 = g 114 0 := by simp [gs]
          refine cV (va_runV (C := RX9) (As := []) (rest := []) ⟨hx, hb, hml, hown, hA⟩ (k_X9_next l dC dI dA sz X Γ hU (gs (gs g 124 0 x1964.toInt) 125 x1956.toInt.toNat x1936.toInt) h0 t_h0   (by omega)) ⟨callB_of 0 hA (al_A wd_5_74) rfl rfl rfl (hA _ wd_1_7) (hA _ wd_5_71) (by decide +kernel) ⟨Nat.le_of_ble_eq_true rfl, Nat.le_of_ble_eq_true rfl⟩, hA _ wd_5_73, hA _ ws_39⟩ ⟨bl, recv_X9 hE hG t_h0, fun U hU9 hW9 => ⟨rfl, by rw [hU9]; exact hG, hE.go hS hU9 hW9⟩⟩ rfl rfl hl.1 rfl (lv_room (Nat.le_of_ble_eq_true rfl)) dX9_readStatement_114 ⟨Nat.zero_le _, Nat.zero_le _⟩) hS (fun u1971 H locs w1972 hG hS => ?_)
          obtain ⟨hf1973, w1972⟩ := w1972
          refine lv_iload_n hx hb dX9_readStatement_117 rfl (lv_at hl 1 rfl) ?_
          refine ty_iconst hx hb (3) dX9_readStatement_118 (by decide) (fun x1974 h1975 => ?_)
          refine ty_icmp_ne (tgt := 177) hx hb dX9_readStatement_119 (by decide) (fun c1976 => ?_) (fun c1976 => ?_)
          · skip
            refine lv_aload_n hx hb dX9_readStatement_177 rfl (lv_at hl 2 rfl) ?_
            refine get_X9_25 hx hb hA hown hE hG t_h0 wd_4_155 dX9_readStatement_178 (fun b1977 (t_b1977 : ty Γ b1977 125) => ?_)
            refine lv_iload_n hx hb dX9_readStatement_181 rfl (lv_at hl 0 rfl) ?_
            refine ty_iconst hx hb (1) dX9_readStatement_182 (by decide) (fun x1978 h1979 => ?_)
            refine ty_iadd hx hb dX9_readStatement_183 (fun x1980 h1981 => ?_)
            try have h1982 : x1980.toInt = x1956.toInt + x1978.toInt := ty_add h1981 (by omega) (by omega)
            refine lv_iload_n hx hb dX9_readStatement_184 rfl (lv_at hl 1 rfl) ?_
            refine ty_if_ne (tgt := 198) hx hb dX9_readStatement_185 (by decide) (fun c1983 => ?_) (fun c1983 => ?_)
            · exfalso; omega
            · skip
              refine lv_aload_n hx hb dX9_readStatement_188 rfl (lv_at hl 2 rfl) ?_
              refine ty_iconst hx hb (0) dX9_readStatement_189 (by decide) (fun x1984 h1985 => ?_)
              refine ty_bipush hx hb (52) dX9_readStatement_190 (by decide) (fun x1986 h1987 => ?_)
              have hk1988 : u1971 114 0 = (gs (gs g 124 0 x1964.toInt) 125 x1956.toInt.toNat x1936.toInt) 114 0 := hf1973 114 0 (by decide) (by decide) (by decide) (by decide)
              have hk1988 : u1971 114 0 = g 114 0 := by rw [hk1988]; simp [gs]
              have hk1989 : u1971 119 0 = (gs (gs g 124 0 x1964.toInt) 125 x1956.toInt.toNat x1936.toInt) 119 0 := hf1973 119 0 (by decide) (by decide) (by decide) (by decide)
              have hk1989 : u1971 119 0 = g 119 0 := by rw [hk1989]; simp [gs]
              refine cI (va_runV (C := RX9) (As := [.int x1984, .int x1986]) (rest := [.int x1980, .ref b1977]) ⟨hx, hb, hml, hown, hA⟩ (k_X9_number l dC dI dA sz X Γ hU u1971 h0 t_h0 x1984 x1986   (by omega) (by omega)) ⟨callB_of 2 hA (al_A wd_5_108) rfl rfl rfl (hA _ wd_1_7) (hA _ wd_5_105) (by decide +kernel) ⟨Nat.le_of_ble_eq_true rfl, Nat.le_of_ble_eq_true rfl⟩, hA _ wd_5_107, hA _ ws_44⟩ ⟨bl, recv_X9 hE hG t_h0, fun U hU9 hW9 => ⟨rfl, by rw [hU9]; exact hG, hE.go hS hU9 hW9⟩⟩ rfl rfl hl.1 rfl (lv_room (Nat.le_of_ble_eq_true rfl)) dX9_readStatement_192 ⟨Nat.zero_le _, Nat.zero_le _⟩) hS (fun x1992 u1990 H locs w1991 hG hS => ?_)
              obtain ⟨hf1993, w1991⟩ := w1991
              refine lv_goto (tgt := 219) hx hb dX9_readStatement_195 (by decide) ?_
              refine ast_mI hx hb hE hG hS hU 25 rfl (n := 120) rfl (lo := -2147483648) (hi := 2147483647) rfl rfl rfl t_b1977 (rgD _) (by omega) dX9_readStatement_219 (fun H locs hG hS => ?_)
              refine lv_aload_n hx hb dX9_readStatement_220 rfl (lv_at hl 2 rfl) ?_
              refine get_X9_25 hx hb hA hown hE hG t_h0 wd_4_155 dX9_readStatement_221 (fun b1994 (t_b1994 : ty Γ b1994 125) => ?_)
              refine lv_iload_n hx hb dX9_readStatement_224 rfl (lv_at hl 0 rfl) ?_
              refine ty_iconst hx hb (2) dX9_readStatement_225 (by decide) (fun x1995 h1996 => ?_)
              refine ty_iadd hx hb dX9_readStatement_226 (fun x1997 h1998 => ?_)
              try have h1999 : x1997.toInt = x1956.toInt + x1995.toInt := ty_add h1998 (by omega) (by omega)
              refine lv_iload_n hx hb dX9_readStatement_227 rfl (lv_at hl 1 rfl) ?_
              refine ty_if_ne (tgt := 248) hx hb dX9_readStatement_228 (by decide) (fun c2000 => ?_) (fun c2000 => ?_)
              · exfalso; omega
              · skip
                refine lv_aload_n hx hb dX9_readStatement_231 rfl (lv_at hl 2 rfl) ?_
                refine lv_aload_n hx hb dX9_readStatement_232 rfl (lv_at hl 2 rfl) ?_
                refine get_X9_25 hx hb hA hown hE hG t_h0 wd_4_155 dX9_readStatement_233 (fun b2001 (t_b2001 : ty Γ b2001 125) => ?_)
                refine lv_iload_n hx hb dX9_readStatement_236 rfl (lv_at hl 0 rfl) ?_
                refine ty_iconst hx hb (1) dX9_readStatement_237 (by decide) (fun x2002 h2003 => ?_)
                refine ty_iadd hx hb dX9_readStatement_238 (fun x2004 h2005 => ?_)
                try have h2006 : x2004.toInt = x1956.toInt + x2002.toInt := ty_add h2005 (by omega) (by omega)
                refine ald_mI hx hb hE hG 25 rfl (n := 120) rfl (lo := -2147483648) (hi := 2147483647) rfl rfl t_b2001 (by omega) dX9_readStatement_239 (fun j2008 x2007 h2009 h2010 h2011 => ?_)
                clear h2011
                refine ty_bipush hx hb (52) dX9_readStatement_240 (by decide) (fun x2012 h2013 => ?_)
                have hk2014 : u1990 114 0 = u1971 114 0 := hf1993 114 0 (by decide) (by decide) (by decide) (by decide) (by decide) (by decide)
                have e2015 : (gs u1990 125 x1980.toInt.toNat x1992.toInt) 114 0 = u1990 114 0 := by simp [gs]
                have e2016 : (gs u1990 125 x1980.toInt.toNat x1992.toInt) 115 0 = u1990 115 0 := by simp [gs]
                have e2017 : (gs u1990 125 x1980.toInt.toNat x1992.toInt) 116 0 = u1990 116 0 := by simp [gs]
                have e2018 : (gs u1990 125 x1980.toInt.toNat x1992.toInt) 119 0 = u1990 119 0 := by simp [gs]
                have e2019 : (gs u1990 125 x1980.toInt.toNat x1992.toInt) 114 0 = u1990 114 0 := by simp [gs]
                refine cI (va_runV (C := RX9) (As := [.int x2007, .int x2012]) (rest := [.int x1997, .ref b1994]) ⟨hx, hb, hml, hown, hA⟩ (k_X9_number l dC dI dA sz X Γ hU (gs u1990 125 x1980.toInt.toNat x1992.toInt) h0 t_h0 x2007 x2012   (by omega) (by omega)) ⟨callB_of 2 hA (al_A wd_5_108) rfl rfl rfl (hA _ wd_1_7) (hA _ wd_5_105) (by decide +kernel) ⟨Nat.le_of_ble_eq_true rfl, Nat.le_of_ble_eq_true rfl⟩, hA _ wd_5_107, hA _ ws_44⟩ ⟨bl, recv_X9 hE hG t_h0, fun U hU9 hW9 => ⟨rfl, by rw [hU9]; exact hG, hE.go hS hU9 hW9⟩⟩ rfl rfl hl.1 rfl (lv_room (Nat.le_of_ble_eq_true rfl)) dX9_readStatement_242 ⟨Nat.zero_le _, Nat.zero_le _⟩) hS (fun x2022 u2020 H locs w2021 hG hS => ?_)
                obtain ⟨hf2023, w2021⟩ := w2021
                refine lv_goto (tgt := 256) hx hb dX9_readStatement_245 (by decide) ?_
                refine ast_mI hx hb hE hG hS hU 25 rfl (n := 120) rfl (lo := -2147483648) (hi := 2147483647) rfl rfl rfl t_b1994 (rgD _) (by omega) dX9_readStatement_256 (fun H locs hG hS => ?_)
                refine lv_iload_n hx hb dX9_readStatement_257 rfl (lv_at hl 1 rfl) ?_
                refine ty_if_ne (tgt := 277) hx hb dX9_readStatement_258 (by decide) (fun c2024 => ?_) (fun c2024 => ?_)
                · exfalso; omega
                · skip
                  refine lv_aload_n hx hb dX9_readStatement_261 rfl (lv_at hl 2 rfl) ?_
                  refine get_X9_25 hx hb hA hown hE hG t_h0 wd_4_155 dX9_readStatement_262 (fun b2025 (t_b2025 : ty Γ b2025 125) => ?_)
                  refine lv_iload_n hx hb dX9_readStatement_265 rfl (lv_at hl 0 rfl) ?_
                  refine ty_iconst hx hb (3) dX9_readStatement_266 (by decide) (fun x2026 h2027 => ?_)
                  refine ty_iadd hx hb dX9_readStatement_267 (fun x2028 h2029 => ?_)
                  try have h2030 : x2028.toInt = x1956.toInt + x2026.toInt := ty_add h2029 (by omega) (by omega)
                  refine lv_aload_n hx hb dX9_readStatement_268 rfl (lv_at hl 2 rfl) ?_
                  refine ty_iconst hx hb (0) dX9_readStatement_269 (by decide) (fun x2031 h2032 => ?_)
                  refine ty_sipush hx hb (9999) dX9_readStatement_270 (by decide) (fun x2033 h2034 => ?_)
                  have hk2035 : u2020 114 0 = (gs u1990 125 x1980.toInt.toNat x1992.toInt) 114 0 := hf2023 114 0 (by decide) (by decide) (by decide) (by decide) (by decide) (by decide)
                  have hk2035 : u2020 114 0 = u1990 114 0 := by rw [hk2035]; simp [gs]
                  have e2036 : (gs u2020 125 x1997.toInt.toNat x2022.toInt) 114 0 = u2020 114 0 := by simp [gs]
                  have e2037 : (gs u2020 125 x1997.toInt.toNat x2022.toInt) 115 0 = u2020 115 0 := by simp [gs]
                  have e2038 : (gs u2020 125 x1997.toInt.toNat x2022.toInt) 116 0 = u2020 116 0 := by simp [gs]
                  have e2039 : (gs u2020 125 x1997.toInt.toNat x2022.toInt) 119 0 = u2020 119 0 := by simp [gs]
                  have e2040 : (gs u2020 125 x1997.toInt.toNat x2022.toInt) 114 0 = u2020 114 0 := by simp [gs]
                  refine cI (va_runV (C := RX9) (As := [.int x2031, .int x2033]) (rest := [.int x2028, .ref b2025]) ⟨hx, hb, hml, hown, hA⟩ (k_X9_number l dC dI dA sz X Γ hU (gs u2020 125 x1997.toInt.toNat x2022.toInt) h0 t_h0 x2031 x2033   (by omega) (by omega)) ⟨callB_of 2 hA (al_A wd_5_108) rfl rfl rfl (hA _ wd_1_7) (hA _ wd_5_105) (by decide +kernel) ⟨Nat.le_of_ble_eq_true rfl, Nat.le_of_ble_eq_true rfl⟩, hA _ wd_5_107, hA _ ws_44⟩ ⟨bl, recv_X9 hE hG t_h0, fun U hU9 hW9 => ⟨rfl, by rw [hU9]; exact hG, hE.go hS hU9 hW9⟩⟩ rfl rfl hl.1 rfl (lv_room (Nat.le_of_ble_eq_true rfl)) dX9_readStatement_273 ⟨Nat.zero_le _, Nat.zero_le _⟩) hS (fun x2043 u2041 H locs w2042 hG hS => ?_)
                  obtain ⟨hf2044, w2042⟩ := w2042
                  refine ast_mI hx hb hE hG hS hU 25 rfl (n := 120) rfl (lo := -2147483648) (hi := 2147483647) rfl rfl rfl t_b2025 (rgD _) (by omega) dX9_readStatement_276 (fun H locs hG hS => ?_)
                  refine lv_aload_n hx hb dX9_readStatement_277 rfl (lv_at hl 2 rfl) ?_
                  refine get_X9_19 hx hb hA hown hE hG t_h0 wd_4_149 dX9_readStatement_278 (fun x2045 h2046 => ?_)
                  replace h2046 : x2045.toInt = u2041 119 0 := by rw [h2046]; simp [gs]
                  refine ty_if_ne (tgt := 297) hx hb dX9_readStatement_281 (by decide) (fun c2048 => ?_) (fun c2048 => ?_)
                  · skip
                    refine lv_aload_n hx hb dX9_readStatement_297 rfl (lv_at hl 2 rfl) ?_
                    refine get_X9_19 hx hb hA hown hE hG t_h0 wd_4_149 dX9_readStatement_298 (fun x2049 h2050 => ?_)
                    replace h2050 : x2049.toInt = u2041 119 0 := by rw [h2050]; simp [gs]
                    refine ty_if_ne (tgt := 308) hx hb dX9_readStatement_301 (by decide) (fun c2052 => ?_) (fun c2052 => ?_)
                    · skip
                      have e2053 : (gs u2041 125 x2028.toInt.toNat x2043.toInt) 115 0 = u2041 115 0 := by simp [gs]
                      have e2054 : (gs u2041 125 x2028.toInt.toNat x2043.toInt) 116 0 = u2041 116 0 := by simp [gs]
                      have e2055 : (gs u2041 125 x2028.toInt.toNat x2043.toInt) 119 0 = u2041 119 0 := by simp [gs]
                      have hk2056 : u2041 124 0 = (gs u2020 125 x1997.toInt.toNat x2022.toInt) 124 0 := hf2044 124 0 (by decide) (by decide) (by decide) (by decide) (by decide) (by decide)
                      have hk2056 : u2041 124 0 = u2020 124 0 := by rw [hk2056]; simp [gs]
                      have hk2057 : u2020 124 0 = (gs u1990 125 x1980.toInt.toNat x1992.toInt) 124 0 := hf2023 124 0 (by decide) (by decide) (by decide) (by decide) (by decide) (by decide)
                      have hk2057 : u2020 124 0 = u1990 124 0 := by rw [hk2057]; simp [gs]
                      have hk2058 : u1990 124 0 = u1971 124 0 := hf1993 124 0 (by decide) (by decide) (by decide) (by decide) (by decide) (by decide)
                      have hk2059 : u1971 124 0 = (gs (gs g 124 0 x1964.toInt) 125 x1956.toInt.toNat x1936.toInt) 124 0 := hf1973 124 0 (by decide) (by decide) (by decide) (by decide)
                      have hk2059 : u1971 124 0 = x1964.toInt := by rw [hk2059]; simp [gs]
                      have e2060 : (gs u2041 125 x2028.toInt.toNat x2043.toInt) 124 0 = u2041 124 0 := by simp [gs]
                      exact W.vret hx hb hr (fun t ht hW => ⟨⟨(gs u2041 125 x2028.toInt.toNat x2043.toInt), rfl, ⟨(fun c j h115 h116 h117 h118 h119 h120 h124 h125 => by rw [gs_c _ _ _ _ h125, hf2044 c j h115 h116 h117 h118 h119 h120, gs_c _ _ _ _ h125, hf2023 c j h115 h116 h117 h118 h119 h120, gs_c _ _ _ _ h125, hf1993 c j h115 h116 h117 h118 h119 h120, hf1973 c j h115 h116 h117 h118, gs_c _ _ _ _ h125, gs_c _ _ _ _ h124]), (by omega)⟩, ok1 ht hG⟩, hS.F ht⟩) hS.2.2 dX9_readStatement_308
                    · skip
                      refine lv_aload_n hx hb dX9_readStatement_304 rfl (lv_at hl 2 rfl) ?_
                      have hk2061 : u2041 114 0 = (gs u2020 125 x1997.toInt.toNat x2022.toInt) 114 0 := hf2044 114 0 (by decide) (by decide) (by decide) (by decide) (by decide) (by decide)
                      have hk2061 : u2041 114 0 = u2020 114 0 := by rw [hk2061]; simp [gs]
                      have e2062 : (gs u2041 125 x2028.toInt.toNat x2043.toInt) 114 0 = u2041 114 0 := by simp [gs]
                      have e2063 : (gs u2041 125 x2028.toInt.toNat x2043.toInt) 115 0 = u2041 115 0 := by simp [gs]
                      have e2064 : (gs u2041 125 x2028.toInt.toNat x2043.toInt) 114 0 = u2041 114 0 := by simp [gs]
                      refine cV (va_runV (C := RX9) (As := []) (rest := []) ⟨hx, hb, hml, hown, hA⟩ (k_X9_next l dC dI dA sz X Γ hU (gs u2041 125 x2028.toInt.toNat x2043.toInt) h0 t_h0   (by omega)) ⟨callB_of 0 hA (al_A wd_5_74) rfl rfl rfl (hA _ wd_1_7) (hA _ wd_5_71) (by decide +kernel) ⟨Nat.le_of_ble_eq_true rfl, Nat.le_of_ble_eq_true rfl⟩, hA _ wd_5_73, hA _ ws_39⟩ ⟨bl, recv_X9 hE hG t_h0, fun U hU9 hW9 => ⟨rfl, by rw [hU9]; exact hG, hE.go hS hU9 hW9⟩⟩ rfl rfl hl.1 rfl (lv_room (Nat.le_of_ble_eq_true rfl)) dX9_readStatement_305 ⟨Nat.zero_le _, Nat.zero_le _⟩) hS (fun u2065 H locs w2066 hG hS => ?_)
                      obtain ⟨hf2067, w2066⟩ := w2066
                      have hk2068 : u2065 119 0 = (gs u2041 125 x2028.toInt.toNat x2043.toInt) 119 0 := hf2067 119 0 (by decide) (by decide) (by decide) (by decide)
                      have hk2068 : u2065 119 0 = u2041 119 0 := by rw [hk2068]; simp [gs]
                      have hk2069 : u2065 124 0 = (gs u2041 125 x2028.toInt.toNat x2043.toInt) 124 0 := hf2067 124 0 (by decide) (by decide) (by decide) (by decide)
                      have hk2069 : u2065 124 0 = u2041 124 0 := by rw [hk2069]; simp [gs]
                      have hk2070 : u2041 124 0 = (gs u2020 125 x1997.toInt.toNat x2022.toInt) 124 0 := hf2044 124 0 (by decide) (by decide) (by decide) (by decide) (by decide) (by decide)
                      have hk2070 : u2041 124 0 = u2020 124 0 := by rw [hk2070]; simp [gs]
                      have hk2071 : u2020 124 0 = (gs u1990 125 x1980.toInt.toNat x1992.toInt) 124 0 := hf2023 124 0 (by decide) (by decide) (by decide) (by decide) (by decide) (by decide)
                      have hk2071 : u2020 124 0 = u1990 124 0 := by rw [hk2071]; simp [gs]
                      have hk2072 : u1990 124 0 = u1971 124 0 := hf1993 124 0 (by decide) (by decide) (by decide) (by decide) (by decide) (by decide)
                      have hk2073 : u1971 124 0 = (gs (gs g 124 0 x1964.toInt) 125 x1956.toInt.toNat x1936.toInt) 124 0 := hf1973 124 0 (by decide) (by decide) (by decide) (by decide)
                      have hk2073 : u1971 124 0 = x1964.toInt := by rw [hk2073]; simp [gs]
                      exact W.vret hx hb hr (fun t ht hW => ⟨⟨u2065, rfl, ⟨(fun c j h115 h116 h117 h118 h119 h120 h124 h125 => by rw [hf2067 c j h115 h116 h117 h118, gs_c _ _ _ _ h125, hf2044 c j h115 h116 h117 h118 h119 h120, gs_c _ _ _ _ h125, hf2023 c j h115 h116 h117 h118 h119 h120, gs_c _ _ _ _ h125, hf1993 c j h115 h116 h117 h118 h119 h120, hf1973 c j h115 h116 h117 h118, gs_c _ _ _ _ h125, gs_c _ _ _ _ h124]), (by omega)⟩, ok1 ht hG⟩, hS.F ht⟩) hS.2.2 dX9_readStatement_308
                  · skip
                    refine lv_aload_n hx hb dX9_readStatement_284 rfl (lv_at hl 2 rfl) ?_
                    refine get_X9_17 hx hb hA hown hE hG t_h0 wd_4_147 dX9_readStatement_285 (fun x2074 h2075 => ?_)
                    replace h2075 : x2074.toInt = u2041 117 0 := by rw [h2075]; simp [gs]
                    refine ty_iconst hx hb (4) dX9_readStatement_288 (by decide) (fun x2077 h2078 => ?_)
                    refine ty_icmp_eq (tgt := 297) hx hb dX9_readStatement_289 (by decide) (fun c2079 => ?_) (fun c2079 => ?_)
                    · skip
                      refine lv_aload_n hx hb dX9_readStatement_297 rfl (lv_at hl 2 rfl) ?_
                      refine get_X9_19 hx hb hA hown hE hG t_h0 wd_4_149 dX9_readStatement_298 (fun x2080 h2081 => ?_)
                      replace h2081 : x2080.toInt = u2041 119 0 := by rw [h2081]; simp [gs]
                      refine ty_if_ne (tgt := 308) hx hb dX9_readStatement_301 (by decide) (fun c2083 => ?_) (fun c2083 => ?_)
                      · skip
                        have e2084 : (gs u2041 125 x2028.toInt.toNat x2043.toInt) 115 0 = u2041 115 0 := by simp [gs]
                        have e2085 : (gs u2041 125 x2028.toInt.toNat x2043.toInt) 116 0 = u2041 116 0 := by simp [gs]
                        have e2086 : (gs u2041 125 x2028.toInt.toNat x2043.toInt) 119 0 = u2041 119 0 := by simp [gs]
                        have hk2087 : u2041 124 0 = (gs u2020 125 x1997.toInt.toNat x2022.toInt) 124 0 := hf2044 124 0 (by decide) (by decide) (by decide) (by decide) (by decide) (by decide)
                        have hk2087 : u2041 124 0 = u2020 124 0 := by rw [hk2087]; simp [gs]
                        have hk2088 : u2020 124 0 = (gs u1990 125 x1980.toInt.toNat x1992.toInt) 124 0 := hf2023 124 0 (by decide) (by decide) (by decide) (by decide) (by decide) (by decide)
                        have hk2088 : u2020 124 0 = u1990 124 0 := by rw [hk2088]; simp [gs]
                        have hk2089 : u1990 124 0 = u1971 124 0 := hf1993 124 0 (by decide) (by decide) (by decide) (by decide) (by decide) (by decide)
                        have hk2090 : u1971 124 0 = (gs (gs g 124 0 x1964.toInt) 125 x1956.toInt.toNat x1936.toInt) 124 0 := hf1973 124 0 (by decide) (by decide) (by decide) (by decide)
                        have hk2090 : u1971 124 0 = x1964.toInt := by rw [hk2090]; simp [gs]
                        have e2091 : (gs u2041 125 x2028.toInt.toNat x2043.toInt) 124 0 = u2041 124 0 := by simp [gs]
                        exact W.vret hx hb hr (fun t ht hW => ⟨⟨(gs u2041 125 x2028.toInt.toNat x2043.toInt), rfl, ⟨(fun c j h115 h116 h117 h118 h119 h120 h124 h125 => by rw [gs_c _ _ _ _ h125, hf2044 c j h115 h116 h117 h118 h119 h120, gs_c _ _ _ _ h125, hf2023 c j h115 h116 h117 h118 h119 h120, gs_c _ _ _ _ h125, hf1993 c j h115 h116 h117 h118 h119 h120, hf1973 c j h115 h116 h117 h118, gs_c _ _ _ _ h125, gs_c _ _ _ _ h124]), (by omega)⟩, ok1 ht hG⟩, hS.F ht⟩) hS.2.2 dX9_readStatement_308
                      · skip
                        refine lv_aload_n hx hb dX9_readStatement_304 rfl (lv_at hl 2 rfl) ?_
                        have hk2092 : u2041 114 0 = (gs u2020 125 x1997.toInt.toNat x2022.toInt) 114 0 := hf2044 114 0 (by decide) (by decide) (by decide) (by decide) (by decide) (by decide)
                        have hk2092 : u2041 114 0 = u2020 114 0 := by rw [hk2092]; simp [gs]
                        have e2093 : (gs u2041 125 x2028.toInt.toNat x2043.toInt) 114 0 = u2041 114 0 := by simp [gs]
                        have e2094 : (gs u2041 125 x2028.toInt.toNat x2043.toInt) 115 0 = u2041 115 0 := by simp [gs]
                        have e2095 : (gs u2041 125 x2028.toInt.toNat x2043.toInt) 114 0 = u2041 114 0 := by simp [gs]
                        refine cV (va_runV (C := RX9) (As := []) (rest := []) ⟨hx, hb, hml, hown, hA⟩ (k_X9_next l dC dI dA sz X Γ hU (gs u2041 125 x2028.toInt.toNat x2043.toInt) h0 t_h0   (by omega)) ⟨callB_of 0 hA (al_A wd_5_74) rfl rfl rfl (hA _ wd_1_7) (hA _ wd_5_71) (by decide +kernel) ⟨Nat.le_of_ble_eq_true rfl, Nat.le_of_ble_eq_true rfl⟩, hA _ wd_5_73, hA _ ws_39⟩ ⟨bl, recv_X9 hE hG t_h0, fun U hU9 hW9 => ⟨rfl, by rw [hU9]; exact hG, hE.go hS hU9 hW9⟩⟩ rfl rfl hl.1 rfl (lv_room (Nat.le_of_ble_eq_true rfl)) dX9_readStatement_305 ⟨Nat.zero_le _, Nat.zero_le _⟩) hS (fun u2096 H locs w2097 hG hS => ?_)
                        obtain ⟨hf2098, w2097⟩ := w2097
                        have hk2099 : u2096 119 0 = (gs u2041 125 x2028.toInt.toNat x2043.toInt) 119 0 := hf2098 119 0 (by decide) (by decide) (by decide) (by decide)
                        have hk2099 : u2096 119 0 = u2041 119 0 := by rw [hk2099]; simp [gs]
                        have hk2100 : u2096 124 0 = (gs u2041 125 x2028.toInt.toNat x2043.toInt) 124 0 := hf2098 124 0 (by decide) (by decide) (by decide) (by decide)
                        have hk2100 : u2096 124 0 = u2041 124 0 := by rw [hk2100]; simp [gs]
                        have hk2101 : u2041 124 0 = (gs u2020 125 x1997.toInt.toNat x2022.toInt) 124 0 := hf2044 124 0 (by decide) (by decide) (by decide) (by decide) (by decide) (by decide)
                        have hk2101 : u2041 124 0 = u2020 124 0 := by rw [hk2101]; simp [gs]
                        have hk2102 : u2020 124 0 = (gs u1990 125 x1980.toInt.toNat x1992.toInt) 124 0 := hf2023 124 0 (by decide) (by decide) (by decide) (by decide) (by decide) (by decide)
                        have hk2102 : u2020 124 0 = u1990 124 0 := by rw [hk2102]; simp [gs]
                        have hk2103 : u1990 124 0 = u1971 124 0 := hf1993 124 0 (by decide) (by decide) (by decide) (by decide) (by decide) (by decide)
                        have hk2104 : u1971 124 0 = (gs (gs g 124 0 x1964.toInt) 125 x1956.toInt.toNat x1936.toInt) 124 0 := hf1973 124 0 (by decide) (by decide) (by decide) (by decide)
                        have hk2104 : u1971 124 0 = x1964.toInt := by rw [hk2104]; simp [gs]
                        exact W.vret hx hb hr (fun t ht hW => ⟨⟨u2096, rfl, ⟨(fun c j h115 h116 h117 h118 h119 h120 h124 h125 => by rw [hf2098 c j h115 h116 h117 h118, gs_c _ _ _ _ h125, hf2044 c j h115 h116 h117 h118 h119 h120, gs_c _ _ _ _ h125, hf2023 c j h115 h116 h117 h118 h119 h120, gs_c _ _ _ _ h125, hf1993 c j h115 h116 h117 h118 h119 h120, hf1973 c j h115 h116 h117 h118, gs_c _ _ _ _ h125, gs_c _ _ _ _ h124]), (by omega)⟩, ok1 ht hG⟩, hS.F ht⟩) hS.2.2 dX9_readStatement_308
                    · skip
                      refine lv_aload_n hx hb dX9_readStatement_292 rfl (lv_at hl 2 rfl) ?_
                      refine ty_iconst hx hb (1) dX9_readStatement_293 (by decide) (fun x2105 h2106 => ?_)
                      have e2107 : (gs u2041 125 x2028.toInt.toNat x2043.toInt) 119 0 = u2041 119 0 := by simp [gs]
                      have e2108 : (gs u2041 125 x2028.toInt.toNat x2043.toInt) 119 0 = u2041 119 0 := by simp [gs]
                      refine cV (va_runV (C := RX9) (As := [.int x2105]) (rest := []) ⟨hx, hb, hml, hown, hA⟩ (k_X9_fails l dC dI dA sz X Γ hU (gs u2041 125 x2028.toInt.toNat x2043.toInt) h0 t_h0 x2105   ) ⟨callB_of 1 hA (al_A wd_5_102) rfl rfl rfl (hA _ wd_1_7) (hA _ wd_5_99) (by decide +kernel) ⟨Nat.le_of_ble_eq_true rfl, Nat.le_of_ble_eq_true rfl⟩, hA _ wd_5_101, hA _ ws_43⟩ ⟨bl, recv_X9 hE hG t_h0, fun U hU9 hW9 => ⟨rfl, by rw [hU9]; exact hG, hE.go hS hU9 hW9⟩⟩ rfl rfl hl.1 rfl (lv_room (Nat.le_of_ble_eq_true rfl)) dX9_readStatement_294 ⟨Nat.zero_le _, Nat.zero_le _⟩) hS (fun u2109 H locs w2110 hG hS => ?_)
                      obtain ⟨hf2111, w2110⟩ := w2110
                      refine lv_aload_n hx hb dX9_readStatement_297 rfl (lv_at hl 2 rfl) ?_
                      refine get_X9_19 hx hb hA hown hE hG t_h0 wd_4_149 dX9_readStatement_298 (fun x2112 h2113 => ?_)
                      refine ty_if_ne (tgt := 308) hx hb dX9_readStatement_301 (by decide) (fun c2115 => ?_) (fun c2115 => ?_)
                      · skip
                        have hk2116 : u2109 115 0 = (gs u2041 125 x2028.toInt.toNat x2043.toInt) 115 0 := hf2111 115 0 (by decide) (by decide)
                        have hk2116 : u2109 115 0 = u2041 115 0 := by rw [hk2116]; simp [gs]
                        have hk2117 : u2109 116 0 = (gs u2041 125 x2028.toInt.toNat x2043.toInt) 116 0 := hf2111 116 0 (by decide) (by decide)
                        have hk2117 : u2109 116 0 = u2041 116 0 := by rw [hk2117]; simp [gs]
                        have hk2118 : u2109 124 0 = (gs u2041 125 x2028.toInt.toNat x2043.toInt) 124 0 := hf2111 124 0 (by decide) (by decide)
                        have hk2118 : u2109 124 0 = u2041 124 0 := by rw [hk2118]; simp [gs]
                        have hk2119 : u2041 124 0 = (gs u2020 125 x1997.toInt.toNat x2022.toInt) 124 0 := hf2044 124 0 (by decide) (by decide) (by decide) (by decide) (by decide) (by decide)
                        have hk2119 : u2041 124 0 = u2020 124 0 := by rw [hk2119]; simp [gs]
                        have hk2120 : u2020 124 0 = (gs u1990 125 x1980.toInt.toNat x1992.toInt) 124 0 := hf2023 124 0 (by decide) (by decide) (by decide) (by decide) (by decide) (by decide)
                        have hk2120 : u2020 124 0 = u1990 124 0 := by rw [hk2120]; simp [gs]
                        have hk2121 : u1990 124 0 = u1971 124 0 := hf1993 124 0 (by decide) (by decide) (by decide) (by decide) (by decide) (by decide)
                        have hk2122 : u1971 124 0 = (gs (gs g 124 0 x1964.toInt) 125 x1956.toInt.toNat x1936.toInt) 124 0 := hf1973 124 0 (by decide) (by decide) (by decide) (by decide)
                        have hk2122 : u1971 124 0 = x1964.toInt := by rw [hk2122]; simp [gs]
                        exact W.vret hx hb hr (fun t ht hW => ⟨⟨u2109, rfl, ⟨(fun c j h115 h116 h117 h118 h119 h120 h124 h125 => by rw [hf2111 c j h119 h120, gs_c _ _ _ _ h125, hf2044 c j h115 h116 h117 h118 h119 h120, gs_c _ _ _ _ h125, hf2023 c j h115 h116 h117 h118 h119 h120, gs_c _ _ _ _ h125, hf1993 c j h115 h116 h117 h118 h119 h120, hf1973 c j h115 h116 h117 h118, gs_c _ _ _ _ h125, gs_c _ _ _ _ h124]), (by omega)⟩, ok1 ht hG⟩, hS.F ht⟩) hS.2.2 dX9_readStatement_308
                      · skip
                        refine lv_aload_n hx hb dX9_readStatement_304 rfl (lv_at hl 2 rfl) ?_
                        have hk2123 : u2109 114 0 = (gs u2041 125 x2028.toInt.toNat x2043.toInt) 114 0 := hf2111 114 0 (by decide) (by decide)
                        have hk2123 : u2109 114 0 = u2041 114 0 := by rw [hk2123]; simp [gs]
                        have hk2124 : u2041 114 0 = (gs u2020 125 x1997.toInt.toNat x2022.toInt) 114 0 := hf2044 114 0 (by decide) (by decide) (by decide) (by decide) (by decide) (by decide)
                        have hk2124 : u2041 114 0 = u2020 114 0 := by rw [hk2124]; simp [gs]
                        have hk2125 : u2109 115 0 = (gs u2041 125 x2028.toInt.toNat x2043.toInt) 115 0 := hf2111 115 0 (by decide) (by decide)
                        have hk2125 : u2109 115 0 = u2041 115 0 := by rw [hk2125]; simp [gs]
                        refine cV (va_runV (C := RX9) (As := []) (rest := []) ⟨hx, hb, hml, hown, hA⟩ (k_X9_next l dC dI dA sz X Γ hU u2109 h0 t_h0   (by omega)) ⟨callB_of 0 hA (al_A wd_5_74) rfl rfl rfl (hA _ wd_1_7) (hA _ wd_5_71) (by decide +kernel) ⟨Nat.le_of_ble_eq_true rfl, Nat.le_of_ble_eq_true rfl⟩, hA _ wd_5_73, hA _ ws_39⟩ ⟨bl, recv_X9 hE hG t_h0, fun U hU9 hW9 => ⟨rfl, by rw [hU9]; exact hG, hE.go hS hU9 hW9⟩⟩ rfl rfl hl.1 rfl (lv_room (Nat.le_of_ble_eq_true rfl)) dX9_readStatement_305 ⟨Nat.zero_le _, Nat.zero_le _⟩) hS (fun u2126 H locs w2127 hG hS => ?_)
                        obtain ⟨hf2128, w2127⟩ := w2127
                        have hk2129 : u2126 119 0 = u2109 119 0 := hf2128 119 0 (by decide) (by decide) (by decide) (by decide)
                        have hk2130 : u2126 124 0 = u2109 124 0 := hf2128 124 0 (by decide) (by decide) (by decide) (by decide)
                        have hk2131 : u2109 124 0 = (gs u2041 125 x2028.toInt.toNat x2043.toInt) 124 0 := hf2111 124 0 (by decide) (by decide)
                        have hk2131 : u2109 124 0 = u2041 124 0 := by rw [hk2131]; simp [gs]
                        have hk2132 : u2041 124 0 = (gs u2020 125 x1997.toInt.toNat x2022.toInt) 124 0 := hf2044 124 0 (by decide) (by decide) (by decide) (by decide) (by decide) (by decide)
                        have hk2132 : u2041 124 0 = u2020 124 0 := by rw [hk2132]; simp [gs]
                        have hk2133 : u2020 124 0 = (gs u1990 125 x1980.toInt.toNat x1992.toInt) 124 0 := hf2023 124 0 (by decide) (by decide) (by decide) (by decide) (by decide) (by decide)
                        have hk2133 : u2020 124 0 = u1990 124 0 := by rw [hk2133]; simp [gs]
                        have hk2134 : u1990 124 0 = u1971 124 0 := hf1993 124 0 (by decide) (by decide) (by decide) (by decide) (by decide) (by decide)
                        have hk2135 : u1971 124 0 = (gs (gs g 124 0 x1964.toInt) 125 x1956.toInt.toNat x1936.toInt) 124 0 := hf1973 124 0 (by decide) (by decide) (by decide) (by decide)
                        have hk2135 : u1971 124 0 = x1964.toInt := by rw [hk2135]; simp [gs]
                        exact W.vret hx hb hr (fun t ht hW => ⟨⟨u2126, rfl, ⟨(fun c j h115 h116 h117 h118 h119 h120 h124 h125 => by rw [hf2128 c j h115 h116 h117 h118, hf2111 c j h119 h120, gs_c _ _ _ _ h125, hf2044 c j h115 h116 h117 h118 h119 h120, gs_c _ _ _ _ h125, hf2023 c j h115 h116 h117 h118 h119 h120, gs_c _ _ _ _ h125, hf1993 c j h115 h116 h117 h118 h119 h120, hf1973 c j h115 h116 h117 h118, gs_c _ _ _ _ h125, gs_c _ _ _ _ h124]), (by omega)⟩, ok1 ht hG⟩, hS.F ht⟩) hS.2.2 dX9_readStatement_308
          · exfalso; omega
        · skip
          exact W.vret hx hb hr (fun t ht hW => ⟨⟨g, rfl, ⟨(fun c j h115 h116 h117 h118 h119 h120 h124 h125 => by rfl), (by omega)⟩, ok1 ht hG⟩, hS.F ht⟩) hS.2.2 dX9_readStatement_88
      · skip
        refine lv_aload_n hx hb dX9_readStatement_76 rfl (lv_at hl 1 rfl) ?_
        refine ty_iconst hx hb (3) dX9_readStatement_77 (by decide) (fun x2136 h2137 => ?_)
        refine cV (va_runV (C := RX9) (As := [.int x2136]) (rest := []) ⟨hx, hb, hml, hown, hA⟩ (k_X9_fails l dC dI dA sz X Γ hU g h0 t_h0 x2136   ) ⟨callB_of 1 hA (al_A wd_5_102) rfl rfl rfl (hA _ wd_1_7) (hA _ wd_5_99) (by decide +kernel) ⟨Nat.le_of_ble_eq_true rfl, Nat.le_of_ble_eq_true rfl⟩, hA _ wd_5_101, hA _ ws_43⟩ ⟨bl, recv_X9 hE hG t_h0, fun U hU9 hW9 => ⟨rfl, by rw [hU9]; exact hG, hE.go hS hU9 hW9⟩⟩ rfl rfl hl.1 rfl (lv_room (Nat.le_of_ble_eq_true rfl)) dX9_readStatement_78 ⟨Nat.zero_le _, Nat.zero_le _⟩) hS (fun u2138 H locs w2139 hG hS => ?_)
        obtain ⟨hf2140, w2139⟩ := w2139
        refine lv_aload_n hx hb dX9_readStatement_81 rfl (lv_at hl 1 rfl) ?_
        refine get_X9_19 hx hb hA hown hE hG t_h0 wd_4_149 dX9_readStatement_82 (fun x2141 h2142 => ?_)
        refine ty_if_eq (tgt := 89) hx hb dX9_readStatement_85 (by decide) (fun c2144 => ?_) (fun c2144 => ?_)
        · skip
          refine ty_iconst hx hb (4) dX9_readStatement_89 (by decide) (fun x2145 h2146 => ?_)
          refine lv_aload_n hx hb dX9_readStatement_90 rfl (lv_at hl 1 rfl) ?_
          refine get_X9_24 hx hb hA hown hE hG t_h0 wd_4_154 dX9_readStatement_91 (fun x2147 h2148 => ?_)
          have hk2150 : u2138 124 0 = g 124 0 := hf2140 124 0 (by decide) (by decide)
          refine ty_imul hx hb dX9_readStatement_94 (fun x2151 h2152 => ?_)
          try have h2153 : x2151.toInt = 4 * x2147.toInt := ty_mull h2152 (by omega) (by omega) (by omega)
          refine lv_istore_n (lv' := [(2, .int x2151), (1, .int x1936), (0, .ref h0)]) hx hb dX9_readStatement_95 rfl hl (by decide) rfl (fun ls hl => ?_)
          refine lv_aload_n hx hb dX9_readStatement_96 rfl (lv_at hl 2 rfl) ?_
          refine lv_dup hx hb dX9_readStatement_97 rfl ?_
          refine get_X9_24 hx hb hA hown hE hG t_h0 wd_4_154 dX9_readStatement_98 (fun x2154 h2155 => ?_)
          refine ty_iconst hx hb (1) dX9_readStatement_101 (by decide) (fun x2157 h2158 => ?_)
          refine ty_iadd hx hb dX9_readStatement_102 (fun x2159 h2160 => ?_)
          try have h2161 : x2159.toInt = x2154.toInt + x2157.toInt := ty_add h2160 (by omega) (by omega)
          refine put_X9_24 hx hb hA hown hE hG hS hU t_h0 wd_4_154 dX9_readStatement_103 (fun H locs hG hS => ?_)
          refine lv_aload_n hx hb dX9_readStatement_106 rfl (lv_at hl 2 rfl) ?_
          refine get_X9_25 hx hb hA hown hE hG t_h0 wd_4_155 dX9_readStatement_107 (fun b2162 (t_b2162 : ty Γ b2162 125) => ?_)
          refine lv_iload_n hx hb dX9_readStatement_110 rfl (lv_at hl 0 rfl) ?_
          refine lv_iload_n hx hb dX9_readStatement_111 rfl (lv_at hl 1 rfl) ?_
          refine ast_mI hx hb hE hG hS hU 25 rfl (n := 120) rfl (lo := -2147483648) (hi := 2147483647) rfl rfl rfl t_b2162 (rgD _) (by omega) dX9_readStatement_112 (fun H locs hG hS => ?_)
          refine lv_aload_n hx hb dX9_readStatement_113 rfl (lv_at hl 2 rfl) ?_
          have hk2163 : u2138 114 0 = g 114 0 := hf2140 114 0 (by decide) (by decide)
          have e2164 : (gs (gs u2138 124 0 x2159.toInt) 125 x2151.toInt.toNat x1936.toInt) 114 0 = u2138 114 0 := by simp [gs]
          have hk2165 : u2138 115 0 = g 115 0 := hf2140 115 0 (by decide) (by decide)
          have e2166 : (gs (gs u2138 124 0 x2159.toInt) 125 x2151.toInt.toNat x1936.toInt) 115 0 = u2138 115 0 := by simp [gs]
          have e2167 : (gs (gs u2138 124 0 x2159.toInt) 125 x2151.toInt.toNat x1936.toInt) 114 0 = u2138 114 0 := by simp [gs]
          refine cV (va_runV (C := RX9) (As := []) (rest := []) ⟨hx, hb, hml, hown, hA⟩ (k_X9_next l dC dI dA sz X Γ hU (gs (gs u2138 124 0 x2159.toInt) 125 x2151.toInt.toNat x1936.toInt) h0 t_h0   (by omega)) ⟨callB_of 0 hA (al_A wd_5_74) rfl rfl rfl (hA _ wd_1_7) (hA _ wd_5_71) (by decide +kernel) ⟨Nat.le_of_ble_eq_true rfl, Nat.le_of_ble_eq_true rfl⟩, hA _ wd_5_73, hA _ ws_39⟩ ⟨bl, recv_X9 hE hG t_h0, fun U hU9 hW9 => ⟨rfl, by rw [hU9]; exact hG, hE.go hS hU9 hW9⟩⟩ rfl rfl hl.1 rfl (lv_room (Nat.le_of_ble_eq_true rfl)) dX9_readStatement_114 ⟨Nat.zero_le _, Nat.zero_le _⟩) hS (fun u2168 H locs w2169 hG hS => ?_)
          obtain ⟨hf2170, w2169⟩ := w2169
          refine lv_iload_n hx hb dX9_readStatement_117 rfl (lv_at hl 1 rfl) ?_
          refine ty_iconst hx hb (3) dX9_readStatement_118 (by decide) (fun x2171 h2172 => ?_)
          refine ty_icmp_ne (tgt := 177) hx hb dX9_readStatement_119 (by decide) (fun c2173 => ?_) (fun c2173 => ?_)
          · skip
            refine lv_aload_n hx hb dX9_readStatement_177 rfl (lv_at hl 2 rfl) ?_
            refine get_X9_25 hx hb hA hown hE hG t_h0 wd_4_155 dX9_readStatement_178 (fun b2174 (t_b2174 : ty Γ b2174 125) => ?_)
            refine lv_iload_n hx hb dX9_readStatement_181 rfl (lv_at hl 0 rfl) ?_
            refine ty_iconst hx hb (1) dX9_readStatement_182 (by decide) (fun x2175 h2176 => ?_)
            refine ty_iadd hx hb dX9_readStatement_183 (fun x2177 h2178 => ?_)
            try have h2179 : x2177.toInt = x2151.toInt + x2175.toInt := ty_add h2178 (by omega) (by omega)
            refine lv_iload_n hx hb dX9_readStatement_184 rfl (lv_at hl 1 rfl) ?_
            refine ty_if_ne (tgt := 198) hx hb dX9_readStatement_185 (by decide) (fun c2180 => ?_) (fun c2180 => ?_)
            · exfalso; omega
            · skip
              refine lv_aload_n hx hb dX9_readStatement_188 rfl (lv_at hl 2 rfl) ?_
              refine ty_iconst hx hb (0) dX9_readStatement_189 (by decide) (fun x2181 h2182 => ?_)
              refine ty_bipush hx hb (52) dX9_readStatement_190 (by decide) (fun x2183 h2184 => ?_)
              have hk2185 : u2168 114 0 = (gs (gs u2138 124 0 x2159.toInt) 125 x2151.toInt.toNat x1936.toInt) 114 0 := hf2170 114 0 (by decide) (by decide) (by decide) (by decide)
              have hk2185 : u2168 114 0 = u2138 114 0 := by rw [hk2185]; simp [gs]
              have hk2186 : u2168 119 0 = (gs (gs u2138 124 0 x2159.toInt) 125 x2151.toInt.toNat x1936.toInt) 119 0 := hf2170 119 0 (by decide) (by decide) (by decide) (by decide)
              have hk2186 : u2168 119 0 = u2138 119 0 := by rw [hk2186]; simp [gs]
              refine cI (va_runV (C := RX9) (As := [.int x2181, .int x2183]) (rest := [.int x2177, .ref b2174]) ⟨hx, hb, hml, hown, hA⟩ (k_X9_number l dC dI dA sz X Γ hU u2168 h0 t_h0 x2181 x2183   (by omega) (by omega)) ⟨callB_of 2 hA (al_A wd_5_108) rfl rfl rfl (hA _ wd_1_7) (hA _ wd_5_105) (by decide +kernel) ⟨Nat.le_of_ble_eq_true rfl, Nat.le_of_ble_eq_true rfl⟩, hA _ wd_5_107, hA _ ws_44⟩ ⟨bl, recv_X9 hE hG t_h0, fun U hU9 hW9 => ⟨rfl, by rw [hU9]; exact hG, hE.go hS hU9 hW9⟩⟩ rfl rfl hl.1 rfl (lv_room (Nat.le_of_ble_eq_true rfl)) dX9_readStatement_192 ⟨Nat.zero_le _, Nat.zero_le _⟩) hS (fun x2189 u2187 H locs w2188 hG hS => ?_)
              obtain ⟨hf2190, w2188⟩ := w2188
              refine lv_goto (tgt := 219) hx hb dX9_readStatement_195 (by decide) ?_
              refine ast_mI hx hb hE hG hS hU 25 rfl (n := 120) rfl (lo := -2147483648) (hi := 2147483647) rfl rfl rfl t_b2174 (rgD _) (by omega) dX9_readStatement_219 (fun H locs hG hS => ?_)
              refine lv_aload_n hx hb dX9_readStatement_220 rfl (lv_at hl 2 rfl) ?_
              refine get_X9_25 hx hb hA hown hE hG t_h0 wd_4_155 dX9_readStatement_221 (fun b2191 (t_b2191 : ty Γ b2191 125) => ?_)
              refine lv_iload_n hx hb dX9_readStatement_224 rfl (lv_at hl 0 rfl) ?_
              refine ty_iconst hx hb (2) dX9_readStatement_225 (by decide) (fun x2192 h2193 => ?_)
              refine ty_iadd hx hb dX9_readStatement_226 (fun x2194 h2195 => ?_)
              try have h2196 : x2194.toInt = x2151.toInt + x2192.toInt := ty_add h2195 (by omega) (by omega)
              refine lv_iload_n hx hb dX9_readStatement_227 rfl (lv_at hl 1 rfl) ?_
              refine ty_if_ne (tgt := 248) hx hb dX9_readStatement_228 (by decide) (fun c2197 => ?_) (fun c2197 => ?_)
              · exfalso; omega
              · skip
                refine lv_aload_n hx hb dX9_readStatement_231 rfl (lv_at hl 2 rfl) ?_
                refine lv_aload_n hx hb dX9_readStatement_232 rfl (lv_at hl 2 rfl) ?_
                refine get_X9_25 hx hb hA hown hE hG t_h0 wd_4_155 dX9_readStatement_233 (fun b2198 (t_b2198 : ty Γ b2198 125) => ?_)
                refine lv_iload_n hx hb dX9_readStatement_236 rfl (lv_at hl 0 rfl) ?_
                refine ty_iconst hx hb (1) dX9_readStatement_237 (by decide) (fun x2199 h2200 => ?_)
                refine ty_iadd hx hb dX9_readStatement_238 (fun x2201 h2202 => ?_)
                try have h2203 : x2201.toInt = x2151.toInt + x2199.toInt := ty_add h2202 (by omega) (by omega)
                refine ald_mI hx hb hE hG 25 rfl (n := 120) rfl (lo := -2147483648) (hi := 2147483647) rfl rfl t_b2198 (by omega) dX9_readStatement_239 (fun j2205 x2204 h2206 h2207 h2208 => ?_)
                clear h2208
                refine ty_bipush hx hb (52) dX9_readStatement_240 (by decide) (fun x2209 h2210 => ?_)
                have hk2211 : u2187 114 0 = u2168 114 0 := hf2190 114 0 (by decide) (by decide) (by decide) (by decide) (by decide) (by decide)
                have e2212 : (gs u2187 125 x2177.toInt.toNat x2189.toInt) 114 0 = u2187 114 0 := by simp [gs]
                have e2213 : (gs u2187 125 x2177.toInt.toNat x2189.toInt) 115 0 = u2187 115 0 := by simp [gs]
                have e2214 : (gs u2187 125 x2177.toInt.toNat x2189.toInt) 116 0 = u2187 116 0 := by simp [gs]
                have e2215 : (gs u2187 125 x2177.toInt.toNat x2189.toInt) 119 0 = u2187 119 0 := by simp [gs]
                have e2216 : (gs u2187 125 x2177.toInt.toNat x2189.toInt) 114 0 = u2187 114 0 := by simp [gs]
                refine cI (va_runV (C := RX9) (As := [.int x2204, .int x2209]) (rest := [.int x2194, .ref b2191]) ⟨hx, hb, hml, hown, hA⟩ (k_X9_number l dC dI dA sz X Γ hU (gs u2187 125 x2177.toInt.toNat x2189.toInt) h0 t_h0 x2204 x2209   (by omega) (by omega)) ⟨callB_of 2 hA (al_A wd_5_108) rfl rfl rfl (hA _ wd_1_7) (hA _ wd_5_105) (by decide +kernel) ⟨Nat.le_of_ble_eq_true rfl, Nat.le_of_ble_eq_true rfl⟩, hA _ wd_5_107, hA _ ws_44⟩ ⟨bl, recv_X9 hE hG t_h0, fun U hU9 hW9 => ⟨rfl, by rw [hU9]; exact hG, hE.go hS hU9 hW9⟩⟩ rfl rfl hl.1 rfl (lv_room (Nat.le_of_ble_eq_true rfl)) dX9_readStatement_242 ⟨Nat.zero_le _, Nat.zero_le _⟩) hS (fun x2219 u2217 H locs w2218 hG hS => ?_)
                obtain ⟨hf2220, w2218⟩ := w2218
                refine lv_goto (tgt := 256) hx hb dX9_readStatement_245 (by decide) ?_
                refine ast_mI hx hb hE hG hS hU 25 rfl (n := 120) rfl (lo := -2147483648) (hi := 2147483647) rfl rfl rfl t_b2191 (rgD _) (by omega) dX9_readStatement_256 (fun H locs hG hS => ?_)
                refine lv_iload_n hx hb dX9_readStatement_257 rfl (lv_at hl 1 rfl) ?_
                refine ty_if_ne (tgt := 277) hx hb dX9_readStatement_258 (by decide) (fun c2221 => ?_) (fun c2221 => ?_)
                · exfalso; omega
                · skip
                  refine lv_aload_n hx hb dX9_readStatement_261 rfl (lv_at hl 2 rfl) ?_
                  refine get_X9_25 hx hb hA hown hE hG t_h0 wd_4_155 dX9_readStatement_262 (fun b2222 (t_b2222 : ty Γ b2222 125) => ?_)
                  refine lv_iload_n hx hb dX9_readStatement_265 rfl (lv_at hl 0 rfl) ?_
                  refine ty_iconst hx hb (3) dX9_readStatement_266 (by decide) (fun x2223 h2224 => ?_)
                  refine ty_iadd hx hb dX9_readStatement_267 (fun x2225 h2226 => ?_)
                  try have h2227 : x2225.toInt = x2151.toInt + x2223.toInt := ty_add h2226 (by omega) (by omega)
                  refine lv_aload_n hx hb dX9_readStatement_268 rfl (lv_at hl 2 rfl) ?_
                  refine ty_iconst hx hb (0) dX9_readStatement_269 (by decide) (fun x2228 h2229 => ?_)
                  refine ty_sipush hx hb (9999) dX9_readStatement_270 (by decide) (fun x2230 h2231 => ?_)
                  have hk2232 : u2217 114 0 = (gs u2187 125 x2177.toInt.toNat x2189.toInt) 114 0 := hf2220 114 0 (by decide) (by decide) (by decide) (by decide) (by decide) (by decide)
                  have hk2232 : u2217 114 0 = u2187 114 0 := by rw [hk2232]; simp [gs]
                  have e2233 : (gs u2217 125 x2194.toInt.toNat x2219.toInt) 114 0 = u2217 114 0 := by simp [gs]
                  have e2234 : (gs u2217 125 x2194.toInt.toNat x2219.toInt) 115 0 = u2217 115 0 := by simp [gs]
                  have e2235 : (gs u2217 125 x2194.toInt.toNat x2219.toInt) 116 0 = u2217 116 0 := by simp [gs]
                  have e2236 : (gs u2217 125 x2194.toInt.toNat x2219.toInt) 119 0 = u2217 119 0 := by simp [gs]
                  have e2237 : (gs u2217 125 x2194.toInt.toNat x2219.toInt) 114 0 = u2217 114 0 := by simp [gs]
                  refine cI (va_runV (C := RX9) (As := [.int x2228, .int x2230]) (rest := [.int x2225, .ref b2222]) ⟨hx, hb, hml, hown, hA⟩ (k_X9_number l dC dI dA sz X Γ hU (gs u2217 125 x2194.toInt.toNat x2219.toInt) h0 t_h0 x2228 x2230   (by omega) (by omega)) ⟨callB_of 2 hA (al_A wd_5_108) rfl rfl rfl (hA _ wd_1_7) (hA _ wd_5_105) (by decide +kernel) ⟨Nat.le_of_ble_eq_true rfl, Nat.le_of_ble_eq_true rfl⟩, hA _ wd_5_107, hA _ ws_44⟩ ⟨bl, recv_X9 hE hG t_h0, fun U hU9 hW9 => ⟨rfl, by rw [hU9]; exact hG, hE.go hS hU9 hW9⟩⟩ rfl rfl hl.1 rfl (lv_room (Nat.le_of_ble_eq_true rfl)) dX9_readStatement_273 ⟨Nat.zero_le _, Nat.zero_le _⟩) hS (fun x2240 u2238 H locs w2239 hG hS => ?_)
                  obtain ⟨hf2241, w2239⟩ := w2239
                  refine ast_mI hx hb hE hG hS hU 25 rfl (n := 120) rfl (lo := -2147483648) (hi := 2147483647) rfl rfl rfl t_b2222 (rgD _) (by omega) dX9_readStatement_276 (fun H locs hG hS => ?_)
                  refine lv_aload_n hx hb dX9_readStatement_277 rfl (lv_at hl 2 rfl) ?_
                  refine get_X9_19 hx hb hA hown hE hG t_h0 wd_4_149 dX9_readStatement_278 (fun x2242 h2243 => ?_)
                  replace h2243 : x2242.toInt = u2238 119 0 := by rw [h2243]; simp [gs]
                  refine ty_if_ne (tgt := 297) hx hb dX9_readStatement_281 (by decide) (fun c2245 => ?_) (fun c2245 => ?_)
                  · skip
                    refine lv_aload_n hx hb dX9_readStatement_297 rfl (lv_at hl 2 rfl) ?_
                    refine get_X9_19 hx hb hA hown hE hG t_h0 wd_4_149 dX9_readStatement_298 (fun x2246 h2247 => ?_)
                    replace h2247 : x2246.toInt = u2238 119 0 := by rw [h2247]; simp [gs]
                    refine ty_if_ne (tgt := 308) hx hb dX9_readStatement_301 (by decide) (fun c2249 => ?_) (fun c2249 => ?_)
                    · skip
                      have e2250 : (gs u2238 125 x2225.toInt.toNat x2240.toInt) 115 0 = u2238 115 0 := by simp [gs]
                      have e2251 : (gs u2238 125 x2225.toInt.toNat x2240.toInt) 116 0 = u2238 116 0 := by simp [gs]
                      have e2252 : (gs u2238 125 x2225.toInt.toNat x2240.toInt) 119 0 = u2238 119 0 := by simp [gs]
                      have hk2253 : u2238 124 0 = (gs u2217 125 x2194.toInt.toNat x2219.toInt) 124 0 := hf2241 124 0 (by decide) (by decide) (by decide) (by decide) (by decide) (by decide)
                      have hk2253 : u2238 124 0 = u2217 124 0 := by rw [hk2253]; simp [gs]
                      have hk2254 : u2217 124 0 = (gs u2187 125 x2177.toInt.toNat x2189.toInt) 124 0 := hf2220 124 0 (by decide) (by decide) (by decide) (by decide) (by decide) (by decide)
                      have hk2254 : u2217 124 0 = u2187 124 0 := by rw [hk2254]; simp [gs]
                      have hk2255 : u2187 124 0 = u2168 124 0 := hf2190 124 0 (by decide) (by decide) (by decide) (by decide) (by decide) (by decide)
                      have hk2256 : u2168 124 0 = (gs (gs u2138 124 0 x2159.toInt) 125 x2151.toInt.toNat x1936.toInt) 124 0 := hf2170 124 0 (by decide) (by decide) (by decide) (by decide)
                      have hk2256 : u2168 124 0 = x2159.toInt := by rw [hk2256]; simp [gs]
                      have e2257 : (gs u2238 125 x2225.toInt.toNat x2240.toInt) 124 0 = u2238 124 0 := by simp [gs]
                      exact W.vret hx hb hr (fun t ht hW => ⟨⟨(gs u2238 125 x2225.toInt.toNat x2240.toInt), rfl, ⟨(fun c j h115 h116 h117 h118 h119 h120 h124 h125 => by rw [gs_c _ _ _ _ h125, hf2241 c j h115 h116 h117 h118 h119 h120, gs_c _ _ _ _ h125, hf2220 c j h115 h116 h117 h118 h119 h120, gs_c _ _ _ _ h125, hf2190 c j h115 h116 h117 h118 h119 h120, hf2170 c j h115 h116 h117 h118, gs_c _ _ _ _ h125, gs_c _ _ _ _ h124, hf2140 c j h119 h120]), (by omega)⟩, ok1 ht hG⟩, hS.F ht⟩) hS.2.2 dX9_readStatement_308
                    · skip
                      refine lv_aload_n hx hb dX9_readStatement_304 rfl (lv_at hl 2 rfl) ?_
                      have hk2258 : u2238 114 0 = (gs u2217 125 x2194.toInt.toNat x2219.toInt) 114 0 := hf2241 114 0 (by decide) (by decide) (by decide) (by decide) (by decide) (by decide)
                      have hk2258 : u2238 114 0 = u2217 114 0 := by rw [hk2258]; simp [gs]
                      have e2259 : (gs u2238 125 x2225.toInt.toNat x2240.toInt) 114 0 = u2238 114 0 := by simp [gs]
                      have e2260 : (gs u2238 125 x2225.toInt.toNat x2240.toInt) 115 0 = u2238 115 0 := by simp [gs]
                      have e2261 : (gs u2238 125 x2225.toInt.toNat x2240.toInt) 114 0 = u2238 114 0 := by simp [gs]
                      refine cV (va_runV (C := RX9) (As := []) (rest := []) ⟨hx, hb, hml, hown, hA⟩ (k_X9_next l dC dI dA sz X Γ hU (gs u2238 125 x2225.toInt.toNat x2240.toInt) h0 t_h0   (by omega)) ⟨callB_of 0 hA (al_A wd_5_74) rfl rfl rfl (hA _ wd_1_7) (hA _ wd_5_71) (by decide +kernel) ⟨Nat.le_of_ble_eq_true rfl, Nat.le_of_ble_eq_true rfl⟩, hA _ wd_5_73, hA _ ws_39⟩ ⟨bl, recv_X9 hE hG t_h0, fun U hU9 hW9 => ⟨rfl, by rw [hU9]; exact hG, hE.go hS hU9 hW9⟩⟩ rfl rfl hl.1 rfl (lv_room (Nat.le_of_ble_eq_true rfl)) dX9_readStatement_305 ⟨Nat.zero_le _, Nat.zero_le _⟩) hS (fun u2262 H locs w2263 hG hS => ?_)
                      obtain ⟨hf2264, w2263⟩ := w2263
                      have hk2265 : u2262 119 0 = (gs u2238 125 x2225.toInt.toNat x2240.toInt) 119 0 := hf2264 119 0 (by decide) (by decide) (by decide) (by decide)
                      have hk2265 : u2262 119 0 = u2238 119 0 := by rw [hk2265]; simp [gs]
                      have hk2266 : u2262 124 0 = (gs u2238 125 x2225.toInt.toNat x2240.toInt) 124 0 := hf2264 124 0 (by decide) (by decide) (by decide) (by decide)
                      have hk2266 : u2262 124 0 = u2238 124 0 := by rw [hk2266]; simp [gs]
                      have hk2267 : u2238 124 0 = (gs u2217 125 x2194.toInt.toNat x2219.toInt) 124 0 := hf2241 124 0 (by decide) (by decide) (by decide) (by decide) (by decide) (by decide)
                      have hk2267 : u2238 124 0 = u2217 124 0 := by rw [hk2267]; simp [gs]
                      have hk2268 : u2217 124 0 = (gs u2187 125 x2177.toInt.toNat x2189.toInt) 124 0 := hf2220 124 0 (by decide) (by decide) (by decide) (by decide) (by decide) (by decide)
                      have hk2268 : u2217 124 0 = u2187 124 0 := by rw [hk2268]; simp [gs]
                      have hk2269 : u2187 124 0 = u2168 124 0 := hf2190 124 0 (by decide) (by decide) (by decide) (by decide) (by decide) (by decide)
                      have hk2270 : u2168 124 0 = (gs (gs u2138 124 0 x2159.toInt) 125 x2151.toInt.toNat x1936.toInt) 124 0 := hf2170 124 0 (by decide) (by decide) (by decide) (by decide)
                      have hk2270 : u2168 124 0 = x2159.toInt := by rw [hk2270]; simp [gs]
                      exact W.vret hx hb hr (fun t ht hW => ⟨⟨u2262, rfl, ⟨(fun c j h115 h116 h117 h118 h119 h120 h124 h125 => by rw [hf2264 c j h115 h116 h117 h118, gs_c _ _ _ _ h125, hf2241 c j h115 h116 h117 h118 h119 h120, gs_c _ _ _ _ h125, hf2220 c j h115 h116 h117 h118 h119 h120, gs_c _ _ _ _ h125, hf2190 c j h115 h116 h117 h118 h119 h120, hf2170 c j h115 h116 h117 h118, gs_c _ _ _ _ h125, gs_c _ _ _ _ h124, hf2140 c j h119 h120]), (by omega)⟩, ok1 ht hG⟩, hS.F ht⟩) hS.2.2 dX9_readStatement_308
                  · skip
                    refine lv_aload_n hx hb dX9_readStatement_284 rfl (lv_at hl 2 rfl) ?_
                    refine get_X9_17 hx hb hA hown hE hG t_h0 wd_4_147 dX9_readStatement_285 (fun x2271 h2272 => ?_)
                    replace h2272 : x2271.toInt = u2238 117 0 := by rw [h2272]; simp [gs]
                    refine ty_iconst hx hb (4) dX9_readStatement_288 (by decide) (fun x2274 h2275 => ?_)
                    refine ty_icmp_eq (tgt := 297) hx hb dX9_readStatement_289 (by decide) (fun c2276 => ?_) (fun c2276 => ?_)
                    · skip
                      refine lv_aload_n hx hb dX9_readStatement_297 rfl (lv_at hl 2 rfl) ?_
                      refine get_X9_19 hx hb hA hown hE hG t_h0 wd_4_149 dX9_readStatement_298 (fun x2277 h2278 => ?_)
                      replace h2278 : x2277.toInt = u2238 119 0 := by rw [h2278]; simp [gs]
                      refine ty_if_ne (tgt := 308) hx hb dX9_readStatement_301 (by decide) (fun c2280 => ?_) (fun c2280 => ?_)
                      · skip
                        have e2281 : (gs u2238 125 x2225.toInt.toNat x2240.toInt) 115 0 = u2238 115 0 := by simp [gs]
                        have e2282 : (gs u2238 125 x2225.toInt.toNat x2240.toInt) 116 0 = u2238 116 0 := by simp [gs]
                        have e2283 : (gs u2238 125 x2225.toInt.toNat x2240.toInt) 119 0 = u2238 119 0 := by simp [gs]
                        have hk2284 : u2238 124 0 = (gs u2217 125 x2194.toInt.toNat x2219.toInt) 124 0 := hf2241 124 0 (by decide) (by decide) (by decide) (by decide) (by decide) (by decide)
                        have hk2284 : u2238 124 0 = u2217 124 0 := by rw [hk2284]; simp [gs]
                        have hk2285 : u2217 124 0 = (gs u2187 125 x2177.toInt.toNat x2189.toInt) 124 0 := hf2220 124 0 (by decide) (by decide) (by decide) (by decide) (by decide) (by decide)
                        have hk2285 : u2217 124 0 = u2187 124 0 := by rw [hk2285]; simp [gs]
                        have hk2286 : u2187 124 0 = u2168 124 0 := hf2190 124 0 (by decide) (by decide) (by decide) (by decide) (by decide) (by decide)
                        have hk2287 : u2168 124 0 = (gs (gs u2138 124 0 x2159.toInt) 125 x2151.toInt.toNat x1936.toInt) 124 0 := hf2170 124 0 (by decide) (by decide) (by decide) (by decide)
                        have hk2287 : u2168 124 0 = x2159.toInt := by rw [hk2287]; simp [gs]
                        have e2288 : (gs u2238 125 x2225.toInt.toNat x2240.toInt) 124 0 = u2238 124 0 := by simp [gs]
                        exact W.vret hx hb hr (fun t ht hW => ⟨⟨(gs u2238 125 x2225.toInt.toNat x2240.toInt), rfl, ⟨(fun c j h115 h116 h117 h118 h119 h120 h124 h125 => by rw [gs_c _ _ _ _ h125, hf2241 c j h115 h116 h117 h118 h119 h120, gs_c _ _ _ _ h125, hf2220 c j h115 h116 h117 h118 h119 h120, gs_c _ _ _ _ h125, hf2190 c j h115 h116 h117 h118 h119 h120, hf2170 c j h115 h116 h117 h118, gs_c _ _ _ _ h125, gs_c _ _ _ _ h124, hf2140 c j h119 h120]), (by omega)⟩, ok1 ht hG⟩, hS.F ht⟩) hS.2.2 dX9_readStatement_308
                      · skip
                        refine lv_aload_n hx hb dX9_readStatement_304 rfl (lv_at hl 2 rfl) ?_
                        have hk2289 : u2238 114 0 = (gs u2217 125 x2194.toInt.toNat x2219.toInt) 114 0 := hf2241 114 0 (by decide) (by decide) (by decide) (by decide) (by decide) (by decide)
                        have hk2289 : u2238 114 0 = u2217 114 0 := by rw [hk2289]; simp [gs]
                        have e2290 : (gs u2238 125 x2225.toInt.toNat x2240.toInt) 114 0 = u2238 114 0 := by simp [gs]
                        have e2291 : (gs u2238 125 x2225.toInt.toNat x2240.toInt) 115 0 = u2238 115 0 := by simp [gs]
                        have e2292 : (gs u2238 125 x2225.toInt.toNat x2240.toInt) 114 0 = u2238 114 0 := by simp [gs]
                        refine cV (va_runV (C := RX9) (As := []) (rest := []) ⟨hx, hb, hml, hown, hA⟩ (k_X9_next l dC dI dA sz X Γ hU (gs u2238 125 x2225.toInt.toNat x2240.toInt) h0 t_h0   (by omega)) ⟨callB_of 0 hA (al_A wd_5_74) rfl rfl rfl (hA _ wd_1_7) (hA _ wd_5_71) (by decide +kernel) ⟨Nat.le_of_ble_eq_true rfl, Nat.le_of_ble_eq_true rfl⟩, hA _ wd_5_73, hA _ ws_39⟩ ⟨bl, recv_X9 hE hG t_h0, fun U hU9 hW9 => ⟨rfl, by rw [hU9]; exact hG, hE.go hS hU9 hW9⟩⟩ rfl rfl hl.1 rfl (lv_room (Nat.le_of_ble_eq_true rfl)) dX9_readStatement_305 ⟨Nat.zero_le _, Nat.zero_le _⟩) hS (fun u2293 H locs w2294 hG hS => ?_)
                        obtain ⟨hf2295, w2294⟩ := w2294
                        have hk2296 : u2293 119 0 = (gs u2238 125 x2225.toInt.toNat x2240.toInt) 119 0 := hf2295 119 0 (by decide) (by decide) (by decide) (by decide)
                        have hk2296 : u2293 119 0 = u2238 119 0 := by rw [hk2296]; simp [gs]
                        have hk2297 : u2293 124 0 = (gs u2238 125 x2225.toInt.toNat x2240.toInt) 124 0 := hf2295 124 0 (by decide) (by decide) (by decide) (by decide)
                        have hk2297 : u2293 124 0 = u2238 124 0 := by rw [hk2297]; simp [gs]
                        have hk2298 : u2238 124 0 = (gs u2217 125 x2194.toInt.toNat x2219.toInt) 124 0 := hf2241 124 0 (by decide) (by decide) (by decide) (by decide) (by decide) (by decide)
                        have hk2298 : u2238 124 0 = u2217 124 0 := by rw [hk2298]; simp [gs]
                        have hk2299 : u2217 124 0 = (gs u2187 125 x2177.toInt.toNat x2189.toInt) 124 0 := hf2220 124 0 (by decide) (by decide) (by decide) (by decide) (by decide) (by decide)
                        have hk2299 : u2217 124 0 = u2187 124 0 := by rw [hk2299]; simp [gs]
                        have hk2300 : u2187 124 0 = u2168 124 0 := hf2190 124 0 (by decide) (by decide) (by decide) (by decide) (by decide) (by decide)
                        have hk2301 : u2168 124 0 = (gs (gs u2138 124 0 x2159.toInt) 125 x2151.toInt.toNat x1936.toInt) 124 0 := hf2170 124 0 (by decide) (by decide) (by decide) (by decide)
                        have hk2301 : u2168 124 0 = x2159.toInt := by rw [hk2301]; simp [gs]
                        exact W.vret hx hb hr (fun t ht hW => ⟨⟨u2293, rfl, ⟨(fun c j h115 h116 h117 h118 h119 h120 h124 h125 => by rw [hf2295 c j h115 h116 h117 h118, gs_c _ _ _ _ h125, hf2241 c j h115 h116 h117 h118 h119 h120, gs_c _ _ _ _ h125, hf2220 c j h115 h116 h117 h118 h119 h120, gs_c _ _ _ _ h125, hf2190 c j h115 h116 h117 h118 h119 h120, hf2170 c j h115 h116 h117 h118, gs_c _ _ _ _ h125, gs_c _ _ _ _ h124, hf2140 c j h119 h120]), (by omega)⟩, ok1 ht hG⟩, hS.F ht⟩) hS.2.2 dX9_readStatement_308
                    · skip
                      refine lv_aload_n hx hb dX9_readStatement_292 rfl (lv_at hl 2 rfl) ?_
                      refine ty_iconst hx hb (1) dX9_readStatement_293 (by decide) (fun x2302 h2303 => ?_)
                      have e2304 : (gs u2238 125 x2225.toInt.toNat x2240.toInt) 119 0 = u2238 119 0 := by simp [gs]
                      have e2305 : (gs u2238 125 x2225.toInt.toNat x2240.toInt) 119 0 = u2238 119 0 := by simp [gs]
                      refine cV (va_runV (C := RX9) (As := [.int x2302]) (rest := []) ⟨hx, hb, hml, hown, hA⟩ (k_X9_fails l dC dI dA sz X Γ hU (gs u2238 125 x2225.toInt.toNat x2240.toInt) h0 t_h0 x2302   ) ⟨callB_of 1 hA (al_A wd_5_102) rfl rfl rfl (hA _ wd_1_7) (hA _ wd_5_99) (by decide +kernel) ⟨Nat.le_of_ble_eq_true rfl, Nat.le_of_ble_eq_true rfl⟩, hA _ wd_5_101, hA _ ws_43⟩ ⟨bl, recv_X9 hE hG t_h0, fun U hU9 hW9 => ⟨rfl, by rw [hU9]; exact hG, hE.go hS hU9 hW9⟩⟩ rfl rfl hl.1 rfl (lv_room (Nat.le_of_ble_eq_true rfl)) dX9_readStatement_294 ⟨Nat.zero_le _, Nat.zero_le _⟩) hS (fun u2306 H locs w2307 hG hS => ?_)
                      obtain ⟨hf2308, w2307⟩ := w2307
                      refine lv_aload_n hx hb dX9_readStatement_297 rfl (lv_at hl 2 rfl) ?_
                      refine get_X9_19 hx hb hA hown hE hG t_h0 wd_4_149 dX9_readStatement_298 (fun x2309 h2310 => ?_)
                      refine ty_if_ne (tgt := 308) hx hb dX9_readStatement_301 (by decide) (fun c2312 => ?_) (fun c2312 => ?_)
                      · skip
                        have hk2313 : u2306 115 0 = (gs u2238 125 x2225.toInt.toNat x2240.toInt) 115 0 := hf2308 115 0 (by decide) (by decide)
                        have hk2313 : u2306 115 0 = u2238 115 0 := by rw [hk2313]; simp [gs]
                        have hk2314 : u2306 116 0 = (gs u2238 125 x2225.toInt.toNat x2240.toInt) 116 0 := hf2308 116 0 (by decide) (by decide)
                        have hk2314 : u2306 116 0 = u2238 116 0 := by rw [hk2314]; simp [gs]
                        have hk2315 : u2306 124 0 = (gs u2238 125 x2225.toInt.toNat x2240.toInt) 124 0 := hf2308 124 0 (by decide) (by decide)
                        have hk2315 : u2306 124 0 = u2238 124 0 := by rw [hk2315]; simp [gs]
                        have hk2316 : u2238 124 0 = (gs u2217 125 x2194.toInt.toNat x2219.toInt) 124 0 := hf2241 124 0 (by decide) (by decide) (by decide) (by decide) (by decide) (by decide)
                        have hk2316 : u2238 124 0 = u2217 124 0 := by rw [hk2316]; simp [gs]
                        have hk2317 : u2217 124 0 = (gs u2187 125 x2177.toInt.toNat x2189.toInt) 124 0 := hf2220 124 0 (by decide) (by decide) (by decide) (by decide) (by decide) (by decide)
                        have hk2317 : u2217 124 0 = u2187 124 0 := by rw [hk2317]; simp [gs]
                        have hk2318 : u2187 124 0 = u2168 124 0 := hf2190 124 0 (by decide) (by decide) (by decide) (by decide) (by decide) (by decide)
                        have hk2319 : u2168 124 0 = (gs (gs u2138 124 0 x2159.toInt) 125 x2151.toInt.toNat x1936.toInt) 124 0 := hf2170 124 0 (by decide) (by decide) (by decide) (by decide)
                        have hk2319 : u2168 124 0 = x2159.toInt := by rw [hk2319]; simp [gs]
                        exact W.vret hx hb hr (fun t ht hW => ⟨⟨u2306, rfl, ⟨(fun c j h115 h116 h117 h118 h119 h120 h124 h125 => by rw [hf2308 c j h119 h120, gs_c _ _ _ _ h125, hf2241 c j h115 h116 h117 h118 h119 h120, gs_c _ _ _ _ h125, hf2220 c j h115 h116 h117 h118 h119 h120, gs_c _ _ _ _ h125, hf2190 c j h115 h116 h117 h118 h119 h120, hf2170 c j h115 h116 h117 h118, gs_c _ _ _ _ h125, gs_c _ _ _ _ h124, hf2140 c j h119 h120]), (by omega)⟩, ok1 ht hG⟩, hS.F ht⟩) hS.2.2 dX9_readStatement_308
                      · skip
                        refine lv_aload_n hx hb dX9_readStatement_304 rfl (lv_at hl 2 rfl) ?_
                        have hk2320 : u2306 114 0 = (gs u2238 125 x2225.toInt.toNat x2240.toInt) 114 0 := hf2308 114 0 (by decide) (by decide)
                        have hk2320 : u2306 114 0 = u2238 114 0 := by rw [hk2320]; simp [gs]
                        have hk2321 : u2238 114 0 = (gs u2217 125 x2194.toInt.toNat x2219.toInt) 114 0 := hf2241 114 0 (by decide) (by decide) (by decide) (by decide) (by decide) (by decide)
                        have hk2321 : u2238 114 0 = u2217 114 0 := by rw [hk2321]; simp [gs]
                        have hk2322 : u2306 115 0 = (gs u2238 125 x2225.toInt.toNat x2240.toInt) 115 0 := hf2308 115 0 (by decide) (by decide)
                        have hk2322 : u2306 115 0 = u2238 115 0 := by rw [hk2322]; simp [gs]
                        refine cV (va_runV (C := RX9) (As := []) (rest := []) ⟨hx, hb, hml, hown, hA⟩ (k_X9_next l dC dI dA sz X Γ hU u2306 h0 t_h0   (by omega)) ⟨callB_of 0 hA (al_A wd_5_74) rfl rfl rfl (hA _ wd_1_7) (hA _ wd_5_71) (by decide +kernel) ⟨Nat.le_of_ble_eq_true rfl, Nat.le_of_ble_eq_true rfl⟩, hA _ wd_5_73, hA _ ws_39⟩ ⟨bl, recv_X9 hE hG t_h0, fun U hU9 hW9 => ⟨rfl, by rw [hU9]; exact hG, hE.go hS hU9 hW9⟩⟩ rfl rfl hl.1 rfl (lv_room (Nat.le_of_ble_eq_true rfl)) dX9_readStatement_305 ⟨Nat.zero_le _, Nat.zero_le _⟩) hS (fun u2323 H locs w2324 hG hS => ?_)
                        obtain ⟨hf2325, w2324⟩ := w2324
                        have hk2326 : u2323 119 0 = u2306 119 0 := hf2325 119 0 (by decide) (by decide) (by decide) (by decide)
                        have hk2327 : u2323 124 0 = u2306 124 0 := hf2325 124 0 (by decide) (by decide) (by decide) (by decide)
                        have hk2328 : u2306 124 0 = (gs u2238 125 x2225.toInt.toNat x2240.toInt) 124 0 := hf2308 124 0 (by decide) (by decide)
                        have hk2328 : u2306 124 0 = u2238 124 0 := by rw [hk2328]; simp [gs]
                        have hk2329 : u2238 124 0 = (gs u2217 125 x2194.toInt.toNat x2219.toInt) 124 0 := hf2241 124 0 (by decide) (by decide) (by decide) (by decide) (by decide) (by decide)
                        have hk2329 : u2238 124 0 = u2217 124 0 := by rw [hk2329]; simp [gs]
                        have hk2330 : u2217 124 0 = (gs u2187 125 x2177.toInt.toNat x2189.toInt) 124 0 := hf2220 124 0 (by decide) (by decide) (by decide) (by decide) (by decide) (by decide)
                        have hk2330 : u2217 124 0 = u2187 124 0 := by rw [hk2330]; simp [gs]
                        have hk2331 : u2187 124 0 = u2168 124 0 := hf2190 124 0 (by decide) (by decide) (by decide) (by decide) (by decide) (by decide)
                        have hk2332 : u2168 124 0 = (gs (gs u2138 124 0 x2159.toInt) 125 x2151.toInt.toNat x1936.toInt) 124 0 := hf2170 124 0 (by decide) (by decide) (by decide) (by decide)
                        have hk2332 : u2168 124 0 = x2159.toInt := by rw [hk2332]; simp [gs]
                        exact W.vret hx hb hr (fun t ht hW => ⟨⟨u2323, rfl, ⟨(fun c j h115 h116 h117 h118 h119 h120 h124 h125 => by rw [hf2325 c j h115 h116 h117 h118, hf2308 c j h119 h120, gs_c _ _ _ _ h125, hf2241 c j h115 h116 h117 h118 h119 h120, gs_c _ _ _ _ h125, hf2220 c j h115 h116 h117 h118 h119 h120, gs_c _ _ _ _ h125, hf2190 c j h115 h116 h117 h118 h119 h120, hf2170 c j h115 h116 h117 h118, gs_c _ _ _ _ h125, gs_c _ _ _ _ h124, hf2140 c j h119 h120]), (by omega)⟩, ok1 ht hG⟩, hS.F ht⟩) hS.2.2 dX9_readStatement_308
          · exfalso; omega
        · skip
          have hk2333 : u2138 115 0 = g 115 0 := hf2140 115 0 (by decide) (by decide)
          have hk2334 : u2138 116 0 = g 116 0 := hf2140 116 0 (by decide) (by decide)
          have hk2335 : u2138 124 0 = g 124 0 := hf2140 124 0 (by decide) (by decide)
          exact W.vret hx hb hr (fun t ht hW => ⟨⟨u2138, rfl, ⟨(fun c j h115 h116 h117 h118 h119 h120 h124 h125 => by rw [hf2140 c j h119 h120]), (by omega)⟩, ok1 ht hG⟩, hS.F ht⟩) hS.2.2 dX9_readStatement_88
    · exfalso; omega
