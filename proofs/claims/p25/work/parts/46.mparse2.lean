set_option maxHeartbeats 4000000 in
set_option maxRecDepth 100000 in
/-- WeekBankModel.readStatement:  -/
theorem k_X9_readStatement (l : Launch) (dC : Nat → ClassId) (dI : Nat → Nat → Nat) (dA : Nat → ClassId) (sz : Nat) (X : va_W) (Γ : ty_G) (hU : Un Γ) (g : gh) (h0 : Nat) (t_h0 : ty Γ h0 30) (T : Nat → Int) (N9 : Nat) (hp : 0 ≤ g 116 0 ∧ g 116 0 ≤ g 115 0 ∧ g 115 0 ≤ g 114 0 ∧ g 114 0 ≤ 300) (hf : g 119 0 = 0 ∧ 0 ≤ g 124 0 ∧ g 124 0 ≤ 30) (hT : pz_t g = T) (hN : g 114 0 = (N9 : Int)) : Met l yX9_readStatement (.code yX9_readStatement cX9_readStatement 3 (Option.none : Option Jvm.ClassFile.FieldType) :: AL) ({ frames := 5, cells := 0, slots := 0, locals := 107 }) (PCx dC dI dA sz X Γ g [.ref h0]) (va_Qv (fun (u : gh) => (∀ c j : Nat, c ≠ 115 → c ≠ 116 → c ≠ 117 → c ≠ 118 → c ≠ 119 → c ≠ 120 → c ≠ 124 → c ≠ 125 → u c j = g c j) ∧ ((0 ≤ u 116 0 ∧ u 116 0 ≤ u 115 0 ∧ u 115 0 ≤ g 114 0) ∧ (0 ≤ u 119 0 ∧ u 119 0 ≤ 3) ∧ (g 124 0 ≤ u 124 0 ∧ u 124 0 ≤ 30) ∧ (u 119 0 = 0 → u 124 0 = g 124 0 + 1)) ∧ (pz_m u = pz_st T N9 (g 124 0) (pz_m g)) ∧ (u 125 = st_m T N9 (g 124 0) (pz_m g) (g 125))) (okb dC dI dA sz X Γ) (ty_A sz)) 0 0 (ty_A sz) := by
  refine Met.ofW (cc := cX9_readStatement) (maxL := 3) (ret := (Option.none : Option Jvm.ClassFile.FieldType)) (by decide) rfl ?_
  intro p e s m args below meth c s₁ B hml hv
  obtain ⟨rfl, hG, hE⟩ := hv
  have hx := B.exec
  have hb := B.bytes
  have hr := B.returns
  have hts := atoms_spec B.pre
  have hA : ∀ w ∈ AL, w.before _ s = true := fun w h => hts w (List.mem_cons_of_mem _ h)
  have hown : s.vm.findClass RX9 = some m.cls := findClass_of_methodNamed B.named
  have hlocks := B.notSynchronized
  have hS : va_S (ty_A sz) s.heap s.heap [] := va_S.rf
  have hES := hE.2.1.2.2.2.2.2.2
  have hl := lv_entry ([.ref h0]) (n := 3) (Nat.le_of_ble_eq_true rfl)
  rw [lg_entry_eq]
  generalize (lg_sl ([.ref h0]) ++ List.replicate (3 - (lg_sl ([.ref h0])).length) Slot.unset).toArray = ls at hl ⊢
  have hl : lv_has ls 3 [(0, .ref h0)] := hl
  refine lv_aload_n hx hb dX9_readStatement_0 rfl (lv_at hl 0 rfl) ?_
  refine va_ldcS hx hb hown (hES.1 6 (by decide)).1 dX9_readStatement_1 ?_
  refine cI (va_runV (C := RX9) (As := [.ref (dI 100 6)]) (rest := []) ⟨hx, hb, hml, hown, hA⟩ (k_X9_isWord l dC dI dA sz X Γ hU g h0 t_h0 6 (by decide) T N9  (by omega) (hT) (by omega)) ⟨callB_of 1 hA (al_A wd_5_93) rfl rfl rfl (hA _ wd_1_7) (hA _ wd_5_90) (by decide +kernel) ⟨Nat.le_of_ble_eq_true rfl, Nat.le_of_ble_eq_true rfl⟩, hA _ wd_5_92, hA _ ws_42⟩ ⟨bl, recv_X9 hE hG t_h0, fun U hU9 hW9 => ⟨rfl, by rw [hU9]; exact hG, hE.go hS hU9 hW9⟩⟩ rfl rfl hl.1 rfl (lv_room (Nat.le_of_ble_eq_true rfl)) dX9_readStatement_3 ⟨Nat.zero_le _, Nat.zero_le _⟩) hS (fun x3 u1 H locs w2 hG hS => ?_)
  obtain ⟨eu5, w2, hq4⟩ := w2
  rw [eu5] at hG
  have hW6 : pz_W T (pz_m g) (sB 6) = decide (x3.toInt = 1) := hq4
  refine ty_if_eq (tgt := 13) hx hb dX9_readStatement_6 (by decide) (fun c7 => ?_) (fun c7 => ?_)
  · skip
    refine lv_aload_n hx hb dX9_readStatement_13 rfl (lv_at hl 0 rfl) ?_
    refine va_ldcS hx hb hown (hES.1 7 (by decide)).1 dX9_readStatement_14 ?_
    refine cI (va_runV (C := RX9) (As := [.ref (dI 100 7)]) (rest := []) ⟨hx, hb, hml, hown, hA⟩ (k_X9_isWord l dC dI dA sz X Γ hU g h0 t_h0 7 (by decide) T N9  (by omega) (hT) (by omega)) ⟨callB_of 1 hA (al_A wd_5_93) rfl rfl rfl (hA _ wd_1_7) (hA _ wd_5_90) (by decide +kernel) ⟨Nat.le_of_ble_eq_true rfl, Nat.le_of_ble_eq_true rfl⟩, hA _ wd_5_92, hA _ ws_42⟩ ⟨bl, recv_X9 hE hG t_h0, fun U hU9 hW9 => ⟨rfl, by rw [hU9]; exact hG, hE.go hS hU9 hW9⟩⟩ rfl rfl hl.1 rfl (lv_room (Nat.le_of_ble_eq_true rfl)) dX9_readStatement_16 ⟨Nat.zero_le _, Nat.zero_le _⟩) hS (fun x10 u8 H locs w9 hG hS => ?_)
    obtain ⟨eu12, w9, hq11⟩ := w9
    rw [eu12] at hG
    have hW13 : pz_W T (pz_m g) (sB 7) = decide (x10.toInt = 1) := hq11
    refine ty_if_eq (tgt := 26) hx hb dX9_readStatement_19 (by decide) (fun c14 => ?_) (fun c14 => ?_)
    · skip
      refine lv_aload_n hx hb dX9_readStatement_26 rfl (lv_at hl 0 rfl) ?_
      refine va_ldcS hx hb hown (hES.1 8 (by decide)).1 dX9_readStatement_27 ?_
      refine cI (va_runV (C := RX9) (As := [.ref (dI 100 8)]) (rest := []) ⟨hx, hb, hml, hown, hA⟩ (k_X9_isWord l dC dI dA sz X Γ hU g h0 t_h0 8 (by decide) T N9  (by omega) (hT) (by omega)) ⟨callB_of 1 hA (al_A wd_5_93) rfl rfl rfl (hA _ wd_1_7) (hA _ wd_5_90) (by decide +kernel) ⟨Nat.le_of_ble_eq_true rfl, Nat.le_of_ble_eq_true rfl⟩, hA _ wd_5_92, hA _ ws_42⟩ ⟨bl, recv_X9 hE hG t_h0, fun U hU9 hW9 => ⟨rfl, by rw [hU9]; exact hG, hE.go hS hU9 hW9⟩⟩ rfl rfl hl.1 rfl (lv_room (Nat.le_of_ble_eq_true rfl)) dX9_readStatement_29 ⟨Nat.zero_le _, Nat.zero_le _⟩) hS (fun x17 u15 H locs w16 hG hS => ?_)
      obtain ⟨eu19, w16, hq18⟩ := w16
      rw [eu19] at hG
      have hW20 : pz_W T (pz_m g) (sB 8) = decide (x17.toInt = 1) := hq18
      refine ty_if_eq (tgt := 39) hx hb dX9_readStatement_32 (by decide) (fun c21 => ?_) (fun c21 => ?_)
      · skip
        refine lv_aload_n hx hb dX9_readStatement_39 rfl (lv_at hl 0 rfl) ?_
        refine va_ldcS hx hb hown (hES.1 9 (by decide)).1 dX9_readStatement_40 ?_
        refine cI (va_runV (C := RX9) (As := [.ref (dI 100 9)]) (rest := []) ⟨hx, hb, hml, hown, hA⟩ (k_X9_isWord l dC dI dA sz X Γ hU g h0 t_h0 9 (by decide) T N9  (by omega) (hT) (by omega)) ⟨callB_of 1 hA (al_A wd_5_93) rfl rfl rfl (hA _ wd_1_7) (hA _ wd_5_90) (by decide +kernel) ⟨Nat.le_of_ble_eq_true rfl, Nat.le_of_ble_eq_true rfl⟩, hA _ wd_5_92, hA _ ws_42⟩ ⟨bl, recv_X9 hE hG t_h0, fun U hU9 hW9 => ⟨rfl, by rw [hU9]; exact hG, hE.go hS hU9 hW9⟩⟩ rfl rfl hl.1 rfl (lv_room (Nat.le_of_ble_eq_true rfl)) dX9_readStatement_42 ⟨Nat.zero_le _, Nat.zero_le _⟩) hS (fun x24 u22 H locs w23 hG hS => ?_)
        obtain ⟨eu26, w23, hq25⟩ := w23
        rw [eu26] at hG
        have hW27 : pz_W T (pz_m g) (sB 9) = decide (x24.toInt = 1) := hq25
        refine ty_if_eq (tgt := 52) hx hb dX9_readStatement_45 (by decide) (fun c28 => ?_) (fun c28 => ?_)
        · skip
          refine ty_iconst hx hb (-1) dX9_readStatement_52 (by decide) (fun x29 h30 => ?_)
          refine lv_istore_n (lv' := [(1, .int x29), (0, .ref h0)]) hx hb dX9_readStatement_53 rfl hl (by decide) rfl (fun ls hl => ?_)
          refine lv_iload_n hx hb dX9_readStatement_54 rfl (lv_at hl 0 rfl) ?_
          refine ty_iconst hx hb (-1) dX9_readStatement_55 (by decide) (fun x31 h32 => ?_)
          refine ty_icmp_ne (tgt := 67) hx hb dX9_readStatement_56 (by decide) (fun c33 => ?_) (fun c33 => ?_)
          · exfalso; omega
          · skip
            refine lv_aload_n hx hb dX9_readStatement_59 rfl (lv_at hl 1 rfl) ?_
            refine ty_iconst hx hb (1) dX9_readStatement_60 (by decide) (fun x34 h35 => ?_)
            refine cV (va_runV (C := RX9) (As := [.int x34]) (rest := []) ⟨hx, hb, hml, hown, hA⟩ (k_X9_fails l dC dI dA sz X Γ hU g h0 t_h0 x34   (by omega)) ⟨callB_of 1 hA (al_A wd_5_102) rfl rfl rfl (hA _ wd_1_7) (hA _ wd_5_99) (by decide +kernel) ⟨Nat.le_of_ble_eq_true rfl, Nat.le_of_ble_eq_true rfl⟩, hA _ wd_5_101, hA _ ws_43⟩ ⟨bl, recv_X9 hE hG t_h0, fun U hU9 hW9 => ⟨rfl, by rw [hU9]; exact hG, hE.go hS hU9 hW9⟩⟩ rfl rfl hl.1 rfl (lv_room (Nat.le_of_ble_eq_true rfl)) dX9_readStatement_61 ⟨Nat.zero_le _, Nat.zero_le _⟩) hS (fun u36 H locs w37 hG hS => ?_)
            obtain ⟨hf39, w37, hq38⟩ := w37
            have hM40 : pz_m u36 = pz_bl 1 (pz_m g) := by have h9 := hq38.1 (by omega); rw [show x34.toInt = 1 by omega] at h9; exact h9.trans (congrArg (pz_bl 1) rfl)
            refine lv_goto (tgt := 81) hx hb dX9_readStatement_64 (by decide) ?_
            refine lv_aload_n hx hb dX9_readStatement_81 rfl (lv_at hl 1 rfl) ?_
            refine get_X9_19 hx hb hA hown hE hG t_h0 wd_4_149 dX9_readStatement_82 (fun x41 h42 => ?_)
            refine ty_if_eq (tgt := 89) hx hb dX9_readStatement_85 (by decide) (fun c44 => ?_) (fun c44 => ?_)
            · exfalso; omega
            · skip
              have hk45 : u36 115 0 = g 115 0 := hf39 115 0 (by decide) (by decide)
              have hk46 : u36 116 0 = g 116 0 := hf39 116 0 (by decide) (by decide)
              have hk47 : u36 124 0 = g 124 0 := hf39 124 0 (by decide) (by decide)
              exact W.vret hx hb hr (fun t ht hW => ⟨⟨u36, rfl, ⟨(fun c j h115 h116 h117 h118 h119 h120 h124 h125 => by rw [hf39 c j h119 h120]), (by omega), (by rw [pz_st1 (x := pz_m g) (pz_k0 (hW6.trans (decide_eq_false (by omega))) (hW13.trans (decide_eq_false (by omega))) (hW20.trans (decide_eq_false (by omega))) (hW27.trans (decide_eq_false (by omega))))]; exact hM40), (by unfold st_m; rw [if_pos (Or.inl (pz_k0 (hW6.trans (decide_eq_false (by omega))) (hW13.trans (decide_eq_false (by omega))) (hW20.trans (decide_eq_false (by omega))) (hW27.trans (decide_eq_false (by omega)))))]; rw [(show u36 125 = g 125 from funext fun j => hf39 125 j (by decide) (by decide))])⟩, ok1 ht hG⟩, hS.F ht⟩) hS.2.2 dX9_readStatement_88
        · skip
          refine ty_iconst hx hb (3) dX9_readStatement_48 (by decide) (fun x48 h49 => ?_)
          refine lv_goto (tgt := 53) hx hb dX9_readStatement_49 (by decide) ?_
          refine lv_istore_n (lv' := [(1, .int x48), (0, .ref h0)]) hx hb dX9_readStatement_53 rfl hl (by decide) rfl (fun ls hl => ?_)
          refine lv_iload_n hx hb dX9_readStatement_54 rfl (lv_at hl 0 rfl) ?_
          refine ty_iconst hx hb (-1) dX9_readStatement_55 (by decide) (fun x50 h51 => ?_)
          refine ty_icmp_ne (tgt := 67) hx hb dX9_readStatement_56 (by decide) (fun c52 => ?_) (fun c52 => ?_)
          · skip
            refine lv_aload_n hx hb dX9_readStatement_67 rfl (lv_at hl 1 rfl) ?_
            refine get_X9_24 hx hb hA hown hE hG t_h0 wd_4_154 dX9_readStatement_68 (fun x53 h54 => ?_)
            refine ty_bipush hx hb (30) dX9_readStatement_71 (by decide) (fun x56 h57 => ?_)
            refine ty_icmp_ne (tgt := 81) hx hb dX9_readStatement_73 (by decide) (fun c58 => ?_) (fun c58 => ?_)
            · skip
              refine lv_aload_n hx hb dX9_readStatement_81 rfl (lv_at hl 1 rfl) ?_
              refine get_X9_19 hx hb hA hown hE hG t_h0 wd_4_149 dX9_readStatement_82 (fun x59 h60 => ?_)
              refine ty_if_eq (tgt := 89) hx hb dX9_readStatement_85 (by decide) (fun c62 => ?_) (fun c62 => ?_)
              · skip
                refine ty_iconst hx hb (4) dX9_readStatement_89 (by decide) (fun x63 h64 => ?_)
                refine lv_aload_n hx hb dX9_readStatement_90 rfl (lv_at hl 1 rfl) ?_
                refine get_X9_24 hx hb hA hown hE hG t_h0 wd_4_154 dX9_readStatement_91 (fun x65 h66 => ?_)
                refine ty_imul hx hb dX9_readStatement_94 (fun x68 h69 => ?_)
                try have h70 : x68.toInt = 4 * x65.toInt := ty_mull h69 (by omega) (by omega) (by omega)
                refine lv_istore_n (lv' := [(2, .int x68), (1, .int x48), (0, .ref h0)]) hx hb dX9_readStatement_95 rfl hl (by decide) rfl (fun ls hl => ?_)
                refine lv_aload_n hx hb dX9_readStatement_96 rfl (lv_at hl 2 rfl) ?_
                refine lv_dup hx hb dX9_readStatement_97 rfl ?_
                refine get_X9_24 hx hb hA hown hE hG t_h0 wd_4_154 dX9_readStatement_98 (fun x71 h72 => ?_)
                refine ty_iconst hx hb (1) dX9_readStatement_101 (by decide) (fun x74 h75 => ?_)
                refine ty_iadd hx hb dX9_readStatement_102 (fun x76 h77 => ?_)
                try have h78 : x76.toInt = x71.toInt + x74.toInt := ty_add h77 (by omega) (by omega)
                refine put_X9_24 hx hb hA hown hE hG hS hU t_h0 wd_4_154 dX9_readStatement_103 (fun H locs hG hS => ?_)
                refine lv_aload_n hx hb dX9_readStatement_106 rfl (lv_at hl 2 rfl) ?_
                refine get_X9_25 hx hb hA hown hE hG t_h0 wd_4_155 dX9_readStatement_107 (fun b79 (t_b79 : ty Γ b79 125) => ?_)
                refine lv_iload_n hx hb dX9_readStatement_110 rfl (lv_at hl 0 rfl) ?_
                refine lv_iload_n hx hb dX9_readStatement_111 rfl (lv_at hl 1 rfl) ?_
                refine ast_mI hx hb hE hG hS hU 25 rfl (n := 120) rfl (lo := -2147483648) (hi := 2147483647) rfl rfl rfl t_b79 (rgD _) (by omega) dX9_readStatement_112 (fun H locs hG hS => ?_)
                rw [show x68.toInt.toNat = (4 * (g 124 0).toNat) by omega] at hG
                refine lv_aload_n hx hb dX9_readStatement_113 rfl (lv_at hl 2 rfl) ?_
                have hM80 : pz_m (gs (gs g 124 0 x76.toInt) 125 (4 * (g 124 0).toNat) x48.toInt) = (pz_m g) := (pz_m_cg (by rw [gs_c _ _ _ _ (by decide), gs_c _ _ _ _ (by decide)]) (by rw [gs_c _ _ _ _ (by decide), gs_c _ _ _ _ (by decide)]) (by rw [gs_c _ _ _ _ (by decide), gs_c _ _ _ _ (by decide)]) (by rw [gs_c _ _ _ _ (by decide), gs_c _ _ _ _ (by decide)]) (by rw [gs_c _ _ _ _ (by decide), gs_c _ _ _ _ (by decide)]) (by rw [gs_c _ _ _ _ (by decide), gs_c _ _ _ _ (by decide)])).trans rfl
                have e81 : (gs (gs g 124 0 x76.toInt) 125 (4 * (g 124 0).toNat) x48.toInt) 114 0 = g 114 0 := by rw [gs_c _ _ _ _ (by decide), gs_c _ _ _ _ (by decide)]
                have e82 : (gs (gs g 124 0 x76.toInt) 125 (4 * (g 124 0).toNat) x48.toInt) 115 0 = g 115 0 := by rw [gs_c _ _ _ _ (by decide), gs_c _ _ _ _ (by decide)]
                have e83 : (gs (gs g 124 0 x76.toInt) 125 (4 * (g 124 0).toNat) x48.toInt) 114 0 = g 114 0 := by rw [gs_c _ _ _ _ (by decide), gs_c _ _ _ _ (by decide)]
                have e84 : (gs (gs g 124 0 x76.toInt) 125 (4 * (g 124 0).toNat) x48.toInt) 114 0 = g 114 0 := by rw [gs_c _ _ _ _ (by decide), gs_c _ _ _ _ (by decide)]
                refine cV (va_runV (C := RX9) (As := []) (rest := []) ⟨hx, hb, hml, hown, hA⟩ (k_X9_next l dC dI dA sz X Γ hU (gs (gs g 124 0 x76.toInt) 125 (4 * (g 124 0).toNat) x48.toInt) h0 t_h0 T N9  (by omega) ((funext fun j => show (gs (gs g 124 0 x76.toInt) 125 (4 * (g 124 0).toNat) x48.toInt) 113 j % 256 = g 113 j % 256 by rw [gs_c _ _ _ _ (by decide), gs_c _ _ _ _ (by decide)]).trans hT) (by omega)) ⟨callB_of 0 hA (al_A wd_5_74) rfl rfl rfl (hA _ wd_1_7) (hA _ wd_5_71) (by decide +kernel) ⟨Nat.le_of_ble_eq_true rfl, Nat.le_of_ble_eq_true rfl⟩, hA _ wd_5_73, hA _ ws_39⟩ ⟨bl, recv_X9 hE hG t_h0, fun U hU9 hW9 => ⟨rfl, by rw [hU9]; exact hG, hE.go hS hU9 hW9⟩⟩ rfl rfl hl.1 rfl (lv_room (Nat.le_of_ble_eq_true rfl)) dX9_readStatement_114 ⟨Nat.zero_le _, Nat.zero_le _⟩) hS (fun u85 H locs w86 hG hS => ?_)
                obtain ⟨hf88, w86, hq87⟩ := w86
                have hM89 : pz_m u85 = (pz_nx T N9 (pz_m g)) := hq87.trans (congrArg (pz_nx T N9) hM80)
                refine lv_iload_n hx hb dX9_readStatement_117 rfl (lv_at hl 1 rfl) ?_
                refine ty_iconst hx hb (3) dX9_readStatement_118 (by decide) (fun x90 h91 => ?_)
                refine ty_icmp_ne (tgt := 177) hx hb dX9_readStatement_119 (by decide) (fun c92 => ?_) (fun c92 => ?_)
                · exfalso; omega
                · skip
                  refine lv_aload_n hx hb dX9_readStatement_122 rfl (lv_at hl 2 rfl) ?_
                  refine get_X9_25 hx hb hA hown hE hG t_h0 wd_4_155 dX9_readStatement_123 (fun b93 (t_b93 : ty Γ b93 125) => ?_)
                  refine lv_iload_n hx hb dX9_readStatement_126 rfl (lv_at hl 0 rfl) ?_
                  refine ty_iconst hx hb (1) dX9_readStatement_127 (by decide) (fun x94 h95 => ?_)
                  refine ty_iadd hx hb dX9_readStatement_128 (fun x96 h97 => ?_)
                  try have h98 : x96.toInt = x68.toInt + x94.toInt := ty_add h97 (by omega) (by omega)
                  refine lv_aload_n hx hb dX9_readStatement_129 rfl (lv_at hl 2 rfl) ?_
                  refine va_ldcS hx hb hown (hES.1 10 (by decide)).1 dX9_readStatement_130 ?_
                  have hk99 : u85 114 0 = (gs (gs g 124 0 x76.toInt) 125 (4 * (g 124 0).toNat) x48.toInt) 114 0 := hf88 114 0 (by decide) (by decide) (by decide) (by decide)
                  replace hk99 : u85 114 0 = g 114 0 := by rw [hk99, gs_c _ _ _ _ (by decide), gs_c _ _ _ _ (by decide)]
                  refine cI (va_runV (C := RX9) (As := [.ref (dI 100 10)]) (rest := [.int x96, .ref b93]) ⟨hx, hb, hml, hown, hA⟩ (k_X9_isWord l dC dI dA sz X Γ hU u85 h0 t_h0 10 (by decide) T N9  (by omega) ((funext fun j => show u85 113 j % 256 = g 113 j % 256 by rw [hf88 113 j (by decide) (by decide) (by decide) (by decide), gs_c _ _ _ _ (by decide), gs_c _ _ _ _ (by decide)]).trans hT) (by omega)) ⟨callB_of 1 hA (al_A wd_5_93) rfl rfl rfl (hA _ wd_1_7) (hA _ wd_5_90) (by decide +kernel) ⟨Nat.le_of_ble_eq_true rfl, Nat.le_of_ble_eq_true rfl⟩, hA _ wd_5_92, hA _ ws_42⟩ ⟨bl, recv_X9 hE hG t_h0, fun U hU9 hW9 => ⟨rfl, by rw [hU9]; exact hG, hE.go hS hU9 hW9⟩⟩ rfl rfl hl.1 rfl (lv_room (Nat.le_of_ble_eq_true rfl)) dX9_readStatement_132 ⟨Nat.zero_le _, Nat.zero_le _⟩) hS (fun x102 u100 H locs w101 hG hS => ?_)
                  obtain ⟨eu104, w101, hq103⟩ := w101
                  rw [eu104] at hG
                  have hW105 : pz_W T (pz_nx T N9 (pz_m g)) (sB 10) = decide (x102.toInt = 1) := by have h9 := hq103; rw [hM89] at h9; exact h9
                  refine ty_if_eq (tgt := 142) hx hb dX9_readStatement_135 (by decide) (fun c106 => ?_) (fun c106 => ?_)
                  · skip
                    refine ty_iconst hx hb (0) dX9_readStatement_142 (by decide) (fun x107 h108 => ?_)
                    refine ast_mI hx hb hE hG hS hU 25 rfl (n := 120) rfl (lo := -2147483648) (hi := 2147483647) rfl rfl rfl t_b93 (rgD _) (by omega) dX9_readStatement_143 (fun H locs hG hS => ?_)
                    rw [show x96.toInt.toNat = (4 * (g 124 0).toNat + 1) by omega] at hG
                    refine lv_aload_n hx hb dX9_readStatement_144 rfl (lv_at hl 2 rfl) ?_
                    refine va_ldcS hx hb hown (hES.1 10 (by decide)).1 dX9_readStatement_145 ?_
                    have hM109 : pz_m (gs u85 125 (4 * (g 124 0).toNat + 1) x107.toInt) = (pz_nx T N9 (pz_m g)) := (pz_m_cg (by rw [gs_c _ _ _ _ (by decide)]) (by rw [gs_c _ _ _ _ (by decide)]) (by rw [gs_c _ _ _ _ (by decide)]) (by rw [gs_c _ _ _ _ (by decide)]) (by rw [gs_c _ _ _ _ (by decide)]) (by rw [gs_c _ _ _ _ (by decide)])).trans hM89
                    have e110 : (gs u85 125 (4 * (g 124 0).toNat + 1) x107.toInt) 114 0 = u85 114 0 := by rw [gs_c _ _ _ _ (by decide)]
                    have e111 : (gs u85 125 (4 * (g 124 0).toNat + 1) x107.toInt) 115 0 = u85 115 0 := by rw [gs_c _ _ _ _ (by decide)]
                    have e112 : (gs u85 125 (4 * (g 124 0).toNat + 1) x107.toInt) 116 0 = u85 116 0 := by rw [gs_c _ _ _ _ (by decide)]
                    have e113 : (gs u85 125 (4 * (g 124 0).toNat + 1) x107.toInt) 114 0 = u85 114 0 := by rw [gs_c _ _ _ _ (by decide)]
                    refine cI (va_runV (C := RX9) (As := [.ref (dI 100 10)]) (rest := []) ⟨hx, hb, hml, hown, hA⟩ (k_X9_isWord l dC dI dA sz X Γ hU (gs u85 125 (4 * (g 124 0).toNat + 1) x107.toInt) h0 t_h0 10 (by decide) T N9  (by omega) ((funext fun j => show (gs u85 125 (4 * (g 124 0).toNat + 1) x107.toInt) 113 j % 256 = g 113 j % 256 by rw [gs_c _ _ _ _ (by decide), hf88 113 j (by decide) (by decide) (by decide) (by decide), gs_c _ _ _ _ (by decide), gs_c _ _ _ _ (by decide)]).trans hT) (by omega)) ⟨callB_of 1 hA (al_A wd_5_93) rfl rfl rfl (hA _ wd_1_7) (hA _ wd_5_90) (by decide +kernel) ⟨Nat.le_of_ble_eq_true rfl, Nat.le_of_ble_eq_true rfl⟩, hA _ wd_5_92, hA _ ws_42⟩ ⟨bl, recv_X9 hE hG t_h0, fun U hU9 hW9 => ⟨rfl, by rw [hU9]; exact hG, hE.go hS hU9 hW9⟩⟩ rfl rfl hl.1 rfl (lv_room (Nat.le_of_ble_eq_true rfl)) dX9_readStatement_147 ⟨Nat.zero_le _, Nat.zero_le _⟩) hS (fun x116 u114 H locs w115 hG hS => ?_)
                    obtain ⟨eu118, w115, hq117⟩ := w115
                    rw [eu118] at hG
                    have hW119 : pz_W T (pz_nx T N9 (pz_m g)) (sB 10) = decide (x116.toInt = 1) := by have h9 := hq117; rw [hM109] at h9; exact h9
                    have hcl120 := pz_cl hW105 hW119
                    refine ty_if_ne (tgt := 170) hx hb dX9_readStatement_150 (by decide) (fun c121 => ?_) (fun c121 => ?_)
                    · exfalso; omega
                    · skip
                      refine lv_aload_n hx hb dX9_readStatement_153 rfl (lv_at hl 2 rfl) ?_
                      refine va_ldcS hx hb hown (hES.1 11 (by decide)).1 dX9_readStatement_154 ?_
                      have hM122 : pz_m (gs u85 125 (4 * (g 124 0).toNat + 1) x107.toInt) = (pz_nx T N9 (pz_m g)) := (pz_m_cg (by rw [gs_c _ _ _ _ (by decide)]) (by rw [gs_c _ _ _ _ (by decide)]) (by rw [gs_c _ _ _ _ (by decide)]) (by rw [gs_c _ _ _ _ (by decide)]) (by rw [gs_c _ _ _ _ (by decide)]) (by rw [gs_c _ _ _ _ (by decide)])).trans hM89
                      have e123 : (gs u85 125 (4 * (g 124 0).toNat + 1) x107.toInt) 114 0 = u85 114 0 := by rw [gs_c _ _ _ _ (by decide)]
                      have e124 : (gs u85 125 (4 * (g 124 0).toNat + 1) x107.toInt) 115 0 = u85 115 0 := by rw [gs_c _ _ _ _ (by decide)]
                      have e125 : (gs u85 125 (4 * (g 124 0).toNat + 1) x107.toInt) 116 0 = u85 116 0 := by rw [gs_c _ _ _ _ (by decide)]
                      have e126 : (gs u85 125 (4 * (g 124 0).toNat + 1) x107.toInt) 114 0 = u85 114 0 := by rw [gs_c _ _ _ _ (by decide)]
                      refine cI (va_runV (C := RX9) (As := [.ref (dI 100 11)]) (rest := []) ⟨hx, hb, hml, hown, hA⟩ (k_X9_isWord l dC dI dA sz X Γ hU (gs u85 125 (4 * (g 124 0).toNat + 1) x107.toInt) h0 t_h0 11 (by decide) T N9  (by omega) ((funext fun j => show (gs u85 125 (4 * (g 124 0).toNat + 1) x107.toInt) 113 j % 256 = g 113 j % 256 by rw [gs_c _ _ _ _ (by decide), hf88 113 j (by decide) (by decide) (by decide) (by decide), gs_c _ _ _ _ (by decide), gs_c _ _ _ _ (by decide)]).trans hT) (by omega)) ⟨callB_of 1 hA (al_A wd_5_93) rfl rfl rfl (hA _ wd_1_7) (hA _ wd_5_90) (by decide +kernel) ⟨Nat.le_of_ble_eq_true rfl, Nat.le_of_ble_eq_true rfl⟩, hA _ wd_5_92, hA _ ws_42⟩ ⟨bl, recv_X9 hE hG t_h0, fun U hU9 hW9 => ⟨rfl, by rw [hU9]; exact hG, hE.go hS hU9 hW9⟩⟩ rfl rfl hl.1 rfl (lv_room (Nat.le_of_ble_eq_true rfl)) dX9_readStatement_156 ⟨Nat.zero_le _, Nat.zero_le _⟩) hS (fun x129 u127 H locs w128 hG hS => ?_)
                      obtain ⟨eu131, w128, hq130⟩ := w128
                      rw [eu131] at hG
                      have hW132 : pz_W T (pz_nx T N9 (pz_m g)) (sB 11) = decide (x129.toInt = 1) := by have h9 := hq130; rw [hM122] at h9; exact h9
                      refine ty_if_ne (tgt := 170) hx hb dX9_readStatement_159 (by decide) (fun c133 => ?_) (fun c133 => ?_)
                      · skip
                        refine lv_aload_n hx hb dX9_readStatement_170 rfl (lv_at hl 2 rfl) ?_
                        have hM134 : pz_m (gs u85 125 (4 * (g 124 0).toNat + 1) x107.toInt) = (pz_nx T N9 (pz_m g)) := (pz_m_cg (by rw [gs_c _ _ _ _ (by decide)]) (by rw [gs_c _ _ _ _ (by decide)]) (by rw [gs_c _ _ _ _ (by decide)]) (by rw [gs_c _ _ _ _ (by decide)]) (by rw [gs_c _ _ _ _ (by decide)]) (by rw [gs_c _ _ _ _ (by decide)])).trans hM89
                        have e135 : (gs u85 125 (4 * (g 124 0).toNat + 1) x107.toInt) 114 0 = u85 114 0 := by rw [gs_c _ _ _ _ (by decide)]
                        have e136 : (gs u85 125 (4 * (g 124 0).toNat + 1) x107.toInt) 115 0 = u85 115 0 := by rw [gs_c _ _ _ _ (by decide)]
                        have e137 : (gs u85 125 (4 * (g 124 0).toNat + 1) x107.toInt) 114 0 = u85 114 0 := by rw [gs_c _ _ _ _ (by decide)]
                        have e138 : (gs u85 125 (4 * (g 124 0).toNat + 1) x107.toInt) 114 0 = u85 114 0 := by rw [gs_c _ _ _ _ (by decide)]
                        refine cV (va_runV (C := RX9) (As := []) (rest := []) ⟨hx, hb, hml, hown, hA⟩ (k_X9_next l dC dI dA sz X Γ hU (gs u85 125 (4 * (g 124 0).toNat + 1) x107.toInt) h0 t_h0 T N9  (by omega) ((funext fun j => show (gs u85 125 (4 * (g 124 0).toNat + 1) x107.toInt) 113 j % 256 = g 113 j % 256 by rw [gs_c _ _ _ _ (by decide), hf88 113 j (by decide) (by decide) (by decide) (by decide), gs_c _ _ _ _ (by decide), gs_c _ _ _ _ (by decide)]).trans hT) (by omega)) ⟨callB_of 0 hA (al_A wd_5_74) rfl rfl rfl (hA _ wd_1_7) (hA _ wd_5_71) (by decide +kernel) ⟨Nat.le_of_ble_eq_true rfl, Nat.le_of_ble_eq_true rfl⟩, hA _ wd_5_73, hA _ ws_39⟩ ⟨bl, recv_X9 hE hG t_h0, fun U hU9 hW9 => ⟨rfl, by rw [hU9]; exact hG, hE.go hS hU9 hW9⟩⟩ rfl rfl hl.1 rfl (lv_room (Nat.le_of_ble_eq_true rfl)) dX9_readStatement_171 ⟨Nat.zero_le _, Nat.zero_le _⟩) hS (fun u139 H locs w140 hG hS => ?_)
                        obtain ⟨hf142, w140, hq141⟩ := w140
                        have hM143 : pz_m u139 = (pz_nx T N9 (pz_nx T N9 (pz_m g))) := hq141.trans (congrArg (pz_nx T N9) hM134)
                        refine lv_goto (tgt := 277) hx hb dX9_readStatement_174 (by decide) ?_
                        have hk144 : u139 119 0 = (gs u85 125 (4 * (g 124 0).toNat + 1) x107.toInt) 119 0 := hf142 119 0 (by decide) (by decide) (by decide) (by decide)
                        replace hk144 : u139 119 0 = u85 119 0 := by rw [hk144, gs_c _ _ _ _ (by decide)]
                        have hk145 : u85 119 0 = (gs (gs g 124 0 x76.toInt) 125 (4 * (g 124 0).toNat) x48.toInt) 119 0 := hf88 119 0 (by decide) (by decide) (by decide) (by decide)
                        replace hk145 : u85 119 0 = g 119 0 := by rw [hk145, gs_c _ _ _ _ (by decide), gs_c _ _ _ _ (by decide)]
                        have hk146 : u139 124 0 = (gs u85 125 (4 * (g 124 0).toNat + 1) x107.toInt) 124 0 := hf142 124 0 (by decide) (by decide) (by decide) (by decide)
                        replace hk146 : u139 124 0 = u85 124 0 := by rw [hk146, gs_c _ _ _ _ (by decide)]
                        have hk147 : u85 124 0 = (gs (gs g 124 0 x76.toInt) 125 (4 * (g 124 0).toNat) x48.toInt) 124 0 := hf88 124 0 (by decide) (by decide) (by decide) (by decide)
                        replace hk147 : u85 124 0 = x76.toInt := by rw [hk147, gs_c _ _ _ _ (by decide), gs_self]
                        refine lv_aload_n hx hb dX9_readStatement_277 rfl (lv_at hl 2 rfl) ?_
                        refine get_X9_19 hx hb hA hown hE hG t_h0 wd_4_149 dX9_readStatement_278 (fun x148 h149 => ?_)
                        refine ty_if_ne (tgt := 297) hx hb dX9_readStatement_281 (by decide) (fun c151 => ?_) (fun c151 => ?_)
                        · exfalso; omega
                        · skip
                          refine lv_aload_n hx hb dX9_readStatement_284 rfl (lv_at hl 2 rfl) ?_
                          refine get_X9_17 hx hb hA hown hE hG t_h0 wd_4_147 dX9_readStatement_285 (fun x152 h153 => ?_)
                          refine ty_iconst hx hb (4) dX9_readStatement_288 (by decide) (fun x155 h156 => ?_)
                          refine ty_icmp_eq (tgt := 297) hx hb dX9_readStatement_289 (by decide) (fun c157 => ?_) (fun c157 => ?_)
                          · skip
                            refine lv_aload_n hx hb dX9_readStatement_297 rfl (lv_at hl 2 rfl) ?_
                            refine get_X9_19 hx hb hA hown hE hG t_h0 wd_4_149 dX9_readStatement_298 (fun x158 h159 => ?_)
                            refine ty_if_ne (tgt := 308) hx hb dX9_readStatement_301 (by decide) (fun c161 => ?_) (fun c161 => ?_)
                            · exfalso; omega
                            · skip
                              refine lv_aload_n hx hb dX9_readStatement_304 rfl (lv_at hl 2 rfl) ?_
                              have hk162 : u139 114 0 = (gs u85 125 (4 * (g 124 0).toNat + 1) x107.toInt) 114 0 := hf142 114 0 (by decide) (by decide) (by decide) (by decide)
                              replace hk162 : u139 114 0 = u85 114 0 := by rw [hk162, gs_c _ _ _ _ (by decide)]
                              refine cV (va_runV (C := RX9) (As := []) (rest := []) ⟨hx, hb, hml, hown, hA⟩ (k_X9_next l dC dI dA sz X Γ hU u139 h0 t_h0 T N9  (by omega) ((funext fun j => show u139 113 j % 256 = g 113 j % 256 by rw [hf142 113 j (by decide) (by decide) (by decide) (by decide), gs_c _ _ _ _ (by decide), hf88 113 j (by decide) (by decide) (by decide) (by decide), gs_c _ _ _ _ (by decide), gs_c _ _ _ _ (by decide)]).trans hT) (by omega)) ⟨callB_of 0 hA (al_A wd_5_74) rfl rfl rfl (hA _ wd_1_7) (hA _ wd_5_71) (by decide +kernel) ⟨Nat.le_of_ble_eq_true rfl, Nat.le_of_ble_eq_true rfl⟩, hA _ wd_5_73, hA _ ws_39⟩ ⟨bl, recv_X9 hE hG t_h0, fun U hU9 hW9 => ⟨rfl, by rw [hU9]; exact hG, hE.go hS hU9 hW9⟩⟩ rfl rfl hl.1 rfl (lv_room (Nat.le_of_ble_eq_true rfl)) dX9_readStatement_305 ⟨Nat.zero_le _, Nat.zero_le _⟩) hS (fun u163 H locs w164 hG hS => ?_)
                              obtain ⟨hf166, w164, hq165⟩ := w164
                              have hM167 : pz_m u163 = (pz_nx T N9 (pz_nx T N9 (pz_nx T N9 (pz_m g)))) := hq165.trans (congrArg (pz_nx T N9) hM143)
                              have hk168 : u163 119 0 = u139 119 0 := hf166 119 0 (by decide) (by decide) (by decide) (by decide)
                              have hk169 : u163 124 0 = u139 124 0 := hf166 124 0 (by decide) (by decide) (by decide) (by decide)
                              exact W.vret hx hb hr (fun t ht hW => ⟨⟨u163, rfl, ⟨(fun c j h115 h116 h117 h118 h119 h120 h124 h125 => by rw [hf166 c j h115 h116 h117 h118, hf142 c j h115 h116 h117 h118, gs_c _ _ _ _ h125, hf88 c j h115 h116 h117 h118, gs_c _ _ _ _ h125, gs_c _ _ _ _ h124]), (by omega), (by rw [pz_st3 (x := pz_m g) (by rw [pz_k4 (hW6.trans (decide_eq_false (by omega))) (hW13.trans (decide_eq_false (by omega))) (hW20.trans (decide_eq_false (by omega))) (hW27.trans (decide_eq_true (by omega)))]; decide) (by omega), pz_k4 (hW6.trans (decide_eq_false (by omega))) (hW13.trans (decide_eq_false (by omega))) (hW20.trans (decide_eq_false (by omega))) (hW27.trans (decide_eq_true (by omega))), pz_R4 (by decide) (by decide) (by decide), pz_B2 (hW119.trans (decide_eq_false (by omega))) (hW132.trans (decide_eq_true (by omega))), pz_G3 (show ((pz_nx T N9 (pz_nx T N9 (pz_m g)))).2.2.2.2.1 = 0 by rw [← hM143]; show u139 119 0 = 0; omega) (show ((pz_nx T N9 (pz_nx T N9 (pz_m g)))).2.2.1 = 3 by rw [← hM143]; show pz_s (u139 117 0) = 3; exact pz_s3.mpr (by omega))]; exact hM167), (by unfold st_m; rw [if_neg (fun q => q.elim (fun z => absurd z (by rw [pz_k4 (hW6.trans (decide_eq_false (by omega))) (hW13.trans (decide_eq_false (by omega))) (hW20.trans (decide_eq_false (by omega))) (hW27.trans (decide_eq_true (by omega)))]; decide)) (fun z => absurd z (by omega))), pz_k4 (hW6.trans (decide_eq_false (by omega))) (hW13.trans (decide_eq_false (by omega))) (hW20.trans (decide_eq_false (by omega))) (hW27.trans (decide_eq_true (by omega)))]; unfold rr_f; rw [if_neg (by decide), if_neg (by decide), if_neg (by decide)]; rw [pz_R4n (by decide) (by decide) (by decide), pz_B2 (hW119.trans (decide_eq_false (by omega))) (hW132.trans (decide_eq_true (by omega)))]; rw [(show u163 125 = u139 125 from funext fun j => hf166 125 j (by decide) (by decide) (by decide) (by decide)), (show u139 125 = (gs u85 125 (4 * (g 124 0).toNat + 1) x107.toInt) 125 from funext fun j => hf142 125 j (by decide) (by decide) (by decide) (by decide)), pz_gs, (show u85 125 = (gs (gs g 124 0 x76.toInt) 125 (4 * (g 124 0).toNat) x48.toInt) 125 from funext fun j => hf88 125 j (by decide) (by decide) (by decide) (by decide)), pz_gs, gs_r _ _ _ (by decide)] <;> exact pz_upc2 (by omega) (by omega) (by omega) (by omega))⟩, ok1 ht hG⟩, hS.F ht⟩) hS.2.2 dX9_readStatement_308
                          · skip
                            refine lv_aload_n hx hb dX9_readStatement_292 rfl (lv_at hl 2 rfl) ?_
                            refine ty_iconst hx hb (1) dX9_readStatement_293 (by decide) (fun x170 h171 => ?_)
                            refine cV (va_runV (C := RX9) (As := [.int x170]) (rest := []) ⟨hx, hb, hml, hown, hA⟩ (k_X9_fails l dC dI dA sz X Γ hU u139 h0 t_h0 x170   (by omega)) ⟨callB_of 1 hA (al_A wd_5_102) rfl rfl rfl (hA _ wd_1_7) (hA _ wd_5_99) (by decide +kernel) ⟨Nat.le_of_ble_eq_true rfl, Nat.le_of_ble_eq_true rfl⟩, hA _ wd_5_101, hA _ ws_43⟩ ⟨bl, recv_X9 hE hG t_h0, fun U hU9 hW9 => ⟨rfl, by rw [hU9]; exact hG, hE.go hS hU9 hW9⟩⟩ rfl rfl hl.1 rfl (lv_room (Nat.le_of_ble_eq_true rfl)) dX9_readStatement_294 ⟨Nat.zero_le _, Nat.zero_le _⟩) hS (fun u172 H locs w173 hG hS => ?_)
                            obtain ⟨hf175, w173, hq174⟩ := w173
                            have hM176 : pz_m u172 = pz_bl 1 (pz_nx T N9 (pz_nx T N9 (pz_m g))) := by have h9 := hq174.1 (by omega); rw [show x170.toInt = 1 by omega] at h9; exact h9.trans (congrArg (pz_bl 1) hM143)
                            refine lv_aload_n hx hb dX9_readStatement_297 rfl (lv_at hl 2 rfl) ?_
                            refine get_X9_19 hx hb hA hown hE hG t_h0 wd_4_149 dX9_readStatement_298 (fun x177 h178 => ?_)
                            refine ty_if_ne (tgt := 308) hx hb dX9_readStatement_301 (by decide) (fun c180 => ?_) (fun c180 => ?_)
                            · skip
                              have hk181 : u172 115 0 = u139 115 0 := hf175 115 0 (by decide) (by decide)
                              have hk182 : u172 116 0 = u139 116 0 := hf175 116 0 (by decide) (by decide)
                              have hk183 : u172 124 0 = u139 124 0 := hf175 124 0 (by decide) (by decide)
                              exact W.vret hx hb hr (fun t ht hW => ⟨⟨u172, rfl, ⟨(fun c j h115 h116 h117 h118 h119 h120 h124 h125 => by rw [hf175 c j h119 h120, hf142 c j h115 h116 h117 h118, gs_c _ _ _ _ h125, hf88 c j h115 h116 h117 h118, gs_c _ _ _ _ h125, gs_c _ _ _ _ h124]), (by omega), (by rw [pz_st3 (x := pz_m g) (by rw [pz_k4 (hW6.trans (decide_eq_false (by omega))) (hW13.trans (decide_eq_false (by omega))) (hW20.trans (decide_eq_false (by omega))) (hW27.trans (decide_eq_true (by omega)))]; decide) (by omega), pz_k4 (hW6.trans (decide_eq_false (by omega))) (hW13.trans (decide_eq_false (by omega))) (hW20.trans (decide_eq_false (by omega))) (hW27.trans (decide_eq_true (by omega))), pz_R4 (by decide) (by decide) (by decide), pz_B2 (hW119.trans (decide_eq_false (by omega))) (hW132.trans (decide_eq_true (by omega))), pz_G2 (show ((pz_nx T N9 (pz_nx T N9 (pz_m g)))).2.2.2.2.1 = 0 by rw [← hM143]; show u139 119 0 = 0; omega) (show ((pz_nx T N9 (pz_nx T N9 (pz_m g)))).2.2.1 ≠ 3 by rw [← hM143]; show pz_s (u139 117 0) ≠ 3; exact fun q => absurd (pz_s3.mp q) (by omega))]; exact hM176), (by unfold st_m; rw [if_neg (fun q => q.elim (fun z => absurd z (by rw [pz_k4 (hW6.trans (decide_eq_false (by omega))) (hW13.trans (decide_eq_false (by omega))) (hW20.trans (decide_eq_false (by omega))) (hW27.trans (decide_eq_true (by omega)))]; decide)) (fun z => absurd z (by omega))), pz_k4 (hW6.trans (decide_eq_false (by omega))) (hW13.trans (decide_eq_false (by omega))) (hW20.trans (decide_eq_false (by omega))) (hW27.trans (decide_eq_true (by omega)))]; unfold rr_f; rw [if_neg (by decide), if_neg (by decide), if_neg (by decide)]; rw [pz_R4n (by decide) (by decide) (by decide), pz_B2 (hW119.trans (decide_eq_false (by omega))) (hW132.trans (decide_eq_true (by omega)))]; rw [(show u172 125 = u139 125 from funext fun j => hf175 125 j (by decide) (by decide)), (show u139 125 = (gs u85 125 (4 * (g 124 0).toNat + 1) x107.toInt) 125 from funext fun j => hf142 125 j (by decide) (by decide) (by decide) (by decide)), pz_gs, (show u85 125 = (gs (gs g 124 0 x76.toInt) 125 (4 * (g 124 0).toNat) x48.toInt) 125 from funext fun j => hf88 125 j (by decide) (by decide) (by decide) (by decide)), pz_gs, gs_r _ _ _ (by decide)] <;> exact pz_upc2 (by omega) (by omega) (by omega) (by omega))⟩, ok1 ht hG⟩, hS.F ht⟩) hS.2.2 dX9_readStatement_308
                            · exfalso; omega
                      · skip
                        refine lv_aload_n hx hb dX9_readStatement_162 rfl (lv_at hl 2 rfl) ?_
                        refine ty_iconst hx hb (1) dX9_readStatement_163 (by decide) (fun x184 h185 => ?_)
                        have hk186 : u85 119 0 = (gs (gs g 124 0 x76.toInt) 125 (4 * (g 124 0).toNat) x48.toInt) 119 0 := hf88 119 0 (by decide) (by decide) (by decide) (by decide)
                        replace hk186 : u85 119 0 = g 119 0 := by rw [hk186, gs_c _ _ _ _ (by decide), gs_c _ _ _ _ (by decide)]
                        have e187 : (gs u85 125 (4 * (g 124 0).toNat + 1) x107.toInt) 119 0 = u85 119 0 := by simp [gs]
                        have hM188 : pz_m (gs u85 125 (4 * (g 124 0).toNat + 1) x107.toInt) = (pz_nx T N9 (pz_m g)) := (pz_m_cg (by rw [gs_c _ _ _ _ (by decide)]) (by rw [gs_c _ _ _ _ (by decide)]) (by rw [gs_c _ _ _ _ (by decide)]) (by rw [gs_c _ _ _ _ (by decide)]) (by rw [gs_c _ _ _ _ (by decide)]) (by rw [gs_c _ _ _ _ (by decide)])).trans hM89
                        have e189 : (gs u85 125 (4 * (g 124 0).toNat + 1) x107.toInt) 119 0 = u85 119 0 := by rw [gs_c _ _ _ _ (by decide)]
                        have e190 : (gs u85 125 (4 * (g 124 0).toNat + 1) x107.toInt) 119 0 = u85 119 0 := by rw [gs_c _ _ _ _ (by decide)]
                        refine cV (va_runV (C := RX9) (As := [.int x184]) (rest := []) ⟨hx, hb, hml, hown, hA⟩ (k_X9_fails l dC dI dA sz X Γ hU (gs u85 125 (4 * (g 124 0).toNat + 1) x107.toInt) h0 t_h0 x184   (by omega)) ⟨callB_of 1 hA (al_A wd_5_102) rfl rfl rfl (hA _ wd_1_7) (hA _ wd_5_99) (by decide +kernel) ⟨Nat.le_of_ble_eq_true rfl, Nat.le_of_ble_eq_true rfl⟩, hA _ wd_5_101, hA _ ws_43⟩ ⟨bl, recv_X9 hE hG t_h0, fun U hU9 hW9 => ⟨rfl, by rw [hU9]; exact hG, hE.go hS hU9 hW9⟩⟩ rfl rfl hl.1 rfl (lv_room (Nat.le_of_ble_eq_true rfl)) dX9_readStatement_164 ⟨Nat.zero_le _, Nat.zero_le _⟩) hS (fun u191 H locs w192 hG hS => ?_)
                        obtain ⟨hf194, w192, hq193⟩ := w192
                        have hM195 : pz_m u191 = pz_bl 1 (pz_nx T N9 (pz_m g)) := by have h9 := hq193.1 (by omega); rw [show x184.toInt = 1 by omega] at h9; exact h9.trans (congrArg (pz_bl 1) hM188)
                        refine lv_goto (tgt := 277) hx hb dX9_readStatement_167 (by decide) ?_
                        have hk196 : u191 117 0 = (gs u85 125 (4 * (g 124 0).toNat + 1) x107.toInt) 117 0 := hf194 117 0 (by decide) (by decide)
                        replace hk196 : u191 117 0 = u85 117 0 := by rw [hk196, gs_c _ _ _ _ (by decide)]
                        have hk197 : u191 115 0 = (gs u85 125 (4 * (g 124 0).toNat + 1) x107.toInt) 115 0 := hf194 115 0 (by decide) (by decide)
                        replace hk197 : u191 115 0 = u85 115 0 := by rw [hk197, gs_c _ _ _ _ (by decide)]
                        have hk198 : u191 116 0 = (gs u85 125 (4 * (g 124 0).toNat + 1) x107.toInt) 116 0 := hf194 116 0 (by decide) (by decide)
                        replace hk198 : u191 116 0 = u85 116 0 := by rw [hk198, gs_c _ _ _ _ (by decide)]
                        have hk199 : u191 124 0 = (gs u85 125 (4 * (g 124 0).toNat + 1) x107.toInt) 124 0 := hf194 124 0 (by decide) (by decide)
                        replace hk199 : u191 124 0 = u85 124 0 := by rw [hk199, gs_c _ _ _ _ (by decide)]
                        have hk200 : u85 124 0 = (gs (gs g 124 0 x76.toInt) 125 (4 * (g 124 0).toNat) x48.toInt) 124 0 := hf88 124 0 (by decide) (by decide) (by decide) (by decide)
                        replace hk200 : u85 124 0 = x76.toInt := by rw [hk200, gs_c _ _ _ _ (by decide), gs_self]
                        refine lv_aload_n hx hb dX9_readStatement_277 rfl (lv_at hl 2 rfl) ?_
                        refine get_X9_19 hx hb hA hown hE hG t_h0 wd_4_149 dX9_readStatement_278 (fun x201 h202 => ?_)
                        refine ty_if_ne (tgt := 297) hx hb dX9_readStatement_281 (by decide) (fun c204 => ?_) (fun c204 => ?_)
                        · skip
                          refine lv_aload_n hx hb dX9_readStatement_297 rfl (lv_at hl 2 rfl) ?_
                          refine get_X9_19 hx hb hA hown hE hG t_h0 wd_4_149 dX9_readStatement_298 (fun x205 h206 => ?_)
                          refine ty_if_ne (tgt := 308) hx hb dX9_readStatement_301 (by decide) (fun c208 => ?_) (fun c208 => ?_)
                          · skip
                            exact W.vret hx hb hr (fun t ht hW => ⟨⟨u191, rfl, ⟨(fun c j h115 h116 h117 h118 h119 h120 h124 h125 => by rw [hf194 c j h119 h120, gs_c _ _ _ _ h125, hf88 c j h115 h116 h117 h118, gs_c _ _ _ _ h125, gs_c _ _ _ _ h124]), (by omega), (by rw [pz_st3 (x := pz_m g) (by rw [pz_k4 (hW6.trans (decide_eq_false (by omega))) (hW13.trans (decide_eq_false (by omega))) (hW20.trans (decide_eq_false (by omega))) (hW27.trans (decide_eq_true (by omega)))]; decide) (by omega), pz_k4 (hW6.trans (decide_eq_false (by omega))) (hW13.trans (decide_eq_false (by omega))) (hW20.trans (decide_eq_false (by omega))) (hW27.trans (decide_eq_true (by omega))), pz_R4 (by decide) (by decide) (by decide), pz_B3 (hW119.trans (decide_eq_false (by omega))) (hW132.trans (decide_eq_false (by omega))), pz_G1 (show ((pz_bl 1 (pz_nx T N9 (pz_m g)))).2.2.2.2.1 ≠ 0 by rw [← hM195]; show u191 119 0 ≠ 0; omega)]; exact hM195), (by unfold st_m; rw [if_neg (fun q => q.elim (fun z => absurd z (by rw [pz_k4 (hW6.trans (decide_eq_false (by omega))) (hW13.trans (decide_eq_false (by omega))) (hW20.trans (decide_eq_false (by omega))) (hW27.trans (decide_eq_true (by omega)))]; decide)) (fun z => absurd z (by omega))), pz_k4 (hW6.trans (decide_eq_false (by omega))) (hW13.trans (decide_eq_false (by omega))) (hW20.trans (decide_eq_false (by omega))) (hW27.trans (decide_eq_true (by omega)))]; unfold rr_f; rw [if_neg (by decide), if_neg (by decide), if_neg (by decide)]; rw [pz_R4n (by decide) (by decide) (by decide), pz_B3 (hW119.trans (decide_eq_false (by omega))) (hW132.trans (decide_eq_false (by omega)))]; rw [(show u191 125 = (gs u85 125 (4 * (g 124 0).toNat + 1) x107.toInt) 125 from funext fun j => hf194 125 j (by decide) (by decide)), pz_gs, (show u85 125 = (gs (gs g 124 0 x76.toInt) 125 (4 * (g 124 0).toNat) x48.toInt) 125 from funext fun j => hf88 125 j (by decide) (by decide) (by decide) (by decide)), pz_gs, gs_r _ _ _ (by decide)] <;> exact pz_upc2 (by omega) (by omega) (by omega) (by omega))⟩, ok1 ht hG⟩, hS.F ht⟩) hS.2.2 dX9_readStatement_308
                          · exfalso; omega
                        · exfalso; omega
                  · skip
                    refine ty_iconst hx hb (1) dX9_readStatement_138 (by decide) (fun x209 h210 => ?_)
                    refine lv_goto (tgt := 143) hx hb dX9_readStatement_139 (by decide) ?_
                    refine ast_mI hx hb hE hG hS hU 25 rfl (n := 120) rfl (lo := -2147483648) (hi := 2147483647) rfl rfl rfl t_b93 (rgD _) (by omega) dX9_readStatement_143 (fun H locs hG hS => ?_)
                    rw [show x96.toInt.toNat = (4 * (g 124 0).toNat + 1) by omega] at hG
                    refine lv_aload_n hx hb dX9_readStatement_144 rfl (lv_at hl 2 rfl) ?_
                    refine va_ldcS hx hb hown (hES.1 10 (by decide)).1 dX9_readStatement_145 ?_
                    have hM211 : pz_m (gs u85 125 (4 * (g 124 0).toNat + 1) x209.toInt) = (pz_nx T N9 (pz_m g)) := (pz_m_cg (by rw [gs_c _ _ _ _ (by decide)]) (by rw [gs_c _ _ _ _ (by decide)]) (by rw [gs_c _ _ _ _ (by decide)]) (by rw [gs_c _ _ _ _ (by decide)]) (by rw [gs_c _ _ _ _ (by decide)]) (by rw [gs_c _ _ _ _ (by decide)])).trans hM89
                    have e212 : (gs u85 125 (4 * (g 124 0).toNat + 1) x209.toInt) 114 0 = u85 114 0 := by rw [gs_c _ _ _ _ (by decide)]
                    have e213 : (gs u85 125 (4 * (g 124 0).toNat + 1) x209.toInt) 115 0 = u85 115 0 := by rw [gs_c _ _ _ _ (by decide)]
                    have e214 : (gs u85 125 (4 * (g 124 0).toNat + 1) x209.toInt) 116 0 = u85 116 0 := by rw [gs_c _ _ _ _ (by decide)]
                    have e215 : (gs u85 125 (4 * (g 124 0).toNat + 1) x209.toInt) 114 0 = u85 114 0 := by rw [gs_c _ _ _ _ (by decide)]
                    refine cI (va_runV (C := RX9) (As := [.ref (dI 100 10)]) (rest := []) ⟨hx, hb, hml, hown, hA⟩ (k_X9_isWord l dC dI dA sz X Γ hU (gs u85 125 (4 * (g 124 0).toNat + 1) x209.toInt) h0 t_h0 10 (by decide) T N9  (by omega) ((funext fun j => show (gs u85 125 (4 * (g 124 0).toNat + 1) x209.toInt) 113 j % 256 = g 113 j % 256 by rw [gs_c _ _ _ _ (by decide), hf88 113 j (by decide) (by decide) (by decide) (by decide), gs_c _ _ _ _ (by decide), gs_c _ _ _ _ (by decide)]).trans hT) (by omega)) ⟨callB_of 1 hA (al_A wd_5_93) rfl rfl rfl (hA _ wd_1_7) (hA _ wd_5_90) (by decide +kernel) ⟨Nat.le_of_ble_eq_true rfl, Nat.le_of_ble_eq_true rfl⟩, hA _ wd_5_92, hA _ ws_42⟩ ⟨bl, recv_X9 hE hG t_h0, fun U hU9 hW9 => ⟨rfl, by rw [hU9]; exact hG, hE.go hS hU9 hW9⟩⟩ rfl rfl hl.1 rfl (lv_room (Nat.le_of_ble_eq_true rfl)) dX9_readStatement_147 ⟨Nat.zero_le _, Nat.zero_le _⟩) hS (fun x218 u216 H locs w217 hG hS => ?_)
                    obtain ⟨eu220, w217, hq219⟩ := w217
                    rw [eu220] at hG
                    have hW221 : pz_W T (pz_nx T N9 (pz_m g)) (sB 10) = decide (x218.toInt = 1) := by have h9 := hq219; rw [hM211] at h9; exact h9
                    have hcl222 := pz_cl hW105 hW221
                    refine ty_if_ne (tgt := 170) hx hb dX9_readStatement_150 (by decide) (fun c223 => ?_) (fun c223 => ?_)
                    · skip
                      refine lv_aload_n hx hb dX9_readStatement_170 rfl (lv_at hl 2 rfl) ?_
                      have hM224 : pz_m (gs u85 125 (4 * (g 124 0).toNat + 1) x209.toInt) = (pz_nx T N9 (pz_m g)) := (pz_m_cg (by rw [gs_c _ _ _ _ (by decide)]) (by rw [gs_c _ _ _ _ (by decide)]) (by rw [gs_c _ _ _ _ (by decide)]) (by rw [gs_c _ _ _ _ (by decide)]) (by rw [gs_c _ _ _ _ (by decide)]) (by rw [gs_c _ _ _ _ (by decide)])).trans hM89
                      have e225 : (gs u85 125 (4 * (g 124 0).toNat + 1) x209.toInt) 114 0 = u85 114 0 := by rw [gs_c _ _ _ _ (by decide)]
                      have e226 : (gs u85 125 (4 * (g 124 0).toNat + 1) x209.toInt) 115 0 = u85 115 0 := by rw [gs_c _ _ _ _ (by decide)]
                      have e227 : (gs u85 125 (4 * (g 124 0).toNat + 1) x209.toInt) 114 0 = u85 114 0 := by rw [gs_c _ _ _ _ (by decide)]
                      have e228 : (gs u85 125 (4 * (g 124 0).toNat + 1) x209.toInt) 114 0 = u85 114 0 := by rw [gs_c _ _ _ _ (by decide)]
                      refine cV (va_runV (C := RX9) (As := []) (rest := []) ⟨hx, hb, hml, hown, hA⟩ (k_X9_next l dC dI dA sz X Γ hU (gs u85 125 (4 * (g 124 0).toNat + 1) x209.toInt) h0 t_h0 T N9  (by omega) ((funext fun j => show (gs u85 125 (4 * (g 124 0).toNat + 1) x209.toInt) 113 j % 256 = g 113 j % 256 by rw [gs_c _ _ _ _ (by decide), hf88 113 j (by decide) (by decide) (by decide) (by decide), gs_c _ _ _ _ (by decide), gs_c _ _ _ _ (by decide)]).trans hT) (by omega)) ⟨callB_of 0 hA (al_A wd_5_74) rfl rfl rfl (hA _ wd_1_7) (hA _ wd_5_71) (by decide +kernel) ⟨Nat.le_of_ble_eq_true rfl, Nat.le_of_ble_eq_true rfl⟩, hA _ wd_5_73, hA _ ws_39⟩ ⟨bl, recv_X9 hE hG t_h0, fun U hU9 hW9 => ⟨rfl, by rw [hU9]; exact hG, hE.go hS hU9 hW9⟩⟩ rfl rfl hl.1 rfl (lv_room (Nat.le_of_ble_eq_true rfl)) dX9_readStatement_171 ⟨Nat.zero_le _, Nat.zero_le _⟩) hS (fun u229 H locs w230 hG hS => ?_)
                      obtain ⟨hf232, w230, hq231⟩ := w230
                      have hM233 : pz_m u229 = (pz_nx T N9 (pz_nx T N9 (pz_m g))) := hq231.trans (congrArg (pz_nx T N9) hM224)
                      refine lv_goto (tgt := 277) hx hb dX9_readStatement_174 (by decide) ?_
                      have hk234 : u229 119 0 = (gs u85 125 (4 * (g 124 0).toNat + 1) x209.toInt) 119 0 := hf232 119 0 (by decide) (by decide) (by decide) (by decide)
                      replace hk234 : u229 119 0 = u85 119 0 := by rw [hk234, gs_c _ _ _ _ (by decide)]
                      have hk235 : u85 119 0 = (gs (gs g 124 0 x76.toInt) 125 (4 * (g 124 0).toNat) x48.toInt) 119 0 := hf88 119 0 (by decide) (by decide) (by decide) (by decide)
                      replace hk235 : u85 119 0 = g 119 0 := by rw [hk235, gs_c _ _ _ _ (by decide), gs_c _ _ _ _ (by decide)]
                      have hk236 : u229 124 0 = (gs u85 125 (4 * (g 124 0).toNat + 1) x209.toInt) 124 0 := hf232 124 0 (by decide) (by decide) (by decide) (by decide)
                      replace hk236 : u229 124 0 = u85 124 0 := by rw [hk236, gs_c _ _ _ _ (by decide)]
                      have hk237 : u85 124 0 = (gs (gs g 124 0 x76.toInt) 125 (4 * (g 124 0).toNat) x48.toInt) 124 0 := hf88 124 0 (by decide) (by decide) (by decide) (by decide)
                      replace hk237 : u85 124 0 = x76.toInt := by rw [hk237, gs_c _ _ _ _ (by decide), gs_self]
                      refine lv_aload_n hx hb dX9_readStatement_277 rfl (lv_at hl 2 rfl) ?_
                      refine get_X9_19 hx hb hA hown hE hG t_h0 wd_4_149 dX9_readStatement_278 (fun x238 h239 => ?_)
                      refine ty_if_ne (tgt := 297) hx hb dX9_readStatement_281 (by decide) (fun c241 => ?_) (fun c241 => ?_)
                      · exfalso; omega
                      · skip
                        refine lv_aload_n hx hb dX9_readStatement_284 rfl (lv_at hl 2 rfl) ?_
                        refine get_X9_17 hx hb hA hown hE hG t_h0 wd_4_147 dX9_readStatement_285 (fun x242 h243 => ?_)
                        refine ty_iconst hx hb (4) dX9_readStatement_288 (by decide) (fun x245 h246 => ?_)
                        refine ty_icmp_eq (tgt := 297) hx hb dX9_readStatement_289 (by decide) (fun c247 => ?_) (fun c247 => ?_)
                        · skip
                          refine lv_aload_n hx hb dX9_readStatement_297 rfl (lv_at hl 2 rfl) ?_
                          refine get_X9_19 hx hb hA hown hE hG t_h0 wd_4_149 dX9_readStatement_298 (fun x248 h249 => ?_)
                          refine ty_if_ne (tgt := 308) hx hb dX9_readStatement_301 (by decide) (fun c251 => ?_) (fun c251 => ?_)
                          · exfalso; omega
                          · skip
                            refine lv_aload_n hx hb dX9_readStatement_304 rfl (lv_at hl 2 rfl) ?_
                            have hk252 : u229 114 0 = (gs u85 125 (4 * (g 124 0).toNat + 1) x209.toInt) 114 0 := hf232 114 0 (by decide) (by decide) (by decide) (by decide)
                            replace hk252 : u229 114 0 = u85 114 0 := by rw [hk252, gs_c _ _ _ _ (by decide)]
                            refine cV (va_runV (C := RX9) (As := []) (rest := []) ⟨hx, hb, hml, hown, hA⟩ (k_X9_next l dC dI dA sz X Γ hU u229 h0 t_h0 T N9  (by omega) ((funext fun j => show u229 113 j % 256 = g 113 j % 256 by rw [hf232 113 j (by decide) (by decide) (by decide) (by decide), gs_c _ _ _ _ (by decide), hf88 113 j (by decide) (by decide) (by decide) (by decide), gs_c _ _ _ _ (by decide), gs_c _ _ _ _ (by decide)]).trans hT) (by omega)) ⟨callB_of 0 hA (al_A wd_5_74) rfl rfl rfl (hA _ wd_1_7) (hA _ wd_5_71) (by decide +kernel) ⟨Nat.le_of_ble_eq_true rfl, Nat.le_of_ble_eq_true rfl⟩, hA _ wd_5_73, hA _ ws_39⟩ ⟨bl, recv_X9 hE hG t_h0, fun U hU9 hW9 => ⟨rfl, by rw [hU9]; exact hG, hE.go hS hU9 hW9⟩⟩ rfl rfl hl.1 rfl (lv_room (Nat.le_of_ble_eq_true rfl)) dX9_readStatement_305 ⟨Nat.zero_le _, Nat.zero_le _⟩) hS (fun u253 H locs w254 hG hS => ?_)
                            obtain ⟨hf256, w254, hq255⟩ := w254
                            have hM257 : pz_m u253 = (pz_nx T N9 (pz_nx T N9 (pz_nx T N9 (pz_m g)))) := hq255.trans (congrArg (pz_nx T N9) hM233)
                            have hk258 : u253 119 0 = u229 119 0 := hf256 119 0 (by decide) (by decide) (by decide) (by decide)
                            have hk259 : u253 124 0 = u229 124 0 := hf256 124 0 (by decide) (by decide) (by decide) (by decide)
                            exact W.vret hx hb hr (fun t ht hW => ⟨⟨u253, rfl, ⟨(fun c j h115 h116 h117 h118 h119 h120 h124 h125 => by rw [hf256 c j h115 h116 h117 h118, hf232 c j h115 h116 h117 h118, gs_c _ _ _ _ h125, hf88 c j h115 h116 h117 h118, gs_c _ _ _ _ h125, gs_c _ _ _ _ h124]), (by omega), (by rw [pz_st3 (x := pz_m g) (by rw [pz_k4 (hW6.trans (decide_eq_false (by omega))) (hW13.trans (decide_eq_false (by omega))) (hW20.trans (decide_eq_false (by omega))) (hW27.trans (decide_eq_true (by omega)))]; decide) (by omega), pz_k4 (hW6.trans (decide_eq_false (by omega))) (hW13.trans (decide_eq_false (by omega))) (hW20.trans (decide_eq_false (by omega))) (hW27.trans (decide_eq_true (by omega))), pz_R4 (by decide) (by decide) (by decide), pz_B1 (hW221.trans (decide_eq_true (by omega))), pz_G3 (show ((pz_nx T N9 (pz_nx T N9 (pz_m g)))).2.2.2.2.1 = 0 by rw [← hM233]; show u229 119 0 = 0; omega) (show ((pz_nx T N9 (pz_nx T N9 (pz_m g)))).2.2.1 = 3 by rw [← hM233]; show pz_s (u229 117 0) = 3; exact pz_s3.mpr (by omega))]; exact hM257), (by unfold st_m; rw [if_neg (fun q => q.elim (fun z => absurd z (by rw [pz_k4 (hW6.trans (decide_eq_false (by omega))) (hW13.trans (decide_eq_false (by omega))) (hW20.trans (decide_eq_false (by omega))) (hW27.trans (decide_eq_true (by omega)))]; decide)) (fun z => absurd z (by omega))), pz_k4 (hW6.trans (decide_eq_false (by omega))) (hW13.trans (decide_eq_false (by omega))) (hW20.trans (decide_eq_false (by omega))) (hW27.trans (decide_eq_true (by omega)))]; unfold rr_f; rw [if_neg (by decide), if_neg (by decide), if_neg (by decide)]; rw [pz_R4n (by decide) (by decide) (by decide), pz_B1 (hW221.trans (decide_eq_true (by omega)))]; rw [(show u253 125 = u229 125 from funext fun j => hf256 125 j (by decide) (by decide) (by decide) (by decide)), (show u229 125 = (gs u85 125 (4 * (g 124 0).toNat + 1) x209.toInt) 125 from funext fun j => hf232 125 j (by decide) (by decide) (by decide) (by decide)), pz_gs, (show u85 125 = (gs (gs g 124 0 x76.toInt) 125 (4 * (g 124 0).toNat) x48.toInt) 125 from funext fun j => hf88 125 j (by decide) (by decide) (by decide) (by decide)), pz_gs, gs_r _ _ _ (by decide)] <;> exact pz_upc2 (by omega) (by omega) (by omega) (by omega))⟩, ok1 ht hG⟩, hS.F ht⟩) hS.2.2 dX9_readStatement_308
                        · skip
                          refine lv_aload_n hx hb dX9_readStatement_292 rfl (lv_at hl 2 rfl) ?_
                          refine ty_iconst hx hb (1) dX9_readStatement_293 (by decide) (fun x260 h261 => ?_)
                          refine cV (va_runV (C := RX9) (As := [.int x260]) (rest := []) ⟨hx, hb, hml, hown, hA⟩ (k_X9_fails l dC dI dA sz X Γ hU u229 h0 t_h0 x260   (by omega)) ⟨callB_of 1 hA (al_A wd_5_102) rfl rfl rfl (hA _ wd_1_7) (hA _ wd_5_99) (by decide +kernel) ⟨Nat.le_of_ble_eq_true rfl, Nat.le_of_ble_eq_true rfl⟩, hA _ wd_5_101, hA _ ws_43⟩ ⟨bl, recv_X9 hE hG t_h0, fun U hU9 hW9 => ⟨rfl, by rw [hU9]; exact hG, hE.go hS hU9 hW9⟩⟩ rfl rfl hl.1 rfl (lv_room (Nat.le_of_ble_eq_true rfl)) dX9_readStatement_294 ⟨Nat.zero_le _, Nat.zero_le _⟩) hS (fun u262 H locs w263 hG hS => ?_)
                          obtain ⟨hf265, w263, hq264⟩ := w263
                          have hM266 : pz_m u262 = pz_bl 1 (pz_nx T N9 (pz_nx T N9 (pz_m g))) := by have h9 := hq264.1 (by omega); rw [show x260.toInt = 1 by omega] at h9; exact h9.trans (congrArg (pz_bl 1) hM233)
                          refine lv_aload_n hx hb dX9_readStatement_297 rfl (lv_at hl 2 rfl) ?_
                          refine get_X9_19 hx hb hA hown hE hG t_h0 wd_4_149 dX9_readStatement_298 (fun x267 h268 => ?_)
                          refine ty_if_ne (tgt := 308) hx hb dX9_readStatement_301 (by decide) (fun c270 => ?_) (fun c270 => ?_)
                          · skip
                            have hk271 : u262 115 0 = u229 115 0 := hf265 115 0 (by decide) (by decide)
                            have hk272 : u262 116 0 = u229 116 0 := hf265 116 0 (by decide) (by decide)
                            have hk273 : u262 124 0 = u229 124 0 := hf265 124 0 (by decide) (by decide)
                            exact W.vret hx hb hr (fun t ht hW => ⟨⟨u262, rfl, ⟨(fun c j h115 h116 h117 h118 h119 h120 h124 h125 => by rw [hf265 c j h119 h120, hf232 c j h115 h116 h117 h118, gs_c _ _ _ _ h125, hf88 c j h115 h116 h117 h118, gs_c _ _ _ _ h125, gs_c _ _ _ _ h124]), (by omega), (by rw [pz_st3 (x := pz_m g) (by rw [pz_k4 (hW6.trans (decide_eq_false (by omega))) (hW13.trans (decide_eq_false (by omega))) (hW20.trans (decide_eq_false (by omega))) (hW27.trans (decide_eq_true (by omega)))]; decide) (by omega), pz_k4 (hW6.trans (decide_eq_false (by omega))) (hW13.trans (decide_eq_false (by omega))) (hW20.trans (decide_eq_false (by omega))) (hW27.trans (decide_eq_true (by omega))), pz_R4 (by decide) (by decide) (by decide), pz_B1 (hW221.trans (decide_eq_true (by omega))), pz_G2 (show ((pz_nx T N9 (pz_nx T N9 (pz_m g)))).2.2.2.2.1 = 0 by rw [← hM233]; show u229 119 0 = 0; omega) (show ((pz_nx T N9 (pz_nx T N9 (pz_m g)))).2.2.1 ≠ 3 by rw [← hM233]; show pz_s (u229 117 0) ≠ 3; exact fun q => absurd (pz_s3.mp q) (by omega))]; exact hM266), (by unfold st_m; rw [if_neg (fun q => q.elim (fun z => absurd z (by rw [pz_k4 (hW6.trans (decide_eq_false (by omega))) (hW13.trans (decide_eq_false (by omega))) (hW20.trans (decide_eq_false (by omega))) (hW27.trans (decide_eq_true (by omega)))]; decide)) (fun z => absurd z (by omega))), pz_k4 (hW6.trans (decide_eq_false (by omega))) (hW13.trans (decide_eq_false (by omega))) (hW20.trans (decide_eq_false (by omega))) (hW27.trans (decide_eq_true (by omega)))]; unfold rr_f; rw [if_neg (by decide), if_neg (by decide), if_neg (by decide)]; rw [pz_R4n (by decide) (by decide) (by decide), pz_B1 (hW221.trans (decide_eq_true (by omega)))]; rw [(show u262 125 = u229 125 from funext fun j => hf265 125 j (by decide) (by decide)), (show u229 125 = (gs u85 125 (4 * (g 124 0).toNat + 1) x209.toInt) 125 from funext fun j => hf232 125 j (by decide) (by decide) (by decide) (by decide)), pz_gs, (show u85 125 = (gs (gs g 124 0 x76.toInt) 125 (4 * (g 124 0).toNat) x48.toInt) 125 from funext fun j => hf88 125 j (by decide) (by decide) (by decide) (by decide)), pz_gs, gs_r _ _ _ (by decide)] <;> exact pz_upc2 (by omega) (by omega) (by omega) (by omega))⟩, ok1 ht hG⟩, hS.F ht⟩) hS.2.2 dX9_readStatement_308
                          · exfalso; omega
                    · exfalso; omega
              · exfalso; omega
            · skip
              refine lv_aload_n hx hb dX9_readStatement_76 rfl (lv_at hl 1 rfl) ?_
              refine ty_iconst hx hb (3) dX9_readStatement_77 (by decide) (fun x274 h275 => ?_)
              refine cV (va_runV (C := RX9) (As := [.int x274]) (rest := []) ⟨hx, hb, hml, hown, hA⟩ (k_X9_fails l dC dI dA sz X Γ hU g h0 t_h0 x274   (by omega)) ⟨callB_of 1 hA (al_A wd_5_102) rfl rfl rfl (hA _ wd_1_7) (hA _ wd_5_99) (by decide +kernel) ⟨Nat.le_of_ble_eq_true rfl, Nat.le_of_ble_eq_true rfl⟩, hA _ wd_5_101, hA _ ws_43⟩ ⟨bl, recv_X9 hE hG t_h0, fun U hU9 hW9 => ⟨rfl, by rw [hU9]; exact hG, hE.go hS hU9 hW9⟩⟩ rfl rfl hl.1 rfl (lv_room (Nat.le_of_ble_eq_true rfl)) dX9_readStatement_78 ⟨Nat.zero_le _, Nat.zero_le _⟩) hS (fun u276 H locs w277 hG hS => ?_)
              obtain ⟨hf279, w277, hq278⟩ := w277
              have hM280 : pz_m u276 = pz_bl 3 (pz_m g) := by have h9 := hq278.1 (by omega); rw [show x274.toInt = 3 by omega] at h9; exact h9.trans (congrArg (pz_bl 3) rfl)
              refine lv_aload_n hx hb dX9_readStatement_81 rfl (lv_at hl 1 rfl) ?_
              refine get_X9_19 hx hb hA hown hE hG t_h0 wd_4_149 dX9_readStatement_82 (fun x281 h282 => ?_)
              refine ty_if_eq (tgt := 89) hx hb dX9_readStatement_85 (by decide) (fun c284 => ?_) (fun c284 => ?_)
              · exfalso; omega
              · skip
                have hk285 : u276 115 0 = g 115 0 := hf279 115 0 (by decide) (by decide)
                have hk286 : u276 116 0 = g 116 0 := hf279 116 0 (by decide) (by decide)
                have hk287 : u276 124 0 = g 124 0 := hf279 124 0 (by decide) (by decide)
                exact W.vret hx hb hr (fun t ht hW => ⟨⟨u276, rfl, ⟨(fun c j h115 h116 h117 h118 h119 h120 h124 h125 => by rw [hf279 c j h119 h120]), (by omega), (by rw [pz_st2 (x := pz_m g) (by rw [pz_k4 (hW6.trans (decide_eq_false (by omega))) (hW13.trans (decide_eq_false (by omega))) (hW20.trans (decide_eq_false (by omega))) (hW27.trans (decide_eq_true (by omega)))]; decide) (by omega)]; exact hM280), (by unfold st_m; rw [if_pos (Or.inr (by omega))]; rw [(show u276 125 = g 125 from funext fun j => hf279 125 j (by decide) (by decide))])⟩, ok1 ht hG⟩, hS.F ht⟩) hS.2.2 dX9_readStatement_88
          · exfalso; omega
      · skip
        refine ty_iconst hx hb (2) dX9_readStatement_35 (by decide) (fun x288 h289 => ?_)
        refine lv_goto (tgt := 53) hx hb dX9_readStatement_36 (by decide) ?_
        refine lv_istore_n (lv' := [(1, .int x288), (0, .ref h0)]) hx hb dX9_readStatement_53 rfl hl (by decide) rfl (fun ls hl => ?_)
        refine lv_iload_n hx hb dX9_readStatement_54 rfl (lv_at hl 0 rfl) ?_
        refine ty_iconst hx hb (-1) dX9_readStatement_55 (by decide) (fun x290 h291 => ?_)
        refine ty_icmp_ne (tgt := 67) hx hb dX9_readStatement_56 (by decide) (fun c292 => ?_) (fun c292 => ?_)
        · skip
          refine lv_aload_n hx hb dX9_readStatement_67 rfl (lv_at hl 1 rfl) ?_
          refine get_X9_24 hx hb hA hown hE hG t_h0 wd_4_154 dX9_readStatement_68 (fun x293 h294 => ?_)
          refine ty_bipush hx hb (30) dX9_readStatement_71 (by decide) (fun x296 h297 => ?_)
          refine ty_icmp_ne (tgt := 81) hx hb dX9_readStatement_73 (by decide) (fun c298 => ?_) (fun c298 => ?_)
          · skip
            refine lv_aload_n hx hb dX9_readStatement_81 rfl (lv_at hl 1 rfl) ?_
            refine get_X9_19 hx hb hA hown hE hG t_h0 wd_4_149 dX9_readStatement_82 (fun x299 h300 => ?_)
            refine ty_if_eq (tgt := 89) hx hb dX9_readStatement_85 (by decide) (fun c302 => ?_) (fun c302 => ?_)
            · skip
              refine ty_iconst hx hb (4) dX9_readStatement_89 (by decide) (fun x303 h304 => ?_)
              refine lv_aload_n hx hb dX9_readStatement_90 rfl (lv_at hl 1 rfl) ?_
              refine get_X9_24 hx hb hA hown hE hG t_h0 wd_4_154 dX9_readStatement_91 (fun x305 h306 => ?_)
              refine ty_imul hx hb dX9_readStatement_94 (fun x308 h309 => ?_)
              try have h310 : x308.toInt = 4 * x305.toInt := ty_mull h309 (by omega) (by omega) (by omega)
              refine lv_istore_n (lv' := [(2, .int x308), (1, .int x288), (0, .ref h0)]) hx hb dX9_readStatement_95 rfl hl (by decide) rfl (fun ls hl => ?_)
              refine lv_aload_n hx hb dX9_readStatement_96 rfl (lv_at hl 2 rfl) ?_
              refine lv_dup hx hb dX9_readStatement_97 rfl ?_
              refine get_X9_24 hx hb hA hown hE hG t_h0 wd_4_154 dX9_readStatement_98 (fun x311 h312 => ?_)
              refine ty_iconst hx hb (1) dX9_readStatement_101 (by decide) (fun x314 h315 => ?_)
              refine ty_iadd hx hb dX9_readStatement_102 (fun x316 h317 => ?_)
              try have h318 : x316.toInt = x311.toInt + x314.toInt := ty_add h317 (by omega) (by omega)
              refine put_X9_24 hx hb hA hown hE hG hS hU t_h0 wd_4_154 dX9_readStatement_103 (fun H locs hG hS => ?_)
              refine lv_aload_n hx hb dX9_readStatement_106 rfl (lv_at hl 2 rfl) ?_
              refine get_X9_25 hx hb hA hown hE hG t_h0 wd_4_155 dX9_readStatement_107 (fun b319 (t_b319 : ty Γ b319 125) => ?_)
              refine lv_iload_n hx hb dX9_readStatement_110 rfl (lv_at hl 0 rfl) ?_
              refine lv_iload_n hx hb dX9_readStatement_111 rfl (lv_at hl 1 rfl) ?_
              refine ast_mI hx hb hE hG hS hU 25 rfl (n := 120) rfl (lo := -2147483648) (hi := 2147483647) rfl rfl rfl t_b319 (rgD _) (by omega) dX9_readStatement_112 (fun H locs hG hS => ?_)
              rw [show x308.toInt.toNat = (4 * (g 124 0).toNat) by omega] at hG
              refine lv_aload_n hx hb dX9_readStatement_113 rfl (lv_at hl 2 rfl) ?_
              have hM320 : pz_m (gs (gs g 124 0 x316.toInt) 125 (4 * (g 124 0).toNat) x288.toInt) = (pz_m g) := (pz_m_cg (by rw [gs_c _ _ _ _ (by decide), gs_c _ _ _ _ (by decide)]) (by rw [gs_c _ _ _ _ (by decide), gs_c _ _ _ _ (by decide)]) (by rw [gs_c _ _ _ _ (by decide), gs_c _ _ _ _ (by decide)]) (by rw [gs_c _ _ _ _ (by decide), gs_c _ _ _ _ (by decide)]) (by rw [gs_c _ _ _ _ (by decide), gs_c _ _ _ _ (by decide)]) (by rw [gs_c _ _ _ _ (by decide), gs_c _ _ _ _ (by decide)])).trans rfl
              have e321 : (gs (gs g 124 0 x316.toInt) 125 (4 * (g 124 0).toNat) x288.toInt) 114 0 = g 114 0 := by rw [gs_c _ _ _ _ (by decide), gs_c _ _ _ _ (by decide)]
              have e322 : (gs (gs g 124 0 x316.toInt) 125 (4 * (g 124 0).toNat) x288.toInt) 115 0 = g 115 0 := by rw [gs_c _ _ _ _ (by decide), gs_c _ _ _ _ (by decide)]
              have e323 : (gs (gs g 124 0 x316.toInt) 125 (4 * (g 124 0).toNat) x288.toInt) 114 0 = g 114 0 := by rw [gs_c _ _ _ _ (by decide), gs_c _ _ _ _ (by decide)]
              have e324 : (gs (gs g 124 0 x316.toInt) 125 (4 * (g 124 0).toNat) x288.toInt) 114 0 = g 114 0 := by rw [gs_c _ _ _ _ (by decide), gs_c _ _ _ _ (by decide)]
              refine cV (va_runV (C := RX9) (As := []) (rest := []) ⟨hx, hb, hml, hown, hA⟩ (k_X9_next l dC dI dA sz X Γ hU (gs (gs g 124 0 x316.toInt) 125 (4 * (g 124 0).toNat) x288.toInt) h0 t_h0 T N9  (by omega) ((funext fun j => show (gs (gs g 124 0 x316.toInt) 125 (4 * (g 124 0).toNat) x288.toInt) 113 j % 256 = g 113 j % 256 by rw [gs_c _ _ _ _ (by decide), gs_c _ _ _ _ (by decide)]).trans hT) (by omega)) ⟨callB_of 0 hA (al_A wd_5_74) rfl rfl rfl (hA _ wd_1_7) (hA _ wd_5_71) (by decide +kernel) ⟨Nat.le_of_ble_eq_true rfl, Nat.le_of_ble_eq_true rfl⟩, hA _ wd_5_73, hA _ ws_39⟩ ⟨bl, recv_X9 hE hG t_h0, fun U hU9 hW9 => ⟨rfl, by rw [hU9]; exact hG, hE.go hS hU9 hW9⟩⟩ rfl rfl hl.1 rfl (lv_room (Nat.le_of_ble_eq_true rfl)) dX9_readStatement_114 ⟨Nat.zero_le _, Nat.zero_le _⟩) hS (fun u325 H locs w326 hG hS => ?_)
              obtain ⟨hf328, w326, hq327⟩ := w326
              have hM329 : pz_m u325 = (pz_nx T N9 (pz_m g)) := hq327.trans (congrArg (pz_nx T N9) hM320)
              refine lv_iload_n hx hb dX9_readStatement_117 rfl (lv_at hl 1 rfl) ?_
              refine ty_iconst hx hb (3) dX9_readStatement_118 (by decide) (fun x330 h331 => ?_)
              refine ty_icmp_ne (tgt := 177) hx hb dX9_readStatement_119 (by decide) (fun c332 => ?_) (fun c332 => ?_)
              · skip
                refine lv_aload_n hx hb dX9_readStatement_177 rfl (lv_at hl 2 rfl) ?_
                refine get_X9_25 hx hb hA hown hE hG t_h0 wd_4_155 dX9_readStatement_178 (fun b333 (t_b333 : ty Γ b333 125) => ?_)
                refine lv_iload_n hx hb dX9_readStatement_181 rfl (lv_at hl 0 rfl) ?_
                refine ty_iconst hx hb (1) dX9_readStatement_182 (by decide) (fun x334 h335 => ?_)
                refine ty_iadd hx hb dX9_readStatement_183 (fun x336 h337 => ?_)
                try have h338 : x336.toInt = x308.toInt + x334.toInt := ty_add h337 (by omega) (by omega)
                refine lv_iload_n hx hb dX9_readStatement_184 rfl (lv_at hl 1 rfl) ?_
                refine ty_if_ne (tgt := 198) hx hb dX9_readStatement_185 (by decide) (fun c339 => ?_) (fun c339 => ?_)
                · skip
                  refine lv_iload_n hx hb dX9_readStatement_198 rfl (lv_at hl 1 rfl) ?_
                  refine ty_iconst hx hb (1) dX9_readStatement_199 (by decide) (fun x340 h341 => ?_)
                  refine ty_icmp_ne (tgt := 212) hx hb dX9_readStatement_200 (by decide) (fun c342 => ?_) (fun c342 => ?_)
                  · skip
                    refine lv_aload_n hx hb dX9_readStatement_212 rfl (lv_at hl 2 rfl) ?_
                    refine ty_iconst hx hb (0) dX9_readStatement_213 (by decide) (fun x343 h344 => ?_)
                    refine ty_bipush hx hb (52) dX9_readStatement_214 (by decide) (fun x345 h346 => ?_)
                    have hk347 : u325 114 0 = (gs (gs g 124 0 x316.toInt) 125 (4 * (g 124 0).toNat) x288.toInt) 114 0 := hf328 114 0 (by decide) (by decide) (by decide) (by decide)
                    replace hk347 : u325 114 0 = g 114 0 := by rw [hk347, gs_c _ _ _ _ (by decide), gs_c _ _ _ _ (by decide)]
                    have hk348 : u325 119 0 = (gs (gs g 124 0 x316.toInt) 125 (4 * (g 124 0).toNat) x288.toInt) 119 0 := hf328 119 0 (by decide) (by decide) (by decide) (by decide)
                    replace hk348 : u325 119 0 = g 119 0 := by rw [hk348, gs_c _ _ _ _ (by decide), gs_c _ _ _ _ (by decide)]
                    refine cI (va_runV (C := RX9) (As := [.int x343, .int x345]) (rest := [.int x336, .ref b333]) ⟨hx, hb, hml, hown, hA⟩ (k_X9_number l dC dI dA sz X Γ hU u325 h0 t_h0 x343 x345 T N9  (by omega) (by omega) ((funext fun j => show u325 113 j % 256 = g 113 j % 256 by rw [hf328 113 j (by decide) (by decide) (by decide) (by decide), gs_c _ _ _ _ (by decide), gs_c _ _ _ _ (by decide)]).trans hT) (by omega)) ⟨callB_of 2 hA (al_A wd_5_108) rfl rfl rfl (hA _ wd_1_7) (hA _ wd_5_105) (by decide +kernel) ⟨Nat.le_of_ble_eq_true rfl, Nat.le_of_ble_eq_true rfl⟩, hA _ wd_5_107, hA _ ws_44⟩ ⟨bl, recv_X9 hE hG t_h0, fun U hU9 hW9 => ⟨rfl, by rw [hU9]; exact hG, hE.go hS hU9 hW9⟩⟩ rfl rfl hl.1 rfl (lv_room (Nat.le_of_ble_eq_true rfl)) dX9_readStatement_216 ⟨Nat.zero_le _, Nat.zero_le _⟩) hS (fun x351 u349 H locs w350 hG hS => ?_)
                    obtain ⟨hf353, w350, hq352⟩ := w350
                    have hM354 : pz_m u349 = (pz_N T N9 0 52 (pz_nx T N9 (pz_m g))).1 ∧ x351.toInt = (pz_N T N9 0 52 (pz_nx T N9 (pz_m g))).2 := by have h9 := hq352; rw [show x343.toInt = 0 by omega, show x345.toInt = 52 by omega] at h9; rw [← hM329]; exact h9
                    have hN355 := hM354.2
                    replace hM354 := hM354.1
                    refine ast_mI hx hb hE hG hS hU 25 rfl (n := 120) rfl (lo := -2147483648) (hi := 2147483647) rfl rfl rfl t_b333 (rgD _) (by omega) dX9_readStatement_219 (fun H locs hG hS => ?_)
                    rw [show x336.toInt.toNat = (4 * (g 124 0).toNat + 1) by omega] at hG
                    refine lv_aload_n hx hb dX9_readStatement_220 rfl (lv_at hl 2 rfl) ?_
                    refine get_X9_25 hx hb hA hown hE hG t_h0 wd_4_155 dX9_readStatement_221 (fun b356 (t_b356 : ty Γ b356 125) => ?_)
                    refine lv_iload_n hx hb dX9_readStatement_224 rfl (lv_at hl 0 rfl) ?_
                    refine ty_iconst hx hb (2) dX9_readStatement_225 (by decide) (fun x357 h358 => ?_)
                    refine ty_iadd hx hb dX9_readStatement_226 (fun x359 h360 => ?_)
                    try have h361 : x359.toInt = x308.toInt + x357.toInt := ty_add h360 (by omega) (by omega)
                    refine lv_iload_n hx hb dX9_readStatement_227 rfl (lv_at hl 1 rfl) ?_
                    refine ty_if_ne (tgt := 248) hx hb dX9_readStatement_228 (by decide) (fun c362 => ?_) (fun c362 => ?_)
                    · skip
                      refine lv_aload_n hx hb dX9_readStatement_248 rfl (lv_at hl 2 rfl) ?_
                      refine ty_iconst hx hb (0) dX9_readStatement_249 (by decide) (fun x363 h364 => ?_)
                      refine ty_sipush hx hb (9999) dX9_readStatement_250 (by decide) (fun x365 h366 => ?_)
                      have hM367 : pz_m (gs u349 125 (4 * (g 124 0).toNat + 1) x351.toInt) = (pz_N T N9 0 52 (pz_nx T N9 (pz_m g))).1 := (pz_m_cg (by rw [gs_c _ _ _ _ (by decide)]) (by rw [gs_c _ _ _ _ (by decide)]) (by rw [gs_c _ _ _ _ (by decide)]) (by rw [gs_c _ _ _ _ (by decide)]) (by rw [gs_c _ _ _ _ (by decide)]) (by rw [gs_c _ _ _ _ (by decide)])).trans hM354
                      have hk368 : u349 114 0 = u325 114 0 := hf353 114 0 (by decide) (by decide) (by decide) (by decide) (by decide) (by decide)
                      have e369 : (gs u349 125 (4 * (g 124 0).toNat + 1) x351.toInt) 114 0 = u349 114 0 := by rw [gs_c _ _ _ _ (by decide)]
                      have e370 : (gs u349 125 (4 * (g 124 0).toNat + 1) x351.toInt) 115 0 = u349 115 0 := by rw [gs_c _ _ _ _ (by decide)]
                      have e371 : (gs u349 125 (4 * (g 124 0).toNat + 1) x351.toInt) 116 0 = u349 116 0 := by rw [gs_c _ _ _ _ (by decide)]
                      have e372 : (gs u349 125 (4 * (g 124 0).toNat + 1) x351.toInt) 119 0 = u349 119 0 := by rw [gs_c _ _ _ _ (by decide)]
                      have e373 : (gs u349 125 (4 * (g 124 0).toNat + 1) x351.toInt) 114 0 = u349 114 0 := by rw [gs_c _ _ _ _ (by decide)]
                      have e374 : (gs u349 125 (4 * (g 124 0).toNat + 1) x351.toInt) 114 0 = u349 114 0 := by rw [gs_c _ _ _ _ (by decide)]
                      refine cI (va_runV (C := RX9) (As := [.int x363, .int x365]) (rest := [.int x359, .ref b356]) ⟨hx, hb, hml, hown, hA⟩ (k_X9_number l dC dI dA sz X Γ hU (gs u349 125 (4 * (g 124 0).toNat + 1) x351.toInt) h0 t_h0 x363 x365 T N9  (by omega) (by omega) ((funext fun j => show (gs u349 125 (4 * (g 124 0).toNat + 1) x351.toInt) 113 j % 256 = g 113 j % 256 by rw [gs_c _ _ _ _ (by decide), hf353 113 j (by decide) (by decide) (by decide) (by decide) (by decide) (by decide), hf328 113 j (by decide) (by decide) (by decide) (by decide), gs_c _ _ _ _ (by decide), gs_c _ _ _ _ (by decide)]).trans hT) (by omega)) ⟨callB_of 2 hA (al_A wd_5_108) rfl rfl rfl (hA _ wd_1_7) (hA _ wd_5_105) (by decide +kernel) ⟨Nat.le_of_ble_eq_true rfl, Nat.le_of_ble_eq_true rfl⟩, hA _ wd_5_107, hA _ ws_44⟩ ⟨bl, recv_X9 hE hG t_h0, fun U hU9 hW9 => ⟨rfl, by rw [hU9]; exact hG, hE.go hS hU9 hW9⟩⟩ rfl rfl hl.1 rfl (lv_room (Nat.le_of_ble_eq_true rfl)) dX9_readStatement_253 ⟨Nat.zero_le _, Nat.zero_le _⟩) hS (fun x377 u375 H locs w376 hG hS => ?_)
                      obtain ⟨hf379, w376, hq378⟩ := w376
                      have hM380 : pz_m u375 = (pz_N T N9 0 9999 (pz_N T N9 0 52 (pz_nx T N9 (pz_m g))).1).1 ∧ x377.toInt = (pz_N T N9 0 9999 (pz_N T N9 0 52 (pz_nx T N9 (pz_m g))).1).2 := by have h9 := hq378; rw [show x363.toInt = 0 by omega, show x365.toInt = 9999 by omega] at h9; rw [← hM367]; exact h9
                      have hN381 := hM380.2
                      replace hM380 := hM380.1
                      refine ast_mI hx hb hE hG hS hU 25 rfl (n := 120) rfl (lo := -2147483648) (hi := 2147483647) rfl rfl rfl t_b356 (rgD _) (by omega) dX9_readStatement_256 (fun H locs hG hS => ?_)
                      rw [show x359.toInt.toNat = (4 * (g 124 0).toNat + 2) by omega] at hG
                      refine lv_iload_n hx hb dX9_readStatement_257 rfl (lv_at hl 1 rfl) ?_
                      refine ty_if_ne (tgt := 277) hx hb dX9_readStatement_258 (by decide) (fun c382 => ?_) (fun c382 => ?_)
                      · skip
                        have e383 : (gs u375 125 (4 * (g 124 0).toNat + 2) x377.toInt) 119 0 = u375 119 0 := by simp [gs]
                        have e384 : (gs u375 125 (4 * (g 124 0).toNat + 2) x377.toInt) 117 0 = u375 117 0 := by simp [gs]
                        have e385 : (gs u375 125 (4 * (g 124 0).toNat + 2) x377.toInt) 115 0 = u375 115 0 := by simp [gs]
                        have e386 : (gs u375 125 (4 * (g 124 0).toNat + 2) x377.toInt) 116 0 = u375 116 0 := by simp [gs]
                        have hk387 : u375 124 0 = (gs u349 125 (4 * (g 124 0).toNat + 1) x351.toInt) 124 0 := hf379 124 0 (by decide) (by decide) (by decide) (by decide) (by decide) (by decide)
                        replace hk387 : u375 124 0 = u349 124 0 := by rw [hk387, gs_c _ _ _ _ (by decide)]
                        have hk388 : u349 124 0 = u325 124 0 := hf353 124 0 (by decide) (by decide) (by decide) (by decide) (by decide) (by decide)
                        have hk389 : u325 124 0 = (gs (gs g 124 0 x316.toInt) 125 (4 * (g 124 0).toNat) x288.toInt) 124 0 := hf328 124 0 (by decide) (by decide) (by decide) (by decide)
                        replace hk389 : u325 124 0 = x316.toInt := by rw [hk389, gs_c _ _ _ _ (by decide), gs_self]
                        have e390 : (gs u375 125 (4 * (g 124 0).toNat + 2) x377.toInt) 124 0 = u375 124 0 := by simp [gs]
                        have hM391 : pz_m ((gs u375 125 (4 * (g 124 0).toNat + 2) x377.toInt)) = (pz_N T N9 0 9999 (pz_N T N9 0 52 (pz_nx T N9 (pz_m g))).1).1 := (pz_m_cg (by rw [gs_c _ _ _ _ (by decide)]) (by rw [gs_c _ _ _ _ (by decide)]) (by rw [gs_c _ _ _ _ (by decide)]) (by rw [gs_c _ _ _ _ (by decide)]) (by rw [gs_c _ _ _ _ (by decide)]) (by rw [gs_c _ _ _ _ (by decide)])).trans hM380
                        refine lv_aload_n hx hb dX9_readStatement_277 rfl (lv_at hl 2 rfl) ?_
                        refine get_X9_19 hx hb hA hown hE hG t_h0 wd_4_149 dX9_readStatement_278 (fun x392 h393 => ?_)
                        replace h393 : x392.toInt = u375 119 0 := by rw [h393, gs_c _ _ _ _ (by decide)]
                        refine ty_if_ne (tgt := 297) hx hb dX9_readStatement_281 (by decide) (fun c395 => ?_) (fun c395 => ?_)
                        · skip
                          refine lv_aload_n hx hb dX9_readStatement_297 rfl (lv_at hl 2 rfl) ?_
                          refine get_X9_19 hx hb hA hown hE hG t_h0 wd_4_149 dX9_readStatement_298 (fun x396 h397 => ?_)
                          replace h397 : x396.toInt = u375 119 0 := by rw [h397, gs_c _ _ _ _ (by decide)]
                          refine ty_if_ne (tgt := 308) hx hb dX9_readStatement_301 (by decide) (fun c399 => ?_) (fun c399 => ?_)
                          · skip
                            have e400 : (gs u375 125 (4 * (g 124 0).toNat + 2) x377.toInt) 115 0 = u375 115 0 := by rw [gs_c _ _ _ _ (by decide)]
                            have e401 : (gs u375 125 (4 * (g 124 0).toNat + 2) x377.toInt) 116 0 = u375 116 0 := by rw [gs_c _ _ _ _ (by decide)]
                            have e402 : (gs u375 125 (4 * (g 124 0).toNat + 2) x377.toInt) 119 0 = u375 119 0 := by rw [gs_c _ _ _ _ (by decide)]
                            have e403 : (gs u375 125 (4 * (g 124 0).toNat + 2) x377.toInt) 124 0 = u375 124 0 := by rw [gs_c _ _ _ _ (by decide)]
                            exact W.vret hx hb hr (fun t ht hW => ⟨⟨(gs u375 125 (4 * (g 124 0).toNat + 2) x377.toInt), rfl, ⟨(fun c j h115 h116 h117 h118 h119 h120 h124 h125 => by rw [gs_c _ _ _ _ h125, hf379 c j h115 h116 h117 h118 h119 h120, gs_c _ _ _ _ h125, hf353 c j h115 h116 h117 h118 h119 h120, hf328 c j h115 h116 h117 h118, gs_c _ _ _ _ h125, gs_c _ _ _ _ h124]), (by omega), (by rw [pz_st3 (x := pz_m g) (by rw [pz_k3 (hW6.trans (decide_eq_false (by omega))) (hW13.trans (decide_eq_false (by omega))) (hW20.trans (decide_eq_true (by omega)))]; decide) (by omega), pz_k3 (hW6.trans (decide_eq_false (by omega))) (hW13.trans (decide_eq_false (by omega))) (hW20.trans (decide_eq_true (by omega))), pz_R3 rfl, pz_G1 (show ((pz_N T N9 0 9999 (pz_N T N9 0 52 (pz_nx T N9 (pz_m g))).1).1).2.2.2.2.1 ≠ 0 by rw [← hM391]; show ((gs u375 125 (4 * (g 124 0).toNat + 2) x377.toInt)) 119 0 ≠ 0; omega)]; exact ((pz_m_cg (by rw [gs_c _ _ _ _ (by decide)]) (by rw [gs_c _ _ _ _ (by decide)]) (by rw [gs_c _ _ _ _ (by decide)]) (by rw [gs_c _ _ _ _ (by decide)]) (by rw [gs_c _ _ _ _ (by decide)]) (by rw [gs_c _ _ _ _ (by decide)])).trans hM380)), (by unfold st_m; rw [if_neg (fun q => q.elim (fun z => absurd z (by rw [pz_k3 (hW6.trans (decide_eq_false (by omega))) (hW13.trans (decide_eq_false (by omega))) (hW20.trans (decide_eq_true (by omega)))]; decide)) (fun z => absurd z (by omega))), pz_k3 (hW6.trans (decide_eq_false (by omega))) (hW13.trans (decide_eq_false (by omega))) (hW20.trans (decide_eq_true (by omega)))]; unfold rr_f; rw [if_neg (by decide), if_neg (by decide), if_pos rfl]; rw [pz_R3n rfl]; rw [pz_gs, (show u375 125 = (gs u349 125 (4 * (g 124 0).toNat + 1) x351.toInt) 125 from funext fun j => hf379 125 j (by decide) (by decide) (by decide) (by decide) (by decide) (by decide)), pz_gs, (show u349 125 = u325 125 from funext fun j => hf353 125 j (by decide) (by decide) (by decide) (by decide) (by decide) (by decide)), (show u325 125 = (gs (gs g 124 0 x316.toInt) 125 (4 * (g 124 0).toNat) x288.toInt) 125 from funext fun j => hf328 125 j (by decide) (by decide) (by decide) (by decide)), pz_gs, gs_r _ _ _ (by decide)] <;> exact pz_upc3 (by omega) (by omega) (by omega) hN355 (by omega) hN381)⟩, ok1 ht hG⟩, hS.F ht⟩) hS.2.2 dX9_readStatement_308
                          · exfalso; omega
                        · skip
                          refine lv_aload_n hx hb dX9_readStatement_284 rfl (lv_at hl 2 rfl) ?_
                          refine get_X9_17 hx hb hA hown hE hG t_h0 wd_4_147 dX9_readStatement_285 (fun x404 h405 => ?_)
                          replace h405 : x404.toInt = u375 117 0 := by rw [h405, gs_c _ _ _ _ (by decide)]
                          refine ty_iconst hx hb (4) dX9_readStatement_288 (by decide) (fun x407 h408 => ?_)
                          refine ty_icmp_eq (tgt := 297) hx hb dX9_readStatement_289 (by decide) (fun c409 => ?_) (fun c409 => ?_)
                          · skip
                            refine lv_aload_n hx hb dX9_readStatement_297 rfl (lv_at hl 2 rfl) ?_
                            refine get_X9_19 hx hb hA hown hE hG t_h0 wd_4_149 dX9_readStatement_298 (fun x410 h411 => ?_)
                            replace h411 : x410.toInt = u375 119 0 := by rw [h411, gs_c _ _ _ _ (by decide)]
                            refine ty_if_ne (tgt := 308) hx hb dX9_readStatement_301 (by decide) (fun c413 => ?_) (fun c413 => ?_)
                            · exfalso; omega
                            · skip
                              refine lv_aload_n hx hb dX9_readStatement_304 rfl (lv_at hl 2 rfl) ?_
                              have hM414 : pz_m (gs u375 125 (4 * (g 124 0).toNat + 2) x377.toInt) = (pz_N T N9 0 9999 (pz_N T N9 0 52 (pz_nx T N9 (pz_m g))).1).1 := (pz_m_cg (by rw [gs_c _ _ _ _ (by decide)]) (by rw [gs_c _ _ _ _ (by decide)]) (by rw [gs_c _ _ _ _ (by decide)]) (by rw [gs_c _ _ _ _ (by decide)]) (by rw [gs_c _ _ _ _ (by decide)]) (by rw [gs_c _ _ _ _ (by decide)])).trans hM380
                              have hk415 : u375 114 0 = (gs u349 125 (4 * (g 124 0).toNat + 1) x351.toInt) 114 0 := hf379 114 0 (by decide) (by decide) (by decide) (by decide) (by decide) (by decide)
                              replace hk415 : u375 114 0 = u349 114 0 := by rw [hk415, gs_c _ _ _ _ (by decide)]
                              have e416 : (gs u375 125 (4 * (g 124 0).toNat + 2) x377.toInt) 114 0 = u375 114 0 := by rw [gs_c _ _ _ _ (by decide)]
                              have e417 : (gs u375 125 (4 * (g 124 0).toNat + 2) x377.toInt) 115 0 = u375 115 0 := by rw [gs_c _ _ _ _ (by decide)]
                              have e418 : (gs u375 125 (4 * (g 124 0).toNat + 2) x377.toInt) 114 0 = u375 114 0 := by rw [gs_c _ _ _ _ (by decide)]
                              have e419 : (gs u375 125 (4 * (g 124 0).toNat + 2) x377.toInt) 114 0 = u375 114 0 := by rw [gs_c _ _ _ _ (by decide)]
                              refine cV (va_runV (C := RX9) (As := []) (rest := []) ⟨hx, hb, hml, hown, hA⟩ (k_X9_next l dC dI dA sz X Γ hU (gs u375 125 (4 * (g 124 0).toNat + 2) x377.toInt) h0 t_h0 T N9  (by omega) ((funext fun j => show (gs u375 125 (4 * (g 124 0).toNat + 2) x377.toInt) 113 j % 256 = g 113 j % 256 by rw [gs_c _ _ _ _ (by decide), hf379 113 j (by decide) (by decide) (by decide) (by decide) (by decide) (by decide), gs_c _ _ _ _ (by decide), hf353 113 j (by decide) (by decide) (by decide) (by decide) (by decide) (by decide), hf328 113 j (by decide) (by decide) (by decide) (by decide), gs_c _ _ _ _ (by decide), gs_c _ _ _ _ (by decide)]).trans hT) (by omega)) ⟨callB_of 0 hA (al_A wd_5_74) rfl rfl rfl (hA _ wd_1_7) (hA _ wd_5_71) (by decide +kernel) ⟨Nat.le_of_ble_eq_true rfl, Nat.le_of_ble_eq_true rfl⟩, hA _ wd_5_73, hA _ ws_39⟩ ⟨bl, recv_X9 hE hG t_h0, fun U hU9 hW9 => ⟨rfl, by rw [hU9]; exact hG, hE.go hS hU9 hW9⟩⟩ rfl rfl hl.1 rfl (lv_room (Nat.le_of_ble_eq_true rfl)) dX9_readStatement_305 ⟨Nat.zero_le _, Nat.zero_le _⟩) hS (fun u420 H locs w421 hG hS => ?_)
                              obtain ⟨hf423, w421, hq422⟩ := w421
                              have hM424 : pz_m u420 = (pz_nx T N9 (pz_N T N9 0 9999 (pz_N T N9 0 52 (pz_nx T N9 (pz_m g))).1).1) := hq422.trans (congrArg (pz_nx T N9) hM414)
                              have hk425 : u420 119 0 = (gs u375 125 (4 * (g 124 0).toNat + 2) x377.toInt) 119 0 := hf423 119 0 (by decide) (by decide) (by decide) (by decide)
                              replace hk425 : u420 119 0 = u375 119 0 := by rw [hk425, gs_c _ _ _ _ (by decide)]
                              have hk426 : u420 124 0 = (gs u375 125 (4 * (g 124 0).toNat + 2) x377.toInt) 124 0 := hf423 124 0 (by decide) (by decide) (by decide) (by decide)
                              replace hk426 : u420 124 0 = u375 124 0 := by rw [hk426, gs_c _ _ _ _ (by decide)]
                              exact W.vret hx hb hr (fun t ht hW => ⟨⟨u420, rfl, ⟨(fun c j h115 h116 h117 h118 h119 h120 h124 h125 => by rw [hf423 c j h115 h116 h117 h118, gs_c _ _ _ _ h125, hf379 c j h115 h116 h117 h118 h119 h120, gs_c _ _ _ _ h125, hf353 c j h115 h116 h117 h118 h119 h120, hf328 c j h115 h116 h117 h118, gs_c _ _ _ _ h125, gs_c _ _ _ _ h124]), (by omega), (by rw [pz_st3 (x := pz_m g) (by rw [pz_k3 (hW6.trans (decide_eq_false (by omega))) (hW13.trans (decide_eq_false (by omega))) (hW20.trans (decide_eq_true (by omega)))]; decide) (by omega), pz_k3 (hW6.trans (decide_eq_false (by omega))) (hW13.trans (decide_eq_false (by omega))) (hW20.trans (decide_eq_true (by omega))), pz_R3 rfl, pz_G3 (show ((pz_N T N9 0 9999 (pz_N T N9 0 52 (pz_nx T N9 (pz_m g))).1).1).2.2.2.2.1 = 0 by rw [← hM391]; show ((gs u375 125 (4 * (g 124 0).toNat + 2) x377.toInt)) 119 0 = 0; omega) (show ((pz_N T N9 0 9999 (pz_N T N9 0 52 (pz_nx T N9 (pz_m g))).1).1).2.2.1 = 3 by rw [← hM391]; show pz_s (((gs u375 125 (4 * (g 124 0).toNat + 2) x377.toInt)) 117 0) = 3; exact pz_s3.mpr (by omega))]; exact hM424), (by unfold st_m; rw [if_neg (fun q => q.elim (fun z => absurd z (by rw [pz_k3 (hW6.trans (decide_eq_false (by omega))) (hW13.trans (decide_eq_false (by omega))) (hW20.trans (decide_eq_true (by omega)))]; decide)) (fun z => absurd z (by omega))), pz_k3 (hW6.trans (decide_eq_false (by omega))) (hW13.trans (decide_eq_false (by omega))) (hW20.trans (decide_eq_true (by omega)))]; unfold rr_f; rw [if_neg (by decide), if_neg (by decide), if_pos rfl]; rw [pz_R3n rfl]; rw [(show u420 125 = (gs u375 125 (4 * (g 124 0).toNat + 2) x377.toInt) 125 from funext fun j => hf423 125 j (by decide) (by decide) (by decide) (by decide)), pz_gs, (show u375 125 = (gs u349 125 (4 * (g 124 0).toNat + 1) x351.toInt) 125 from funext fun j => hf379 125 j (by decide) (by decide) (by decide) (by decide) (by decide) (by decide)), pz_gs, (show u349 125 = u325 125 from funext fun j => hf353 125 j (by decide) (by decide) (by decide) (by decide) (by decide) (by decide)), (show u325 125 = (gs (gs g 124 0 x316.toInt) 125 (4 * (g 124 0).toNat) x288.toInt) 125 from funext fun j => hf328 125 j (by decide) (by decide) (by decide) (by decide)), pz_gs, gs_r _ _ _ (by decide)] <;> exact pz_upc3 (by omega) (by omega) (by omega) hN355 (by omega) hN381)⟩, ok1 ht hG⟩, hS.F ht⟩) hS.2.2 dX9_readStatement_308
                          · skip
                            refine lv_aload_n hx hb dX9_readStatement_292 rfl (lv_at hl 2 rfl) ?_
                            refine ty_iconst hx hb (1) dX9_readStatement_293 (by decide) (fun x427 h428 => ?_)
                            have e429 : (gs u375 125 (4 * (g 124 0).toNat + 2) x377.toInt) 119 0 = u375 119 0 := by simp [gs]
                            have hM430 : pz_m (gs u375 125 (4 * (g 124 0).toNat + 2) x377.toInt) = (pz_N T N9 0 9999 (pz_N T N9 0 52 (pz_nx T N9 (pz_m g))).1).1 := (pz_m_cg (by rw [gs_c _ _ _ _ (by decide)]) (by rw [gs_c _ _ _ _ (by decide)]) (by rw [gs_c _ _ _ _ (by decide)]) (by rw [gs_c _ _ _ _ (by decide)]) (by rw [gs_c _ _ _ _ (by decide)]) (by rw [gs_c _ _ _ _ (by decide)])).trans hM380
                            have e431 : (gs u375 125 (4 * (g 124 0).toNat + 2) x377.toInt) 119 0 = u375 119 0 := by rw [gs_c _ _ _ _ (by decide)]
                            have e432 : (gs u375 125 (4 * (g 124 0).toNat + 2) x377.toInt) 119 0 = u375 119 0 := by rw [gs_c _ _ _ _ (by decide)]
                            refine cV (va_runV (C := RX9) (As := [.int x427]) (rest := []) ⟨hx, hb, hml, hown, hA⟩ (k_X9_fails l dC dI dA sz X Γ hU (gs u375 125 (4 * (g 124 0).toNat + 2) x377.toInt) h0 t_h0 x427   (by omega)) ⟨callB_of 1 hA (al_A wd_5_102) rfl rfl rfl (hA _ wd_1_7) (hA _ wd_5_99) (by decide +kernel) ⟨Nat.le_of_ble_eq_true rfl, Nat.le_of_ble_eq_true rfl⟩, hA _ wd_5_101, hA _ ws_43⟩ ⟨bl, recv_X9 hE hG t_h0, fun U hU9 hW9 => ⟨rfl, by rw [hU9]; exact hG, hE.go hS hU9 hW9⟩⟩ rfl rfl hl.1 rfl (lv_room (Nat.le_of_ble_eq_true rfl)) dX9_readStatement_294 ⟨Nat.zero_le _, Nat.zero_le _⟩) hS (fun u433 H locs w434 hG hS => ?_)
                            obtain ⟨hf436, w434, hq435⟩ := w434
                            have hM437 : pz_m u433 = pz_bl 1 (pz_N T N9 0 9999 (pz_N T N9 0 52 (pz_nx T N9 (pz_m g))).1).1 := by have h9 := hq435.1 (by omega); rw [show x427.toInt = 1 by omega] at h9; exact h9.trans (congrArg (pz_bl 1) hM430)
                            refine lv_aload_n hx hb dX9_readStatement_297 rfl (lv_at hl 2 rfl) ?_
                            refine get_X9_19 hx hb hA hown hE hG t_h0 wd_4_149 dX9_readStatement_298 (fun x438 h439 => ?_)
                            refine ty_if_ne (tgt := 308) hx hb dX9_readStatement_301 (by decide) (fun c441 => ?_) (fun c441 => ?_)
                            · skip
                              have hk442 : u433 115 0 = (gs u375 125 (4 * (g 124 0).toNat + 2) x377.toInt) 115 0 := hf436 115 0 (by decide) (by decide)
                              replace hk442 : u433 115 0 = u375 115 0 := by rw [hk442, gs_c _ _ _ _ (by decide)]
                              have hk443 : u433 116 0 = (gs u375 125 (4 * (g 124 0).toNat + 2) x377.toInt) 116 0 := hf436 116 0 (by decide) (by decide)
                              replace hk443 : u433 116 0 = u375 116 0 := by rw [hk443, gs_c _ _ _ _ (by decide)]
                              have hk444 : u433 124 0 = (gs u375 125 (4 * (g 124 0).toNat + 2) x377.toInt) 124 0 := hf436 124 0 (by decide) (by decide)
                              replace hk444 : u433 124 0 = u375 124 0 := by rw [hk444, gs_c _ _ _ _ (by decide)]
                              exact W.vret hx hb hr (fun t ht hW => ⟨⟨u433, rfl, ⟨(fun c j h115 h116 h117 h118 h119 h120 h124 h125 => by rw [hf436 c j h119 h120, gs_c _ _ _ _ h125, hf379 c j h115 h116 h117 h118 h119 h120, gs_c _ _ _ _ h125, hf353 c j h115 h116 h117 h118 h119 h120, hf328 c j h115 h116 h117 h118, gs_c _ _ _ _ h125, gs_c _ _ _ _ h124]), (by omega), (by rw [pz_st3 (x := pz_m g) (by rw [pz_k3 (hW6.trans (decide_eq_false (by omega))) (hW13.trans (decide_eq_false (by omega))) (hW20.trans (decide_eq_true (by omega)))]; decide) (by omega), pz_k3 (hW6.trans (decide_eq_false (by omega))) (hW13.trans (decide_eq_false (by omega))) (hW20.trans (decide_eq_true (by omega))), pz_R3 rfl, pz_G2 (show ((pz_N T N9 0 9999 (pz_N T N9 0 52 (pz_nx T N9 (pz_m g))).1).1).2.2.2.2.1 = 0 by rw [← hM391]; show ((gs u375 125 (4 * (g 124 0).toNat + 2) x377.toInt)) 119 0 = 0; omega) (show ((pz_N T N9 0 9999 (pz_N T N9 0 52 (pz_nx T N9 (pz_m g))).1).1).2.2.1 ≠ 3 by rw [← hM391]; show pz_s (((gs u375 125 (4 * (g 124 0).toNat + 2) x377.toInt)) 117 0) ≠ 3; exact fun q => absurd (pz_s3.mp q) (by omega))]; exact hM437), (by unfold st_m; rw [if_neg (fun q => q.elim (fun z => absurd z (by rw [pz_k3 (hW6.trans (decide_eq_false (by omega))) (hW13.trans (decide_eq_false (by omega))) (hW20.trans (decide_eq_true (by omega)))]; decide)) (fun z => absurd z (by omega))), pz_k3 (hW6.trans (decide_eq_false (by omega))) (hW13.trans (decide_eq_false (by omega))) (hW20.trans (decide_eq_true (by omega)))]; unfold rr_f; rw [if_neg (by decide), if_neg (by decide), if_pos rfl]; rw [pz_R3n rfl]; rw [(show u433 125 = (gs u375 125 (4 * (g 124 0).toNat + 2) x377.toInt) 125 from funext fun j => hf436 125 j (by decide) (by decide)), pz_gs, (show u375 125 = (gs u349 125 (4 * (g 124 0).toNat + 1) x351.toInt) 125 from funext fun j => hf379 125 j (by decide) (by decide) (by decide) (by decide) (by decide) (by decide)), pz_gs, (show u349 125 = u325 125 from funext fun j => hf353 125 j (by decide) (by decide) (by decide) (by decide) (by decide) (by decide)), (show u325 125 = (gs (gs g 124 0 x316.toInt) 125 (4 * (g 124 0).toNat) x288.toInt) 125 from funext fun j => hf328 125 j (by decide) (by decide) (by decide) (by decide)), pz_gs, gs_r _ _ _ (by decide)] <;> exact pz_upc3 (by omega) (by omega) (by omega) hN355 (by omega) hN381)⟩, ok1 ht hG⟩, hS.F ht⟩) hS.2.2 dX9_readStatement_308
                            · exfalso; omega
                      · exfalso; omega
                    · exfalso; omega
                  · exfalso; omega
                · exfalso; omega
              · exfalso; omega
            · exfalso; omega
          · skip
            refine lv_aload_n hx hb dX9_readStatement_76 rfl (lv_at hl 1 rfl) ?_
            refine ty_iconst hx hb (3) dX9_readStatement_77 (by decide) (fun x445 h446 => ?_)
            refine cV (va_runV (C := RX9) (As := [.int x445]) (rest := []) ⟨hx, hb, hml, hown, hA⟩ (k_X9_fails l dC dI dA sz X Γ hU g h0 t_h0 x445   (by omega)) ⟨callB_of 1 hA (al_A wd_5_102) rfl rfl rfl (hA _ wd_1_7) (hA _ wd_5_99) (by decide +kernel) ⟨Nat.le_of_ble_eq_true rfl, Nat.le_of_ble_eq_true rfl⟩, hA _ wd_5_101, hA _ ws_43⟩ ⟨bl, recv_X9 hE hG t_h0, fun U hU9 hW9 => ⟨rfl, by rw [hU9]; exact hG, hE.go hS hU9 hW9⟩⟩ rfl rfl hl.1 rfl (lv_room (Nat.le_of_ble_eq_true rfl)) dX9_readStatement_78 ⟨Nat.zero_le _, Nat.zero_le _⟩) hS (fun u447 H locs w448 hG hS => ?_)
            obtain ⟨hf450, w448, hq449⟩ := w448
            have hM451 : pz_m u447 = pz_bl 3 (pz_m g) := by have h9 := hq449.1 (by omega); rw [show x445.toInt = 3 by omega] at h9; exact h9.trans (congrArg (pz_bl 3) rfl)
            refine lv_aload_n hx hb dX9_readStatement_81 rfl (lv_at hl 1 rfl) ?_
            refine get_X9_19 hx hb hA hown hE hG t_h0 wd_4_149 dX9_readStatement_82 (fun x452 h453 => ?_)
            refine ty_if_eq (tgt := 89) hx hb dX9_readStatement_85 (by decide) (fun c455 => ?_) (fun c455 => ?_)
            · exfalso; omega
            · skip
              have hk456 : u447 115 0 = g 115 0 := hf450 115 0 (by decide) (by decide)
              have hk457 : u447 116 0 = g 116 0 := hf450 116 0 (by decide) (by decide)
              have hk458 : u447 124 0 = g 124 0 := hf450 124 0 (by decide) (by decide)
              exact W.vret hx hb hr (fun t ht hW => ⟨⟨u447, rfl, ⟨(fun c j h115 h116 h117 h118 h119 h120 h124 h125 => by rw [hf450 c j h119 h120]), (by omega), (by rw [pz_st2 (x := pz_m g) (by rw [pz_k3 (hW6.trans (decide_eq_false (by omega))) (hW13.trans (decide_eq_false (by omega))) (hW20.trans (decide_eq_true (by omega)))]; decide) (by omega)]; exact hM451), (by unfold st_m; rw [if_pos (Or.inr (by omega))]; rw [(show u447 125 = g 125 from funext fun j => hf450 125 j (by decide) (by decide))])⟩, ok1 ht hG⟩, hS.F ht⟩) hS.2.2 dX9_readStatement_88
        · exfalso; omega
    · skip
      refine ty_iconst hx hb (1) dX9_readStatement_22 (by decide) (fun x459 h460 => ?_)
      refine lv_goto (tgt := 53) hx hb dX9_readStatement_23 (by decide) ?_
      refine lv_istore_n (lv' := [(1, .int x459), (0, .ref h0)]) hx hb dX9_readStatement_53 rfl hl (by decide) rfl (fun ls hl => ?_)
      refine lv_iload_n hx hb dX9_readStatement_54 rfl (lv_at hl 0 rfl) ?_
      refine ty_iconst hx hb (-1) dX9_readStatement_55 (by decide) (fun x461 h462 => ?_)
      refine ty_icmp_ne (tgt := 67) hx hb dX9_readStatement_56 (by decide) (fun c463 => ?_) (fun c463 => ?_)
      · skip
        refine lv_aload_n hx hb dX9_readStatement_67 rfl (lv_at hl 1 rfl) ?_
        refine get_X9_24 hx hb hA hown hE hG t_h0 wd_4_154 dX9_readStatement_68 (fun x464 h465 => ?_)
        refine ty_bipush hx hb (30) dX9_readStatement_71 (by decide) (fun x467 h468 => ?_)
        refine ty_icmp_ne (tgt := 81) hx hb dX9_readStatement_73 (by decide) (fun c469 => ?_) (fun c469 => ?_)
        · skip
          refine lv_aload_n hx hb dX9_readStatement_81 rfl (lv_at hl 1 rfl) ?_
          refine get_X9_19 hx hb hA hown hE hG t_h0 wd_4_149 dX9_readStatement_82 (fun x470 h471 => ?_)
          refine ty_if_eq (tgt := 89) hx hb dX9_readStatement_85 (by decide) (fun c473 => ?_) (fun c473 => ?_)
          · skip
            refine ty_iconst hx hb (4) dX9_readStatement_89 (by decide) (fun x474 h475 => ?_)
            refine lv_aload_n hx hb dX9_readStatement_90 rfl (lv_at hl 1 rfl) ?_
            refine get_X9_24 hx hb hA hown hE hG t_h0 wd_4_154 dX9_readStatement_91 (fun x476 h477 => ?_)
            refine ty_imul hx hb dX9_readStatement_94 (fun x479 h480 => ?_)
            try have h481 : x479.toInt = 4 * x476.toInt := ty_mull h480 (by omega) (by omega) (by omega)
            refine lv_istore_n (lv' := [(2, .int x479), (1, .int x459), (0, .ref h0)]) hx hb dX9_readStatement_95 rfl hl (by decide) rfl (fun ls hl => ?_)
            refine lv_aload_n hx hb dX9_readStatement_96 rfl (lv_at hl 2 rfl) ?_
            refine lv_dup hx hb dX9_readStatement_97 rfl ?_
            refine get_X9_24 hx hb hA hown hE hG t_h0 wd_4_154 dX9_readStatement_98 (fun x482 h483 => ?_)
            refine ty_iconst hx hb (1) dX9_readStatement_101 (by decide) (fun x485 h486 => ?_)
            refine ty_iadd hx hb dX9_readStatement_102 (fun x487 h488 => ?_)
            try have h489 : x487.toInt = x482.toInt + x485.toInt := ty_add h488 (by omega) (by omega)
            refine put_X9_24 hx hb hA hown hE hG hS hU t_h0 wd_4_154 dX9_readStatement_103 (fun H locs hG hS => ?_)
            refine lv_aload_n hx hb dX9_readStatement_106 rfl (lv_at hl 2 rfl) ?_
            refine get_X9_25 hx hb hA hown hE hG t_h0 wd_4_155 dX9_readStatement_107 (fun b490 (t_b490 : ty Γ b490 125) => ?_)
            refine lv_iload_n hx hb dX9_readStatement_110 rfl (lv_at hl 0 rfl) ?_
            refine lv_iload_n hx hb dX9_readStatement_111 rfl (lv_at hl 1 rfl) ?_
            refine ast_mI hx hb hE hG hS hU 25 rfl (n := 120) rfl (lo := -2147483648) (hi := 2147483647) rfl rfl rfl t_b490 (rgD _) (by omega) dX9_readStatement_112 (fun H locs hG hS => ?_)
            rw [show x479.toInt.toNat = (4 * (g 124 0).toNat) by omega] at hG
            refine lv_aload_n hx hb dX9_readStatement_113 rfl (lv_at hl 2 rfl) ?_
            have hM491 : pz_m (gs (gs g 124 0 x487.toInt) 125 (4 * (g 124 0).toNat) x459.toInt) = (pz_m g) := (pz_m_cg (by rw [gs_c _ _ _ _ (by decide), gs_c _ _ _ _ (by decide)]) (by rw [gs_c _ _ _ _ (by decide), gs_c _ _ _ _ (by decide)]) (by rw [gs_c _ _ _ _ (by decide), gs_c _ _ _ _ (by decide)]) (by rw [gs_c _ _ _ _ (by decide), gs_c _ _ _ _ (by decide)]) (by rw [gs_c _ _ _ _ (by decide), gs_c _ _ _ _ (by decide)]) (by rw [gs_c _ _ _ _ (by decide), gs_c _ _ _ _ (by decide)])).trans rfl
            have e492 : (gs (gs g 124 0 x487.toInt) 125 (4 * (g 124 0).toNat) x459.toInt) 114 0 = g 114 0 := by rw [gs_c _ _ _ _ (by decide), gs_c _ _ _ _ (by decide)]
            have e493 : (gs (gs g 124 0 x487.toInt) 125 (4 * (g 124 0).toNat) x459.toInt) 115 0 = g 115 0 := by rw [gs_c _ _ _ _ (by decide), gs_c _ _ _ _ (by decide)]
            have e494 : (gs (gs g 124 0 x487.toInt) 125 (4 * (g 124 0).toNat) x459.toInt) 114 0 = g 114 0 := by rw [gs_c _ _ _ _ (by decide), gs_c _ _ _ _ (by decide)]
            have e495 : (gs (gs g 124 0 x487.toInt) 125 (4 * (g 124 0).toNat) x459.toInt) 114 0 = g 114 0 := by rw [gs_c _ _ _ _ (by decide), gs_c _ _ _ _ (by decide)]
            refine cV (va_runV (C := RX9) (As := []) (rest := []) ⟨hx, hb, hml, hown, hA⟩ (k_X9_next l dC dI dA sz X Γ hU (gs (gs g 124 0 x487.toInt) 125 (4 * (g 124 0).toNat) x459.toInt) h0 t_h0 T N9  (by omega) ((funext fun j => show (gs (gs g 124 0 x487.toInt) 125 (4 * (g 124 0).toNat) x459.toInt) 113 j % 256 = g 113 j % 256 by rw [gs_c _ _ _ _ (by decide), gs_c _ _ _ _ (by decide)]).trans hT) (by omega)) ⟨callB_of 0 hA (al_A wd_5_74) rfl rfl rfl (hA _ wd_1_7) (hA _ wd_5_71) (by decide +kernel) ⟨Nat.le_of_ble_eq_true rfl, Nat.le_of_ble_eq_true rfl⟩, hA _ wd_5_73, hA _ ws_39⟩ ⟨bl, recv_X9 hE hG t_h0, fun U hU9 hW9 => ⟨rfl, by rw [hU9]; exact hG, hE.go hS hU9 hW9⟩⟩ rfl rfl hl.1 rfl (lv_room (Nat.le_of_ble_eq_true rfl)) dX9_readStatement_114 ⟨Nat.zero_le _, Nat.zero_le _⟩) hS (fun u496 H locs w497 hG hS => ?_)
            obtain ⟨hf499, w497, hq498⟩ := w497
            have hM500 : pz_m u496 = (pz_nx T N9 (pz_m g)) := hq498.trans (congrArg (pz_nx T N9) hM491)
            refine lv_iload_n hx hb dX9_readStatement_117 rfl (lv_at hl 1 rfl) ?_
            refine ty_iconst hx hb (3) dX9_readStatement_118 (by decide) (fun x501 h502 => ?_)
            refine ty_icmp_ne (tgt := 177) hx hb dX9_readStatement_119 (by decide) (fun c503 => ?_) (fun c503 => ?_)
            · skip
              refine lv_aload_n hx hb dX9_readStatement_177 rfl (lv_at hl 2 rfl) ?_
              refine get_X9_25 hx hb hA hown hE hG t_h0 wd_4_155 dX9_readStatement_178 (fun b504 (t_b504 : ty Γ b504 125) => ?_)
              refine lv_iload_n hx hb dX9_readStatement_181 rfl (lv_at hl 0 rfl) ?_
              refine ty_iconst hx hb (1) dX9_readStatement_182 (by decide) (fun x505 h506 => ?_)
              refine ty_iadd hx hb dX9_readStatement_183 (fun x507 h508 => ?_)
              try have h509 : x507.toInt = x479.toInt + x505.toInt := ty_add h508 (by omega) (by omega)
              refine lv_iload_n hx hb dX9_readStatement_184 rfl (lv_at hl 1 rfl) ?_
              refine ty_if_ne (tgt := 198) hx hb dX9_readStatement_185 (by decide) (fun c510 => ?_) (fun c510 => ?_)
              · skip
                refine lv_iload_n hx hb dX9_readStatement_198 rfl (lv_at hl 1 rfl) ?_
                refine ty_iconst hx hb (1) dX9_readStatement_199 (by decide) (fun x511 h512 => ?_)
                refine ty_icmp_ne (tgt := 212) hx hb dX9_readStatement_200 (by decide) (fun c513 => ?_) (fun c513 => ?_)
                · exfalso; omega
                · skip
                  refine lv_aload_n hx hb dX9_readStatement_203 rfl (lv_at hl 2 rfl) ?_
                  refine ty_iconst hx hb (1) dX9_readStatement_204 (by decide) (fun x514 h515 => ?_)
                  refine ty_iconst hx hb (4) dX9_readStatement_205 (by decide) (fun x516 h517 => ?_)
                  have hk518 : u496 114 0 = (gs (gs g 124 0 x487.toInt) 125 (4 * (g 124 0).toNat) x459.toInt) 114 0 := hf499 114 0 (by decide) (by decide) (by decide) (by decide)
                  replace hk518 : u496 114 0 = g 114 0 := by rw [hk518, gs_c _ _ _ _ (by decide), gs_c _ _ _ _ (by decide)]
                  have hk519 : u496 119 0 = (gs (gs g 124 0 x487.toInt) 125 (4 * (g 124 0).toNat) x459.toInt) 119 0 := hf499 119 0 (by decide) (by decide) (by decide) (by decide)
                  replace hk519 : u496 119 0 = g 119 0 := by rw [hk519, gs_c _ _ _ _ (by decide), gs_c _ _ _ _ (by decide)]
                  refine cI (va_runV (C := RX9) (As := [.int x514, .int x516]) (rest := [.int x507, .ref b504]) ⟨hx, hb, hml, hown, hA⟩ (k_X9_number l dC dI dA sz X Γ hU u496 h0 t_h0 x514 x516 T N9  (by omega) (by omega) ((funext fun j => show u496 113 j % 256 = g 113 j % 256 by rw [hf499 113 j (by decide) (by decide) (by decide) (by decide), gs_c _ _ _ _ (by decide), gs_c _ _ _ _ (by decide)]).trans hT) (by omega)) ⟨callB_of 2 hA (al_A wd_5_108) rfl rfl rfl (hA _ wd_1_7) (hA _ wd_5_105) (by decide +kernel) ⟨Nat.le_of_ble_eq_true rfl, Nat.le_of_ble_eq_true rfl⟩, hA _ wd_5_107, hA _ ws_44⟩ ⟨bl, recv_X9 hE hG t_h0, fun U hU9 hW9 => ⟨rfl, by rw [hU9]; exact hG, hE.go hS hU9 hW9⟩⟩ rfl rfl hl.1 rfl (lv_room (Nat.le_of_ble_eq_true rfl)) dX9_readStatement_206 ⟨Nat.zero_le _, Nat.zero_le _⟩) hS (fun x522 u520 H locs w521 hG hS => ?_)
                  obtain ⟨hf524, w521, hq523⟩ := w521
                  have hM525 : pz_m u520 = (pz_N T N9 1 4 (pz_nx T N9 (pz_m g))).1 ∧ x522.toInt = (pz_N T N9 1 4 (pz_nx T N9 (pz_m g))).2 := by have h9 := hq523; rw [show x514.toInt = 1 by omega, show x516.toInt = 4 by omega] at h9; rw [← hM500]; exact h9
                  have hN526 := hM525.2
                  replace hM525 := hM525.1
                  refine lv_goto (tgt := 219) hx hb dX9_readStatement_209 (by decide) ?_
                  refine ast_mI hx hb hE hG hS hU 25 rfl (n := 120) rfl (lo := -2147483648) (hi := 2147483647) rfl rfl rfl t_b504 (rgD _) (by omega) dX9_readStatement_219 (fun H locs hG hS => ?_)
                  rw [show x507.toInt.toNat = (4 * (g 124 0).toNat + 1) by omega] at hG
                  refine lv_aload_n hx hb dX9_readStatement_220 rfl (lv_at hl 2 rfl) ?_
                  refine get_X9_25 hx hb hA hown hE hG t_h0 wd_4_155 dX9_readStatement_221 (fun b527 (t_b527 : ty Γ b527 125) => ?_)
                  refine lv_iload_n hx hb dX9_readStatement_224 rfl (lv_at hl 0 rfl) ?_
                  refine ty_iconst hx hb (2) dX9_readStatement_225 (by decide) (fun x528 h529 => ?_)
                  refine ty_iadd hx hb dX9_readStatement_226 (fun x530 h531 => ?_)
                  try have h532 : x530.toInt = x479.toInt + x528.toInt := ty_add h531 (by omega) (by omega)
                  refine lv_iload_n hx hb dX9_readStatement_227 rfl (lv_at hl 1 rfl) ?_
                  refine ty_if_ne (tgt := 248) hx hb dX9_readStatement_228 (by decide) (fun c533 => ?_) (fun c533 => ?_)
                  · skip
                    refine lv_aload_n hx hb dX9_readStatement_248 rfl (lv_at hl 2 rfl) ?_
                    refine ty_iconst hx hb (0) dX9_readStatement_249 (by decide) (fun x534 h535 => ?_)
                    refine ty_sipush hx hb (9999) dX9_readStatement_250 (by decide) (fun x536 h537 => ?_)
                    have hM538 : pz_m (gs u520 125 (4 * (g 124 0).toNat + 1) x522.toInt) = (pz_N T N9 1 4 (pz_nx T N9 (pz_m g))).1 := (pz_m_cg (by rw [gs_c _ _ _ _ (by decide)]) (by rw [gs_c _ _ _ _ (by decide)]) (by rw [gs_c _ _ _ _ (by decide)]) (by rw [gs_c _ _ _ _ (by decide)]) (by rw [gs_c _ _ _ _ (by decide)]) (by rw [gs_c _ _ _ _ (by decide)])).trans hM525
                    have hk539 : u520 114 0 = u496 114 0 := hf524 114 0 (by decide) (by decide) (by decide) (by decide) (by decide) (by decide)
                    have e540 : (gs u520 125 (4 * (g 124 0).toNat + 1) x522.toInt) 114 0 = u520 114 0 := by rw [gs_c _ _ _ _ (by decide)]
                    have e541 : (gs u520 125 (4 * (g 124 0).toNat + 1) x522.toInt) 115 0 = u520 115 0 := by rw [gs_c _ _ _ _ (by decide)]
                    have e542 : (gs u520 125 (4 * (g 124 0).toNat + 1) x522.toInt) 116 0 = u520 116 0 := by rw [gs_c _ _ _ _ (by decide)]
                    have e543 : (gs u520 125 (4 * (g 124 0).toNat + 1) x522.toInt) 119 0 = u520 119 0 := by rw [gs_c _ _ _ _ (by decide)]
                    have e544 : (gs u520 125 (4 * (g 124 0).toNat + 1) x522.toInt) 114 0 = u520 114 0 := by rw [gs_c _ _ _ _ (by decide)]
                    have e545 : (gs u520 125 (4 * (g 124 0).toNat + 1) x522.toInt) 114 0 = u520 114 0 := by rw [gs_c _ _ _ _ (by decide)]
                    refine cI (va_runV (C := RX9) (As := [.int x534, .int x536]) (rest := [.int x530, .ref b527]) ⟨hx, hb, hml, hown, hA⟩ (k_X9_number l dC dI dA sz X Γ hU (gs u520 125 (4 * (g 124 0).toNat + 1) x522.toInt) h0 t_h0 x534 x536 T N9  (by omega) (by omega) ((funext fun j => show (gs u520 125 (4 * (g 124 0).toNat + 1) x522.toInt) 113 j % 256 = g 113 j % 256 by rw [gs_c _ _ _ _ (by decide), hf524 113 j (by decide) (by decide) (by decide) (by decide) (by decide) (by decide), hf499 113 j (by decide) (by decide) (by decide) (by decide), gs_c _ _ _ _ (by decide), gs_c _ _ _ _ (by decide)]).trans hT) (by omega)) ⟨callB_of 2 hA (al_A wd_5_108) rfl rfl rfl (hA _ wd_1_7) (hA _ wd_5_105) (by decide +kernel) ⟨Nat.le_of_ble_eq_true rfl, Nat.le_of_ble_eq_true rfl⟩, hA _ wd_5_107, hA _ ws_44⟩ ⟨bl, recv_X9 hE hG t_h0, fun U hU9 hW9 => ⟨rfl, by rw [hU9]; exact hG, hE.go hS hU9 hW9⟩⟩ rfl rfl hl.1 rfl (lv_room (Nat.le_of_ble_eq_true rfl)) dX9_readStatement_253 ⟨Nat.zero_le _, Nat.zero_le _⟩) hS (fun x548 u546 H locs w547 hG hS => ?_)
                    obtain ⟨hf550, w547, hq549⟩ := w547
                    have hM551 : pz_m u546 = (pz_N T N9 0 9999 (pz_N T N9 1 4 (pz_nx T N9 (pz_m g))).1).1 ∧ x548.toInt = (pz_N T N9 0 9999 (pz_N T N9 1 4 (pz_nx T N9 (pz_m g))).1).2 := by have h9 := hq549; rw [show x534.toInt = 0 by omega, show x536.toInt = 9999 by omega] at h9; rw [← hM538]; exact h9
                    have hN552 := hM551.2
                    replace hM551 := hM551.1
                    refine ast_mI hx hb hE hG hS hU 25 rfl (n := 120) rfl (lo := -2147483648) (hi := 2147483647) rfl rfl rfl t_b527 (rgD _) (by omega) dX9_readStatement_256 (fun H locs hG hS => ?_)
                    rw [show x530.toInt.toNat = (4 * (g 124 0).toNat + 2) by omega] at hG
                    refine lv_iload_n hx hb dX9_readStatement_257 rfl (lv_at hl 1 rfl) ?_
                    refine ty_if_ne (tgt := 277) hx hb dX9_readStatement_258 (by decide) (fun c553 => ?_) (fun c553 => ?_)
                    · skip
                      have e554 : (gs u546 125 (4 * (g 124 0).toNat + 2) x548.toInt) 119 0 = u546 119 0 := by simp [gs]
                      have e555 : (gs u546 125 (4 * (g 124 0).toNat + 2) x548.toInt) 117 0 = u546 117 0 := by simp [gs]
                      have e556 : (gs u546 125 (4 * (g 124 0).toNat + 2) x548.toInt) 115 0 = u546 115 0 := by simp [gs]
                      have e557 : (gs u546 125 (4 * (g 124 0).toNat + 2) x548.toInt) 116 0 = u546 116 0 := by simp [gs]
                      have hk558 : u546 124 0 = (gs u520 125 (4 * (g 124 0).toNat + 1) x522.toInt) 124 0 := hf550 124 0 (by decide) (by decide) (by decide) (by decide) (by decide) (by decide)
                      replace hk558 : u546 124 0 = u520 124 0 := by rw [hk558, gs_c _ _ _ _ (by decide)]
                      have hk559 : u520 124 0 = u496 124 0 := hf524 124 0 (by decide) (by decide) (by decide) (by decide) (by decide) (by decide)
                      have hk560 : u496 124 0 = (gs (gs g 124 0 x487.toInt) 125 (4 * (g 124 0).toNat) x459.toInt) 124 0 := hf499 124 0 (by decide) (by decide) (by decide) (by decide)
                      replace hk560 : u496 124 0 = x487.toInt := by rw [hk560, gs_c _ _ _ _ (by decide), gs_self]
                      have e561 : (gs u546 125 (4 * (g 124 0).toNat + 2) x548.toInt) 124 0 = u546 124 0 := by simp [gs]
                      have hM562 : pz_m ((gs u546 125 (4 * (g 124 0).toNat + 2) x548.toInt)) = (pz_N T N9 0 9999 (pz_N T N9 1 4 (pz_nx T N9 (pz_m g))).1).1 := (pz_m_cg (by rw [gs_c _ _ _ _ (by decide)]) (by rw [gs_c _ _ _ _ (by decide)]) (by rw [gs_c _ _ _ _ (by decide)]) (by rw [gs_c _ _ _ _ (by decide)]) (by rw [gs_c _ _ _ _ (by decide)]) (by rw [gs_c _ _ _ _ (by decide)])).trans hM551
                      refine lv_aload_n hx hb dX9_readStatement_277 rfl (lv_at hl 2 rfl) ?_
                      refine get_X9_19 hx hb hA hown hE hG t_h0 wd_4_149 dX9_readStatement_278 (fun x563 h564 => ?_)
                      replace h564 : x563.toInt = u546 119 0 := by rw [h564, gs_c _ _ _ _ (by decide)]
                      refine ty_if_ne (tgt := 297) hx hb dX9_readStatement_281 (by decide) (fun c566 => ?_) (fun c566 => ?_)
                      · skip
                        refine lv_aload_n hx hb dX9_readStatement_297 rfl (lv_at hl 2 rfl) ?_
                        refine get_X9_19 hx hb hA hown hE hG t_h0 wd_4_149 dX9_readStatement_298 (fun x567 h568 => ?_)
                        replace h568 : x567.toInt = u546 119 0 := by rw [h568, gs_c _ _ _ _ (by decide)]
                        refine ty_if_ne (tgt := 308) hx hb dX9_readStatement_301 (by decide) (fun c570 => ?_) (fun c570 => ?_)
                        · skip
                          have e571 : (gs u546 125 (4 * (g 124 0).toNat + 2) x548.toInt) 115 0 = u546 115 0 := by rw [gs_c _ _ _ _ (by decide)]
                          have e572 : (gs u546 125 (4 * (g 124 0).toNat + 2) x548.toInt) 116 0 = u546 116 0 := by rw [gs_c _ _ _ _ (by decide)]
                          have e573 : (gs u546 125 (4 * (g 124 0).toNat + 2) x548.toInt) 119 0 = u546 119 0 := by rw [gs_c _ _ _ _ (by decide)]
                          have e574 : (gs u546 125 (4 * (g 124 0).toNat + 2) x548.toInt) 124 0 = u546 124 0 := by rw [gs_c _ _ _ _ (by decide)]
                          exact W.vret hx hb hr (fun t ht hW => ⟨⟨(gs u546 125 (4 * (g 124 0).toNat + 2) x548.toInt), rfl, ⟨(fun c j h115 h116 h117 h118 h119 h120 h124 h125 => by rw [gs_c _ _ _ _ h125, hf550 c j h115 h116 h117 h118 h119 h120, gs_c _ _ _ _ h125, hf524 c j h115 h116 h117 h118 h119 h120, hf499 c j h115 h116 h117 h118, gs_c _ _ _ _ h125, gs_c _ _ _ _ h124]), (by omega), (by rw [pz_st3 (x := pz_m g) (by rw [pz_k2 (hW6.trans (decide_eq_false (by omega))) (hW13.trans (decide_eq_true (by omega)))]; decide) (by omega), pz_k2 (hW6.trans (decide_eq_false (by omega))) (hW13.trans (decide_eq_true (by omega))), pz_R2 rfl, pz_G1 (show ((pz_N T N9 0 9999 (pz_N T N9 1 4 (pz_nx T N9 (pz_m g))).1).1).2.2.2.2.1 ≠ 0 by rw [← hM562]; show ((gs u546 125 (4 * (g 124 0).toNat + 2) x548.toInt)) 119 0 ≠ 0; omega)]; exact ((pz_m_cg (by rw [gs_c _ _ _ _ (by decide)]) (by rw [gs_c _ _ _ _ (by decide)]) (by rw [gs_c _ _ _ _ (by decide)]) (by rw [gs_c _ _ _ _ (by decide)]) (by rw [gs_c _ _ _ _ (by decide)]) (by rw [gs_c _ _ _ _ (by decide)])).trans hM551)), (by unfold st_m; rw [if_neg (fun q => q.elim (fun z => absurd z (by rw [pz_k2 (hW6.trans (decide_eq_false (by omega))) (hW13.trans (decide_eq_true (by omega)))]; decide)) (fun z => absurd z (by omega))), pz_k2 (hW6.trans (decide_eq_false (by omega))) (hW13.trans (decide_eq_true (by omega)))]; unfold rr_f; rw [if_neg (by decide), if_pos rfl]; rw [pz_R2n rfl]; rw [pz_gs, (show u546 125 = (gs u520 125 (4 * (g 124 0).toNat + 1) x522.toInt) 125 from funext fun j => hf550 125 j (by decide) (by decide) (by decide) (by decide) (by decide) (by decide)), pz_gs, (show u520 125 = u496 125 from funext fun j => hf524 125 j (by decide) (by decide) (by decide) (by decide) (by decide) (by decide)), (show u496 125 = (gs (gs g 124 0 x487.toInt) 125 (4 * (g 124 0).toNat) x459.toInt) 125 from funext fun j => hf499 125 j (by decide) (by decide) (by decide) (by decide)), pz_gs, gs_r _ _ _ (by decide)] <;> exact pz_upc3 (by omega) (by omega) (by omega) hN526 (by omega) hN552)⟩, ok1 ht hG⟩, hS.F ht⟩) hS.2.2 dX9_readStatement_308
                        · exfalso; omega
                      · skip
                        refine lv_aload_n hx hb dX9_readStatement_284 rfl (lv_at hl 2 rfl) ?_
                        refine get_X9_17 hx hb hA hown hE hG t_h0 wd_4_147 dX9_readStatement_285 (fun x575 h576 => ?_)
                        replace h576 : x575.toInt = u546 117 0 := by rw [h576, gs_c _ _ _ _ (by decide)]
                        refine ty_iconst hx hb (4) dX9_readStatement_288 (by decide) (fun x578 h579 => ?_)
                        refine ty_icmp_eq (tgt := 297) hx hb dX9_readStatement_289 (by decide) (fun c580 => ?_) (fun c580 => ?_)
                        · skip
                          refine lv_aload_n hx hb dX9_readStatement_297 rfl (lv_at hl 2 rfl) ?_
                          refine get_X9_19 hx hb hA hown hE hG t_h0 wd_4_149 dX9_readStatement_298 (fun x581 h582 => ?_)
                          replace h582 : x581.toInt = u546 119 0 := by rw [h582, gs_c _ _ _ _ (by decide)]
                          refine ty_if_ne (tgt := 308) hx hb dX9_readStatement_301 (by decide) (fun c584 => ?_) (fun c584 => ?_)
                          · exfalso; omega
                          · skip
                            refine lv_aload_n hx hb dX9_readStatement_304 rfl (lv_at hl 2 rfl) ?_
                            have hM585 : pz_m (gs u546 125 (4 * (g 124 0).toNat + 2) x548.toInt) = (pz_N T N9 0 9999 (pz_N T N9 1 4 (pz_nx T N9 (pz_m g))).1).1 := (pz_m_cg (by rw [gs_c _ _ _ _ (by decide)]) (by rw [gs_c _ _ _ _ (by decide)]) (by rw [gs_c _ _ _ _ (by decide)]) (by rw [gs_c _ _ _ _ (by decide)]) (by rw [gs_c _ _ _ _ (by decide)]) (by rw [gs_c _ _ _ _ (by decide)])).trans hM551
                            have hk586 : u546 114 0 = (gs u520 125 (4 * (g 124 0).toNat + 1) x522.toInt) 114 0 := hf550 114 0 (by decide) (by decide) (by decide) (by decide) (by decide) (by decide)
                            replace hk586 : u546 114 0 = u520 114 0 := by rw [hk586, gs_c _ _ _ _ (by decide)]
                            have e587 : (gs u546 125 (4 * (g 124 0).toNat + 2) x548.toInt) 114 0 = u546 114 0 := by rw [gs_c _ _ _ _ (by decide)]
                            have e588 : (gs u546 125 (4 * (g 124 0).toNat + 2) x548.toInt) 115 0 = u546 115 0 := by rw [gs_c _ _ _ _ (by decide)]
                            have e589 : (gs u546 125 (4 * (g 124 0).toNat + 2) x548.toInt) 114 0 = u546 114 0 := by rw [gs_c _ _ _ _ (by decide)]
                            have e590 : (gs u546 125 (4 * (g 124 0).toNat + 2) x548.toInt) 114 0 = u546 114 0 := by rw [gs_c _ _ _ _ (by decide)]
                            refine cV (va_runV (C := RX9) (As := []) (rest := []) ⟨hx, hb, hml, hown, hA⟩ (k_X9_next l dC dI dA sz X Γ hU (gs u546 125 (4 * (g 124 0).toNat + 2) x548.toInt) h0 t_h0 T N9  (by omega) ((funext fun j => show (gs u546 125 (4 * (g 124 0).toNat + 2) x548.toInt) 113 j % 256 = g 113 j % 256 by rw [gs_c _ _ _ _ (by decide), hf550 113 j (by decide) (by decide) (by decide) (by decide) (by decide) (by decide), gs_c _ _ _ _ (by decide), hf524 113 j (by decide) (by decide) (by decide) (by decide) (by decide) (by decide), hf499 113 j (by decide) (by decide) (by decide) (by decide), gs_c _ _ _ _ (by decide), gs_c _ _ _ _ (by decide)]).trans hT) (by omega)) ⟨callB_of 0 hA (al_A wd_5_74) rfl rfl rfl (hA _ wd_1_7) (hA _ wd_5_71) (by decide +kernel) ⟨Nat.le_of_ble_eq_true rfl, Nat.le_of_ble_eq_true rfl⟩, hA _ wd_5_73, hA _ ws_39⟩ ⟨bl, recv_X9 hE hG t_h0, fun U hU9 hW9 => ⟨rfl, by rw [hU9]; exact hG, hE.go hS hU9 hW9⟩⟩ rfl rfl hl.1 rfl (lv_room (Nat.le_of_ble_eq_true rfl)) dX9_readStatement_305 ⟨Nat.zero_le _, Nat.zero_le _⟩) hS (fun u591 H locs w592 hG hS => ?_)
                            obtain ⟨hf594, w592, hq593⟩ := w592
                            have hM595 : pz_m u591 = (pz_nx T N9 (pz_N T N9 0 9999 (pz_N T N9 1 4 (pz_nx T N9 (pz_m g))).1).1) := hq593.trans (congrArg (pz_nx T N9) hM585)
                            have hk596 : u591 119 0 = (gs u546 125 (4 * (g 124 0).toNat + 2) x548.toInt) 119 0 := hf594 119 0 (by decide) (by decide) (by decide) (by decide)
                            replace hk596 : u591 119 0 = u546 119 0 := by rw [hk596, gs_c _ _ _ _ (by decide)]
                            have hk597 : u591 124 0 = (gs u546 125 (4 * (g 124 0).toNat + 2) x548.toInt) 124 0 := hf594 124 0 (by decide) (by decide) (by decide) (by decide)
                            replace hk597 : u591 124 0 = u546 124 0 := by rw [hk597, gs_c _ _ _ _ (by decide)]
                            exact W.vret hx hb hr (fun t ht hW => ⟨⟨u591, rfl, ⟨(fun c j h115 h116 h117 h118 h119 h120 h124 h125 => by rw [hf594 c j h115 h116 h117 h118, gs_c _ _ _ _ h125, hf550 c j h115 h116 h117 h118 h119 h120, gs_c _ _ _ _ h125, hf524 c j h115 h116 h117 h118 h119 h120, hf499 c j h115 h116 h117 h118, gs_c _ _ _ _ h125, gs_c _ _ _ _ h124]), (by omega), (by rw [pz_st3 (x := pz_m g) (by rw [pz_k2 (hW6.trans (decide_eq_false (by omega))) (hW13.trans (decide_eq_true (by omega)))]; decide) (by omega), pz_k2 (hW6.trans (decide_eq_false (by omega))) (hW13.trans (decide_eq_true (by omega))), pz_R2 rfl, pz_G3 (show ((pz_N T N9 0 9999 (pz_N T N9 1 4 (pz_nx T N9 (pz_m g))).1).1).2.2.2.2.1 = 0 by rw [← hM562]; show ((gs u546 125 (4 * (g 124 0).toNat + 2) x548.toInt)) 119 0 = 0; omega) (show ((pz_N T N9 0 9999 (pz_N T N9 1 4 (pz_nx T N9 (pz_m g))).1).1).2.2.1 = 3 by rw [← hM562]; show pz_s (((gs u546 125 (4 * (g 124 0).toNat + 2) x548.toInt)) 117 0) = 3; exact pz_s3.mpr (by omega))]; exact hM595), (by unfold st_m; rw [if_neg (fun q => q.elim (fun z => absurd z (by rw [pz_k2 (hW6.trans (decide_eq_false (by omega))) (hW13.trans (decide_eq_true (by omega)))]; decide)) (fun z => absurd z (by omega))), pz_k2 (hW6.trans (decide_eq_false (by omega))) (hW13.trans (decide_eq_true (by omega)))]; unfold rr_f; rw [if_neg (by decide), if_pos rfl]; rw [pz_R2n rfl]; rw [(show u591 125 = (gs u546 125 (4 * (g 124 0).toNat + 2) x548.toInt) 125 from funext fun j => hf594 125 j (by decide) (by decide) (by decide) (by decide)), pz_gs, (show u546 125 = (gs u520 125 (4 * (g 124 0).toNat + 1) x522.toInt) 125 from funext fun j => hf550 125 j (by decide) (by decide) (by decide) (by decide) (by decide) (by decide)), pz_gs, (show u520 125 = u496 125 from funext fun j => hf524 125 j (by decide) (by decide) (by decide) (by decide) (by decide) (by decide)), (show u496 125 = (gs (gs g 124 0 x487.toInt) 125 (4 * (g 124 0).toNat) x459.toInt) 125 from funext fun j => hf499 125 j (by decide) (by decide) (by decide) (by decide)), pz_gs, gs_r _ _ _ (by decide)] <;> exact pz_upc3 (by omega) (by omega) (by omega) hN526 (by omega) hN552)⟩, ok1 ht hG⟩, hS.F ht⟩) hS.2.2 dX9_readStatement_308
                        · skip
                          refine lv_aload_n hx hb dX9_readStatement_292 rfl (lv_at hl 2 rfl) ?_
                          refine ty_iconst hx hb (1) dX9_readStatement_293 (by decide) (fun x598 h599 => ?_)
                          have e600 : (gs u546 125 (4 * (g 124 0).toNat + 2) x548.toInt) 119 0 = u546 119 0 := by simp [gs]
                          have hM601 : pz_m (gs u546 125 (4 * (g 124 0).toNat + 2) x548.toInt) = (pz_N T N9 0 9999 (pz_N T N9 1 4 (pz_nx T N9 (pz_m g))).1).1 := (pz_m_cg (by rw [gs_c _ _ _ _ (by decide)]) (by rw [gs_c _ _ _ _ (by decide)]) (by rw [gs_c _ _ _ _ (by decide)]) (by rw [gs_c _ _ _ _ (by decide)]) (by rw [gs_c _ _ _ _ (by decide)]) (by rw [gs_c _ _ _ _ (by decide)])).trans hM551
                          have e602 : (gs u546 125 (4 * (g 124 0).toNat + 2) x548.toInt) 119 0 = u546 119 0 := by rw [gs_c _ _ _ _ (by decide)]
                          have e603 : (gs u546 125 (4 * (g 124 0).toNat + 2) x548.toInt) 119 0 = u546 119 0 := by rw [gs_c _ _ _ _ (by decide)]
                          refine cV (va_runV (C := RX9) (As := [.int x598]) (rest := []) ⟨hx, hb, hml, hown, hA⟩ (k_X9_fails l dC dI dA sz X Γ hU (gs u546 125 (4 * (g 124 0).toNat + 2) x548.toInt) h0 t_h0 x598   (by omega)) ⟨callB_of 1 hA (al_A wd_5_102) rfl rfl rfl (hA _ wd_1_7) (hA _ wd_5_99) (by decide +kernel) ⟨Nat.le_of_ble_eq_true rfl, Nat.le_of_ble_eq_true rfl⟩, hA _ wd_5_101, hA _ ws_43⟩ ⟨bl, recv_X9 hE hG t_h0, fun U hU9 hW9 => ⟨rfl, by rw [hU9]; exact hG, hE.go hS hU9 hW9⟩⟩ rfl rfl hl.1 rfl (lv_room (Nat.le_of_ble_eq_true rfl)) dX9_readStatement_294 ⟨Nat.zero_le _, Nat.zero_le _⟩) hS (fun u604 H locs w605 hG hS => ?_)
                          obtain ⟨hf607, w605, hq606⟩ := w605
                          have hM608 : pz_m u604 = pz_bl 1 (pz_N T N9 0 9999 (pz_N T N9 1 4 (pz_nx T N9 (pz_m g))).1).1 := by have h9 := hq606.1 (by omega); rw [show x598.toInt = 1 by omega] at h9; exact h9.trans (congrArg (pz_bl 1) hM601)
                          refine lv_aload_n hx hb dX9_readStatement_297 rfl (lv_at hl 2 rfl) ?_
                          refine get_X9_19 hx hb hA hown hE hG t_h0 wd_4_149 dX9_readStatement_298 (fun x609 h610 => ?_)
                          refine ty_if_ne (tgt := 308) hx hb dX9_readStatement_301 (by decide) (fun c612 => ?_) (fun c612 => ?_)
                          · skip
                            have hk613 : u604 115 0 = (gs u546 125 (4 * (g 124 0).toNat + 2) x548.toInt) 115 0 := hf607 115 0 (by decide) (by decide)
                            replace hk613 : u604 115 0 = u546 115 0 := by rw [hk613, gs_c _ _ _ _ (by decide)]
                            have hk614 : u604 116 0 = (gs u546 125 (4 * (g 124 0).toNat + 2) x548.toInt) 116 0 := hf607 116 0 (by decide) (by decide)
                            replace hk614 : u604 116 0 = u546 116 0 := by rw [hk614, gs_c _ _ _ _ (by decide)]
                            have hk615 : u604 124 0 = (gs u546 125 (4 * (g 124 0).toNat + 2) x548.toInt) 124 0 := hf607 124 0 (by decide) (by decide)
                            replace hk615 : u604 124 0 = u546 124 0 := by rw [hk615, gs_c _ _ _ _ (by decide)]
                            exact W.vret hx hb hr (fun t ht hW => ⟨⟨u604, rfl, ⟨(fun c j h115 h116 h117 h118 h119 h120 h124 h125 => by rw [hf607 c j h119 h120, gs_c _ _ _ _ h125, hf550 c j h115 h116 h117 h118 h119 h120, gs_c _ _ _ _ h125, hf524 c j h115 h116 h117 h118 h119 h120, hf499 c j h115 h116 h117 h118, gs_c _ _ _ _ h125, gs_c _ _ _ _ h124]), (by omega), (by rw [pz_st3 (x := pz_m g) (by rw [pz_k2 (hW6.trans (decide_eq_false (by omega))) (hW13.trans (decide_eq_true (by omega)))]; decide) (by omega), pz_k2 (hW6.trans (decide_eq_false (by omega))) (hW13.trans (decide_eq_true (by omega))), pz_R2 rfl, pz_G2 (show ((pz_N T N9 0 9999 (pz_N T N9 1 4 (pz_nx T N9 (pz_m g))).1).1).2.2.2.2.1 = 0 by rw [← hM562]; show ((gs u546 125 (4 * (g 124 0).toNat + 2) x548.toInt)) 119 0 = 0; omega) (show ((pz_N T N9 0 9999 (pz_N T N9 1 4 (pz_nx T N9 (pz_m g))).1).1).2.2.1 ≠ 3 by rw [← hM562]; show pz_s (((gs u546 125 (4 * (g 124 0).toNat + 2) x548.toInt)) 117 0) ≠ 3; exact fun q => absurd (pz_s3.mp q) (by omega))]; exact hM608), (by unfold st_m; rw [if_neg (fun q => q.elim (fun z => absurd z (by rw [pz_k2 (hW6.trans (decide_eq_false (by omega))) (hW13.trans (decide_eq_true (by omega)))]; decide)) (fun z => absurd z (by omega))), pz_k2 (hW6.trans (decide_eq_false (by omega))) (hW13.trans (decide_eq_true (by omega)))]; unfold rr_f; rw [if_neg (by decide), if_pos rfl]; rw [pz_R2n rfl]; rw [(show u604 125 = (gs u546 125 (4 * (g 124 0).toNat + 2) x548.toInt) 125 from funext fun j => hf607 125 j (by decide) (by decide)), pz_gs, (show u546 125 = (gs u520 125 (4 * (g 124 0).toNat + 1) x522.toInt) 125 from funext fun j => hf550 125 j (by decide) (by decide) (by decide) (by decide) (by decide) (by decide)), pz_gs, (show u520 125 = u496 125 from funext fun j => hf524 125 j (by decide) (by decide) (by decide) (by decide) (by decide) (by decide)), (show u496 125 = (gs (gs g 124 0 x487.toInt) 125 (4 * (g 124 0).toNat) x459.toInt) 125 from funext fun j => hf499 125 j (by decide) (by decide) (by decide) (by decide)), pz_gs, gs_r _ _ _ (by decide)] <;> exact pz_upc3 (by omega) (by omega) (by omega) hN526 (by omega) hN552)⟩, ok1 ht hG⟩, hS.F ht⟩) hS.2.2 dX9_readStatement_308
                          · exfalso; omega
                    · exfalso; omega
                  · exfalso; omega
              · exfalso; omega
            · exfalso; omega
          · exfalso; omega
        · skip
          refine lv_aload_n hx hb dX9_readStatement_76 rfl (lv_at hl 1 rfl) ?_
          refine ty_iconst hx hb (3) dX9_readStatement_77 (by decide) (fun x616 h617 => ?_)
          refine cV (va_runV (C := RX9) (As := [.int x616]) (rest := []) ⟨hx, hb, hml, hown, hA⟩ (k_X9_fails l dC dI dA sz X Γ hU g h0 t_h0 x616   (by omega)) ⟨callB_of 1 hA (al_A wd_5_102) rfl rfl rfl (hA _ wd_1_7) (hA _ wd_5_99) (by decide +kernel) ⟨Nat.le_of_ble_eq_true rfl, Nat.le_of_ble_eq_true rfl⟩, hA _ wd_5_101, hA _ ws_43⟩ ⟨bl, recv_X9 hE hG t_h0, fun U hU9 hW9 => ⟨rfl, by rw [hU9]; exact hG, hE.go hS hU9 hW9⟩⟩ rfl rfl hl.1 rfl (lv_room (Nat.le_of_ble_eq_true rfl)) dX9_readStatement_78 ⟨Nat.zero_le _, Nat.zero_le _⟩) hS (fun u618 H locs w619 hG hS => ?_)
          obtain ⟨hf621, w619, hq620⟩ := w619
          have hM622 : pz_m u618 = pz_bl 3 (pz_m g) := by have h9 := hq620.1 (by omega); rw [show x616.toInt = 3 by omega] at h9; exact h9.trans (congrArg (pz_bl 3) rfl)
          refine lv_aload_n hx hb dX9_readStatement_81 rfl (lv_at hl 1 rfl) ?_
          refine get_X9_19 hx hb hA hown hE hG t_h0 wd_4_149 dX9_readStatement_82 (fun x623 h624 => ?_)
          refine ty_if_eq (tgt := 89) hx hb dX9_readStatement_85 (by decide) (fun c626 => ?_) (fun c626 => ?_)
          · exfalso; omega
          · skip
            have hk627 : u618 115 0 = g 115 0 := hf621 115 0 (by decide) (by decide)
            have hk628 : u618 116 0 = g 116 0 := hf621 116 0 (by decide) (by decide)
            have hk629 : u618 124 0 = g 124 0 := hf621 124 0 (by decide) (by decide)
            exact W.vret hx hb hr (fun t ht hW => ⟨⟨u618, rfl, ⟨(fun c j h115 h116 h117 h118 h119 h120 h124 h125 => by rw [hf621 c j h119 h120]), (by omega), (by rw [pz_st2 (x := pz_m g) (by rw [pz_k2 (hW6.trans (decide_eq_false (by omega))) (hW13.trans (decide_eq_true (by omega)))]; decide) (by omega)]; exact hM622), (by unfold st_m; rw [if_pos (Or.inr (by omega))]; rw [(show u618 125 = g 125 from funext fun j => hf621 125 j (by decide) (by decide))])⟩, ok1 ht hG⟩, hS.F ht⟩) hS.2.2 dX9_readStatement_88
      · exfalso; omega
  · skip
    refine ty_iconst hx hb (0) dX9_readStatement_9 (by decide) (fun x630 h631 => ?_)
    refine lv_goto (tgt := 53) hx hb dX9_readStatement_10 (by decide) ?_
    refine lv_istore_n (lv' := [(1, .int x630), (0, .ref h0)]) hx hb dX9_readStatement_53 rfl hl (by decide) rfl (fun ls hl => ?_)
    refine lv_iload_n hx hb dX9_readStatement_54 rfl (lv_at hl 0 rfl) ?_
    refine ty_iconst hx hb (-1) dX9_readStatement_55 (by decide) (fun x632 h633 => ?_)
    refine ty_icmp_ne (tgt := 67) hx hb dX9_readStatement_56 (by decide) (fun c634 => ?_) (fun c634 => ?_)
    · skip
      refine lv_aload_n hx hb dX9_readStatement_67 rfl (lv_at hl 1 rfl) ?_
      refine get_X9_24 hx hb hA hown hE hG t_h0 wd_4_154 dX9_readStatement_68 (fun x635 h636 => ?_)
      refine ty_bipush hx hb (30) dX9_readStatement_71 (by decide) (fun x638 h639 => ?_)
      refine ty_icmp_ne (tgt := 81) hx hb dX9_readStatement_73 (by decide) (fun c640 => ?_) (fun c640 => ?_)
      · skip
        refine lv_aload_n hx hb dX9_readStatement_81 rfl (lv_at hl 1 rfl) ?_
        refine get_X9_19 hx hb hA hown hE hG t_h0 wd_4_149 dX9_readStatement_82 (fun x641 h642 => ?_)
        refine ty_if_eq (tgt := 89) hx hb dX9_readStatement_85 (by decide) (fun c644 => ?_) (fun c644 => ?_)
        · skip
          refine ty_iconst hx hb (4) dX9_readStatement_89 (by decide) (fun x645 h646 => ?_)
          refine lv_aload_n hx hb dX9_readStatement_90 rfl (lv_at hl 1 rfl) ?_
          refine get_X9_24 hx hb hA hown hE hG t_h0 wd_4_154 dX9_readStatement_91 (fun x647 h648 => ?_)
          refine ty_imul hx hb dX9_readStatement_94 (fun x650 h651 => ?_)
          try have h652 : x650.toInt = 4 * x647.toInt := ty_mull h651 (by omega) (by omega) (by omega)
          refine lv_istore_n (lv' := [(2, .int x650), (1, .int x630), (0, .ref h0)]) hx hb dX9_readStatement_95 rfl hl (by decide) rfl (fun ls hl => ?_)
          refine lv_aload_n hx hb dX9_readStatement_96 rfl (lv_at hl 2 rfl) ?_
          refine lv_dup hx hb dX9_readStatement_97 rfl ?_
          refine get_X9_24 hx hb hA hown hE hG t_h0 wd_4_154 dX9_readStatement_98 (fun x653 h654 => ?_)
          refine ty_iconst hx hb (1) dX9_readStatement_101 (by decide) (fun x656 h657 => ?_)
          refine ty_iadd hx hb dX9_readStatement_102 (fun x658 h659 => ?_)
          try have h660 : x658.toInt = x653.toInt + x656.toInt := ty_add h659 (by omega) (by omega)
          refine put_X9_24 hx hb hA hown hE hG hS hU t_h0 wd_4_154 dX9_readStatement_103 (fun H locs hG hS => ?_)
          refine lv_aload_n hx hb dX9_readStatement_106 rfl (lv_at hl 2 rfl) ?_
          refine get_X9_25 hx hb hA hown hE hG t_h0 wd_4_155 dX9_readStatement_107 (fun b661 (t_b661 : ty Γ b661 125) => ?_)
          refine lv_iload_n hx hb dX9_readStatement_110 rfl (lv_at hl 0 rfl) ?_
          refine lv_iload_n hx hb dX9_readStatement_111 rfl (lv_at hl 1 rfl) ?_
          refine ast_mI hx hb hE hG hS hU 25 rfl (n := 120) rfl (lo := -2147483648) (hi := 2147483647) rfl rfl rfl t_b661 (rgD _) (by omega) dX9_readStatement_112 (fun H locs hG hS => ?_)
          rw [show x650.toInt.toNat = (4 * (g 124 0).toNat) by omega] at hG
          refine lv_aload_n hx hb dX9_readStatement_113 rfl (lv_at hl 2 rfl) ?_
          have hM662 : pz_m (gs (gs g 124 0 x658.toInt) 125 (4 * (g 124 0).toNat) x630.toInt) = (pz_m g) := (pz_m_cg (by rw [gs_c _ _ _ _ (by decide), gs_c _ _ _ _ (by decide)]) (by rw [gs_c _ _ _ _ (by decide), gs_c _ _ _ _ (by decide)]) (by rw [gs_c _ _ _ _ (by decide), gs_c _ _ _ _ (by decide)]) (by rw [gs_c _ _ _ _ (by decide), gs_c _ _ _ _ (by decide)]) (by rw [gs_c _ _ _ _ (by decide), gs_c _ _ _ _ (by decide)]) (by rw [gs_c _ _ _ _ (by decide), gs_c _ _ _ _ (by decide)])).trans rfl
          have e663 : (gs (gs g 124 0 x658.toInt) 125 (4 * (g 124 0).toNat) x630.toInt) 114 0 = g 114 0 := by rw [gs_c _ _ _ _ (by decide), gs_c _ _ _ _ (by decide)]
          have e664 : (gs (gs g 124 0 x658.toInt) 125 (4 * (g 124 0).toNat) x630.toInt) 115 0 = g 115 0 := by rw [gs_c _ _ _ _ (by decide), gs_c _ _ _ _ (by decide)]
          have e665 : (gs (gs g 124 0 x658.toInt) 125 (4 * (g 124 0).toNat) x630.toInt) 114 0 = g 114 0 := by rw [gs_c _ _ _ _ (by decide), gs_c _ _ _ _ (by decide)]
          have e666 : (gs (gs g 124 0 x658.toInt) 125 (4 * (g 124 0).toNat) x630.toInt) 114 0 = g 114 0 := by rw [gs_c _ _ _ _ (by decide), gs_c _ _ _ _ (by decide)]
          refine cV (va_runV (C := RX9) (As := []) (rest := []) ⟨hx, hb, hml, hown, hA⟩ (k_X9_next l dC dI dA sz X Γ hU (gs (gs g 124 0 x658.toInt) 125 (4 * (g 124 0).toNat) x630.toInt) h0 t_h0 T N9  (by omega) ((funext fun j => show (gs (gs g 124 0 x658.toInt) 125 (4 * (g 124 0).toNat) x630.toInt) 113 j % 256 = g 113 j % 256 by rw [gs_c _ _ _ _ (by decide), gs_c _ _ _ _ (by decide)]).trans hT) (by omega)) ⟨callB_of 0 hA (al_A wd_5_74) rfl rfl rfl (hA _ wd_1_7) (hA _ wd_5_71) (by decide +kernel) ⟨Nat.le_of_ble_eq_true rfl, Nat.le_of_ble_eq_true rfl⟩, hA _ wd_5_73, hA _ ws_39⟩ ⟨bl, recv_X9 hE hG t_h0, fun U hU9 hW9 => ⟨rfl, by rw [hU9]; exact hG, hE.go hS hU9 hW9⟩⟩ rfl rfl hl.1 rfl (lv_room (Nat.le_of_ble_eq_true rfl)) dX9_readStatement_114 ⟨Nat.zero_le _, Nat.zero_le _⟩) hS (fun u667 H locs w668 hG hS => ?_)
          obtain ⟨hf670, w668, hq669⟩ := w668
          have hM671 : pz_m u667 = (pz_nx T N9 (pz_m g)) := hq669.trans (congrArg (pz_nx T N9) hM662)
          refine lv_iload_n hx hb dX9_readStatement_117 rfl (lv_at hl 1 rfl) ?_
          refine ty_iconst hx hb (3) dX9_readStatement_118 (by decide) (fun x672 h673 => ?_)
          refine ty_icmp_ne (tgt := 177) hx hb dX9_readStatement_119 (by decide) (fun c674 => ?_) (fun c674 => ?_)
          · skip
            refine lv_aload_n hx hb dX9_readStatement_177 rfl (lv_at hl 2 rfl) ?_
            refine get_X9_25 hx hb hA hown hE hG t_h0 wd_4_155 dX9_readStatement_178 (fun b675 (t_b675 : ty Γ b675 125) => ?_)
            refine lv_iload_n hx hb dX9_readStatement_181 rfl (lv_at hl 0 rfl) ?_
            refine ty_iconst hx hb (1) dX9_readStatement_182 (by decide) (fun x676 h677 => ?_)
            refine ty_iadd hx hb dX9_readStatement_183 (fun x678 h679 => ?_)
            try have h680 : x678.toInt = x650.toInt + x676.toInt := ty_add h679 (by omega) (by omega)
            refine lv_iload_n hx hb dX9_readStatement_184 rfl (lv_at hl 1 rfl) ?_
            refine ty_if_ne (tgt := 198) hx hb dX9_readStatement_185 (by decide) (fun c681 => ?_) (fun c681 => ?_)
            · exfalso; omega
            · skip
              refine lv_aload_n hx hb dX9_readStatement_188 rfl (lv_at hl 2 rfl) ?_
              refine ty_iconst hx hb (0) dX9_readStatement_189 (by decide) (fun x682 h683 => ?_)
              refine ty_bipush hx hb (52) dX9_readStatement_190 (by decide) (fun x684 h685 => ?_)
              have hk686 : u667 114 0 = (gs (gs g 124 0 x658.toInt) 125 (4 * (g 124 0).toNat) x630.toInt) 114 0 := hf670 114 0 (by decide) (by decide) (by decide) (by decide)
              replace hk686 : u667 114 0 = g 114 0 := by rw [hk686, gs_c _ _ _ _ (by decide), gs_c _ _ _ _ (by decide)]
              have hk687 : u667 119 0 = (gs (gs g 124 0 x658.toInt) 125 (4 * (g 124 0).toNat) x630.toInt) 119 0 := hf670 119 0 (by decide) (by decide) (by decide) (by decide)
              replace hk687 : u667 119 0 = g 119 0 := by rw [hk687, gs_c _ _ _ _ (by decide), gs_c _ _ _ _ (by decide)]
              refine cI (va_runV (C := RX9) (As := [.int x682, .int x684]) (rest := [.int x678, .ref b675]) ⟨hx, hb, hml, hown, hA⟩ (k_X9_number l dC dI dA sz X Γ hU u667 h0 t_h0 x682 x684 T N9  (by omega) (by omega) ((funext fun j => show u667 113 j % 256 = g 113 j % 256 by rw [hf670 113 j (by decide) (by decide) (by decide) (by decide), gs_c _ _ _ _ (by decide), gs_c _ _ _ _ (by decide)]).trans hT) (by omega)) ⟨callB_of 2 hA (al_A wd_5_108) rfl rfl rfl (hA _ wd_1_7) (hA _ wd_5_105) (by decide +kernel) ⟨Nat.le_of_ble_eq_true rfl, Nat.le_of_ble_eq_true rfl⟩, hA _ wd_5_107, hA _ ws_44⟩ ⟨bl, recv_X9 hE hG t_h0, fun U hU9 hW9 => ⟨rfl, by rw [hU9]; exact hG, hE.go hS hU9 hW9⟩⟩ rfl rfl hl.1 rfl (lv_room (Nat.le_of_ble_eq_true rfl)) dX9_readStatement_192 ⟨Nat.zero_le _, Nat.zero_le _⟩) hS (fun x690 u688 H locs w689 hG hS => ?_)
              obtain ⟨hf692, w689, hq691⟩ := w689
              have hM693 : pz_m u688 = (pz_N T N9 0 52 (pz_nx T N9 (pz_m g))).1 ∧ x690.toInt = (pz_N T N9 0 52 (pz_nx T N9 (pz_m g))).2 := by have h9 := hq691; rw [show x682.toInt = 0 by omega, show x684.toInt = 52 by omega] at h9; rw [← hM671]; exact h9
              have hN694 := hM693.2
              replace hM693 := hM693.1
              refine lv_goto (tgt := 219) hx hb dX9_readStatement_195 (by decide) ?_
              refine ast_mI hx hb hE hG hS hU 25 rfl (n := 120) rfl (lo := -2147483648) (hi := 2147483647) rfl rfl rfl t_b675 (rgD _) (by omega) dX9_readStatement_219 (fun H locs hG hS => ?_)
              rw [show x678.toInt.toNat = (4 * (g 124 0).toNat + 1) by omega] at hG
              refine lv_aload_n hx hb dX9_readStatement_220 rfl (lv_at hl 2 rfl) ?_
              refine get_X9_25 hx hb hA hown hE hG t_h0 wd_4_155 dX9_readStatement_221 (fun b695 (t_b695 : ty Γ b695 125) => ?_)
              refine lv_iload_n hx hb dX9_readStatement_224 rfl (lv_at hl 0 rfl) ?_
              refine ty_iconst hx hb (2) dX9_readStatement_225 (by decide) (fun x696 h697 => ?_)
              refine ty_iadd hx hb dX9_readStatement_226 (fun x698 h699 => ?_)
              try have h700 : x698.toInt = x650.toInt + x696.toInt := ty_add h699 (by omega) (by omega)
              refine lv_iload_n hx hb dX9_readStatement_227 rfl (lv_at hl 1 rfl) ?_
              refine ty_if_ne (tgt := 248) hx hb dX9_readStatement_228 (by decide) (fun c701 => ?_) (fun c701 => ?_)
              · exfalso; omega
              · skip
                refine lv_aload_n hx hb dX9_readStatement_231 rfl (lv_at hl 2 rfl) ?_
                refine lv_aload_n hx hb dX9_readStatement_232 rfl (lv_at hl 2 rfl) ?_
                refine get_X9_25 hx hb hA hown hE hG t_h0 wd_4_155 dX9_readStatement_233 (fun b702 (t_b702 : ty Γ b702 125) => ?_)
                refine lv_iload_n hx hb dX9_readStatement_236 rfl (lv_at hl 0 rfl) ?_
                refine ty_iconst hx hb (1) dX9_readStatement_237 (by decide) (fun x703 h704 => ?_)
                refine ty_iadd hx hb dX9_readStatement_238 (fun x705 h706 => ?_)
                try have h707 : x705.toInt = x650.toInt + x703.toInt := ty_add h706 (by omega) (by omega)
                refine ald_mI hx hb hE hG 25 rfl (n := 120) rfl (lo := -2147483648) (hi := 2147483647) rfl rfl t_b702 (by omega) dX9_readStatement_239 (fun j709 x708 h710 h711 h712 => ?_)
                clear h712
                have hl713 : x708.toInt = x690.toInt := by rw [h711, show j709 = (4 * (g 124 0).toNat + 1) by omega, gs_self]
                refine ty_bipush hx hb (52) dX9_readStatement_240 (by decide) (fun x714 h715 => ?_)
                have hM716 : pz_m (gs u688 125 (4 * (g 124 0).toNat + 1) x690.toInt) = (pz_N T N9 0 52 (pz_nx T N9 (pz_m g))).1 := (pz_m_cg (by rw [gs_c _ _ _ _ (by decide)]) (by rw [gs_c _ _ _ _ (by decide)]) (by rw [gs_c _ _ _ _ (by decide)]) (by rw [gs_c _ _ _ _ (by decide)]) (by rw [gs_c _ _ _ _ (by decide)]) (by rw [gs_c _ _ _ _ (by decide)])).trans hM693
                have hk717 : u688 114 0 = u667 114 0 := hf692 114 0 (by decide) (by decide) (by decide) (by decide) (by decide) (by decide)
                have e718 : (gs u688 125 (4 * (g 124 0).toNat + 1) x690.toInt) 114 0 = u688 114 0 := by rw [gs_c _ _ _ _ (by decide)]
                have e719 : (gs u688 125 (4 * (g 124 0).toNat + 1) x690.toInt) 115 0 = u688 115 0 := by rw [gs_c _ _ _ _ (by decide)]
                have e720 : (gs u688 125 (4 * (g 124 0).toNat + 1) x690.toInt) 116 0 = u688 116 0 := by rw [gs_c _ _ _ _ (by decide)]
                have e721 : (gs u688 125 (4 * (g 124 0).toNat + 1) x690.toInt) 119 0 = u688 119 0 := by rw [gs_c _ _ _ _ (by decide)]
                have e722 : (gs u688 125 (4 * (g 124 0).toNat + 1) x690.toInt) 114 0 = u688 114 0 := by rw [gs_c _ _ _ _ (by decide)]
                have e723 : (gs u688 125 (4 * (g 124 0).toNat + 1) x690.toInt) 114 0 = u688 114 0 := by rw [gs_c _ _ _ _ (by decide)]
                refine cI (va_runV (C := RX9) (As := [.int x708, .int x714]) (rest := [.int x698, .ref b695]) ⟨hx, hb, hml, hown, hA⟩ (k_X9_number l dC dI dA sz X Γ hU (gs u688 125 (4 * (g 124 0).toNat + 1) x690.toInt) h0 t_h0 x708 x714 T N9  (by omega) (by omega) ((funext fun j => show (gs u688 125 (4 * (g 124 0).toNat + 1) x690.toInt) 113 j % 256 = g 113 j % 256 by rw [gs_c _ _ _ _ (by decide), hf692 113 j (by decide) (by decide) (by decide) (by decide) (by decide) (by decide), hf670 113 j (by decide) (by decide) (by decide) (by decide), gs_c _ _ _ _ (by decide), gs_c _ _ _ _ (by decide)]).trans hT) (by omega)) ⟨callB_of 2 hA (al_A wd_5_108) rfl rfl rfl (hA _ wd_1_7) (hA _ wd_5_105) (by decide +kernel) ⟨Nat.le_of_ble_eq_true rfl, Nat.le_of_ble_eq_true rfl⟩, hA _ wd_5_107, hA _ ws_44⟩ ⟨bl, recv_X9 hE hG t_h0, fun U hU9 hW9 => ⟨rfl, by rw [hU9]; exact hG, hE.go hS hU9 hW9⟩⟩ rfl rfl hl.1 rfl (lv_room (Nat.le_of_ble_eq_true rfl)) dX9_readStatement_242 ⟨Nat.zero_le _, Nat.zero_le _⟩) hS (fun x726 u724 H locs w725 hG hS => ?_)
                obtain ⟨hf728, w725, hq727⟩ := w725
                have hM729 : pz_m u724 = (pz_N T N9 (pz_N T N9 0 52 (pz_nx T N9 (pz_m g))).2 52 (pz_N T N9 0 52 (pz_nx T N9 (pz_m g))).1).1 ∧ x726.toInt = (pz_N T N9 (pz_N T N9 0 52 (pz_nx T N9 (pz_m g))).2 52 (pz_N T N9 0 52 (pz_nx T N9 (pz_m g))).1).2 := by have h9 := hq727; rw [show x708.toInt = (pz_N T N9 0 52 (pz_nx T N9 (pz_m g))).2 by omega, show x714.toInt = 52 by omega] at h9; rw [← hM716]; exact h9
                have hN730 := hM729.2
                replace hM729 := hM729.1
                refine lv_goto (tgt := 256) hx hb dX9_readStatement_245 (by decide) ?_
                refine ast_mI hx hb hE hG hS hU 25 rfl (n := 120) rfl (lo := -2147483648) (hi := 2147483647) rfl rfl rfl t_b695 (rgD _) (by omega) dX9_readStatement_256 (fun H locs hG hS => ?_)
                rw [show x698.toInt.toNat = (4 * (g 124 0).toNat + 2) by omega] at hG
                refine lv_iload_n hx hb dX9_readStatement_257 rfl (lv_at hl 1 rfl) ?_
                refine ty_if_ne (tgt := 277) hx hb dX9_readStatement_258 (by decide) (fun c731 => ?_) (fun c731 => ?_)
                · exfalso; omega
                · skip
                  refine lv_aload_n hx hb dX9_readStatement_261 rfl (lv_at hl 2 rfl) ?_
                  refine get_X9_25 hx hb hA hown hE hG t_h0 wd_4_155 dX9_readStatement_262 (fun b732 (t_b732 : ty Γ b732 125) => ?_)
                  refine lv_iload_n hx hb dX9_readStatement_265 rfl (lv_at hl 0 rfl) ?_
                  refine ty_iconst hx hb (3) dX9_readStatement_266 (by decide) (fun x733 h734 => ?_)
                  refine ty_iadd hx hb dX9_readStatement_267 (fun x735 h736 => ?_)
                  try have h737 : x735.toInt = x650.toInt + x733.toInt := ty_add h736 (by omega) (by omega)
                  refine lv_aload_n hx hb dX9_readStatement_268 rfl (lv_at hl 2 rfl) ?_
                  refine ty_iconst hx hb (0) dX9_readStatement_269 (by decide) (fun x738 h739 => ?_)
                  refine ty_sipush hx hb (9999) dX9_readStatement_270 (by decide) (fun x740 h741 => ?_)
                  have hM742 : pz_m (gs u724 125 (4 * (g 124 0).toNat + 2) x726.toInt) = (pz_N T N9 (pz_N T N9 0 52 (pz_nx T N9 (pz_m g))).2 52 (pz_N T N9 0 52 (pz_nx T N9 (pz_m g))).1).1 := (pz_m_cg (by rw [gs_c _ _ _ _ (by decide)]) (by rw [gs_c _ _ _ _ (by decide)]) (by rw [gs_c _ _ _ _ (by decide)]) (by rw [gs_c _ _ _ _ (by decide)]) (by rw [gs_c _ _ _ _ (by decide)]) (by rw [gs_c _ _ _ _ (by decide)])).trans hM729
                  have hk743 : u724 114 0 = (gs u688 125 (4 * (g 124 0).toNat + 1) x690.toInt) 114 0 := hf728 114 0 (by decide) (by decide) (by decide) (by decide) (by decide) (by decide)
                  replace hk743 : u724 114 0 = u688 114 0 := by rw [hk743, gs_c _ _ _ _ (by decide)]
                  have e744 : (gs u724 125 (4 * (g 124 0).toNat + 2) x726.toInt) 114 0 = u724 114 0 := by rw [gs_c _ _ _ _ (by decide)]
                  have e745 : (gs u724 125 (4 * (g 124 0).toNat + 2) x726.toInt) 115 0 = u724 115 0 := by rw [gs_c _ _ _ _ (by decide)]
                  have e746 : (gs u724 125 (4 * (g 124 0).toNat + 2) x726.toInt) 116 0 = u724 116 0 := by rw [gs_c _ _ _ _ (by decide)]
                  have e747 : (gs u724 125 (4 * (g 124 0).toNat + 2) x726.toInt) 119 0 = u724 119 0 := by rw [gs_c _ _ _ _ (by decide)]
                  have e748 : (gs u724 125 (4 * (g 124 0).toNat + 2) x726.toInt) 114 0 = u724 114 0 := by rw [gs_c _ _ _ _ (by decide)]
                  have e749 : (gs u724 125 (4 * (g 124 0).toNat + 2) x726.toInt) 114 0 = u724 114 0 := by rw [gs_c _ _ _ _ (by decide)]
                  refine cI (va_runV (C := RX9) (As := [.int x738, .int x740]) (rest := [.int x735, .ref b732]) ⟨hx, hb, hml, hown, hA⟩ (k_X9_number l dC dI dA sz X Γ hU (gs u724 125 (4 * (g 124 0).toNat + 2) x726.toInt) h0 t_h0 x738 x740 T N9  (by omega) (by omega) ((funext fun j => show (gs u724 125 (4 * (g 124 0).toNat + 2) x726.toInt) 113 j % 256 = g 113 j % 256 by rw [gs_c _ _ _ _ (by decide), hf728 113 j (by decide) (by decide) (by decide) (by decide) (by decide) (by decide), gs_c _ _ _ _ (by decide), hf692 113 j (by decide) (by decide) (by decide) (by decide) (by decide) (by decide), hf670 113 j (by decide) (by decide) (by decide) (by decide), gs_c _ _ _ _ (by decide), gs_c _ _ _ _ (by decide)]).trans hT) (by omega)) ⟨callB_of 2 hA (al_A wd_5_108) rfl rfl rfl (hA _ wd_1_7) (hA _ wd_5_105) (by decide +kernel) ⟨Nat.le_of_ble_eq_true rfl, Nat.le_of_ble_eq_true rfl⟩, hA _ wd_5_107, hA _ ws_44⟩ ⟨bl, recv_X9 hE hG t_h0, fun U hU9 hW9 => ⟨rfl, by rw [hU9]; exact hG, hE.go hS hU9 hW9⟩⟩ rfl rfl hl.1 rfl (lv_room (Nat.le_of_ble_eq_true rfl)) dX9_readStatement_273 ⟨Nat.zero_le _, Nat.zero_le _⟩) hS (fun x752 u750 H locs w751 hG hS => ?_)
                  obtain ⟨hf754, w751, hq753⟩ := w751
                  have hM755 : pz_m u750 = (pz_N T N9 0 9999 (pz_N T N9 (pz_N T N9 0 52 (pz_nx T N9 (pz_m g))).2 52 (pz_N T N9 0 52 (pz_nx T N9 (pz_m g))).1).1).1 ∧ x752.toInt = (pz_N T N9 0 9999 (pz_N T N9 (pz_N T N9 0 52 (pz_nx T N9 (pz_m g))).2 52 (pz_N T N9 0 52 (pz_nx T N9 (pz_m g))).1).1).2 := by have h9 := hq753; rw [show x738.toInt = 0 by omega, show x740.toInt = 9999 by omega] at h9; rw [← hM742]; exact h9
                  have hN756 := hM755.2
                  replace hM755 := hM755.1
                  refine ast_mI hx hb hE hG hS hU 25 rfl (n := 120) rfl (lo := -2147483648) (hi := 2147483647) rfl rfl rfl t_b732 (rgD _) (by omega) dX9_readStatement_276 (fun H locs hG hS => ?_)
                  rw [show x735.toInt.toNat = (4 * (g 124 0).toNat + 3) by omega] at hG
                  have e757 : (gs u750 125 (4 * (g 124 0).toNat + 3) x752.toInt) 119 0 = u750 119 0 := by simp [gs]
                  have e758 : (gs u750 125 (4 * (g 124 0).toNat + 3) x752.toInt) 117 0 = u750 117 0 := by simp [gs]
                  have e759 : (gs u750 125 (4 * (g 124 0).toNat + 3) x752.toInt) 115 0 = u750 115 0 := by simp [gs]
                  have e760 : (gs u750 125 (4 * (g 124 0).toNat + 3) x752.toInt) 116 0 = u750 116 0 := by simp [gs]
                  have hk761 : u750 124 0 = (gs u724 125 (4 * (g 124 0).toNat + 2) x726.toInt) 124 0 := hf754 124 0 (by decide) (by decide) (by decide) (by decide) (by decide) (by decide)
                  replace hk761 : u750 124 0 = u724 124 0 := by rw [hk761, gs_c _ _ _ _ (by decide)]
                  have hk762 : u724 124 0 = (gs u688 125 (4 * (g 124 0).toNat + 1) x690.toInt) 124 0 := hf728 124 0 (by decide) (by decide) (by decide) (by decide) (by decide) (by decide)
                  replace hk762 : u724 124 0 = u688 124 0 := by rw [hk762, gs_c _ _ _ _ (by decide)]
                  have hk763 : u688 124 0 = u667 124 0 := hf692 124 0 (by decide) (by decide) (by decide) (by decide) (by decide) (by decide)
                  have hk764 : u667 124 0 = (gs (gs g 124 0 x658.toInt) 125 (4 * (g 124 0).toNat) x630.toInt) 124 0 := hf670 124 0 (by decide) (by decide) (by decide) (by decide)
                  replace hk764 : u667 124 0 = x658.toInt := by rw [hk764, gs_c _ _ _ _ (by decide), gs_self]
                  have e765 : (gs u750 125 (4 * (g 124 0).toNat + 3) x752.toInt) 124 0 = u750 124 0 := by simp [gs]
                  have hM766 : pz_m ((gs u750 125 (4 * (g 124 0).toNat + 3) x752.toInt)) = (pz_N T N9 0 9999 (pz_N T N9 (pz_N T N9 0 52 (pz_nx T N9 (pz_m g))).2 52 (pz_N T N9 0 52 (pz_nx T N9 (pz_m g))).1).1).1 := (pz_m_cg (by rw [gs_c _ _ _ _ (by decide)]) (by rw [gs_c _ _ _ _ (by decide)]) (by rw [gs_c _ _ _ _ (by decide)]) (by rw [gs_c _ _ _ _ (by decide)]) (by rw [gs_c _ _ _ _ (by decide)]) (by rw [gs_c _ _ _ _ (by decide)])).trans hM755
                  refine lv_aload_n hx hb dX9_readStatement_277 rfl (lv_at hl 2 rfl) ?_
                  refine get_X9_19 hx hb hA hown hE hG t_h0 wd_4_149 dX9_readStatement_278 (fun x767 h768 => ?_)
                  replace h768 : x767.toInt = u750 119 0 := by rw [h768, gs_c _ _ _ _ (by decide)]
                  refine ty_if_ne (tgt := 297) hx hb dX9_readStatement_281 (by decide) (fun c770 => ?_) (fun c770 => ?_)
                  · skip
                    refine lv_aload_n hx hb dX9_readStatement_297 rfl (lv_at hl 2 rfl) ?_
                    refine get_X9_19 hx hb hA hown hE hG t_h0 wd_4_149 dX9_readStatement_298 (fun x771 h772 => ?_)
                    replace h772 : x771.toInt = u750 119 0 := by rw [h772, gs_c _ _ _ _ (by decide)]
                    refine ty_if_ne (tgt := 308) hx hb dX9_readStatement_301 (by decide) (fun c774 => ?_) (fun c774 => ?_)
                    · skip
                      have e775 : (gs u750 125 (4 * (g 124 0).toNat + 3) x752.toInt) 115 0 = u750 115 0 := by rw [gs_c _ _ _ _ (by decide)]
                      have e776 : (gs u750 125 (4 * (g 124 0).toNat + 3) x752.toInt) 116 0 = u750 116 0 := by rw [gs_c _ _ _ _ (by decide)]
                      have e777 : (gs u750 125 (4 * (g 124 0).toNat + 3) x752.toInt) 119 0 = u750 119 0 := by rw [gs_c _ _ _ _ (by decide)]
                      have e778 : (gs u750 125 (4 * (g 124 0).toNat + 3) x752.toInt) 124 0 = u750 124 0 := by rw [gs_c _ _ _ _ (by decide)]
                      exact W.vret hx hb hr (fun t ht hW => ⟨⟨(gs u750 125 (4 * (g 124 0).toNat + 3) x752.toInt), rfl, ⟨(fun c j h115 h116 h117 h118 h119 h120 h124 h125 => by rw [gs_c _ _ _ _ h125, hf754 c j h115 h116 h117 h118 h119 h120, gs_c _ _ _ _ h125, hf728 c j h115 h116 h117 h118 h119 h120, gs_c _ _ _ _ h125, hf692 c j h115 h116 h117 h118 h119 h120, hf670 c j h115 h116 h117 h118, gs_c _ _ _ _ h125, gs_c _ _ _ _ h124]), (by omega), (by rw [pz_st3 (x := pz_m g) (by rw [pz_k1 (hW6.trans (decide_eq_true (by omega)))]; decide) (by omega), pz_k1 (hW6.trans (decide_eq_true (by omega))), pz_R1 rfl, pz_G1 (show ((pz_N T N9 0 9999 (pz_N T N9 (pz_N T N9 0 52 (pz_nx T N9 (pz_m g))).2 52 (pz_N T N9 0 52 (pz_nx T N9 (pz_m g))).1).1).1).2.2.2.2.1 ≠ 0 by rw [← hM766]; show ((gs u750 125 (4 * (g 124 0).toNat + 3) x752.toInt)) 119 0 ≠ 0; omega)]; exact ((pz_m_cg (by rw [gs_c _ _ _ _ (by decide)]) (by rw [gs_c _ _ _ _ (by decide)]) (by rw [gs_c _ _ _ _ (by decide)]) (by rw [gs_c _ _ _ _ (by decide)]) (by rw [gs_c _ _ _ _ (by decide)]) (by rw [gs_c _ _ _ _ (by decide)])).trans hM755)), (by unfold st_m; rw [if_neg (fun q => q.elim (fun z => absurd z (by rw [pz_k1 (hW6.trans (decide_eq_true (by omega)))]; decide)) (fun z => absurd z (by omega))), pz_k1 (hW6.trans (decide_eq_true (by omega)))]; unfold rr_f; rw [if_pos rfl]; rw [pz_R1n rfl]; rw [pz_gs, (show u750 125 = (gs u724 125 (4 * (g 124 0).toNat + 2) x726.toInt) 125 from funext fun j => hf754 125 j (by decide) (by decide) (by decide) (by decide) (by decide) (by decide)), pz_gs, (show u724 125 = (gs u688 125 (4 * (g 124 0).toNat + 1) x690.toInt) 125 from funext fun j => hf728 125 j (by decide) (by decide) (by decide) (by decide) (by decide) (by decide)), pz_gs, (show u688 125 = u667 125 from funext fun j => hf692 125 j (by decide) (by decide) (by decide) (by decide) (by decide) (by decide)), (show u667 125 = (gs (gs g 124 0 x658.toInt) 125 (4 * (g 124 0).toNat) x630.toInt) 125 from funext fun j => hf670 125 j (by decide) (by decide) (by decide) (by decide)), pz_gs, gs_r _ _ _ (by decide)] <;> exact pz_upc4 (by omega) (by omega) (by omega) hN694 (by omega) hN730 (by omega) hN756)⟩, ok1 ht hG⟩, hS.F ht⟩) hS.2.2 dX9_readStatement_308
                    · exfalso; omega
                  · skip
                    refine lv_aload_n hx hb dX9_readStatement_284 rfl (lv_at hl 2 rfl) ?_
                    refine get_X9_17 hx hb hA hown hE hG t_h0 wd_4_147 dX9_readStatement_285 (fun x779 h780 => ?_)
                    replace h780 : x779.toInt = u750 117 0 := by rw [h780, gs_c _ _ _ _ (by decide)]
                    refine ty_iconst hx hb (4) dX9_readStatement_288 (by decide) (fun x782 h783 => ?_)
                    refine ty_icmp_eq (tgt := 297) hx hb dX9_readStatement_289 (by decide) (fun c784 => ?_) (fun c784 => ?_)
                    · skip
                      refine lv_aload_n hx hb dX9_readStatement_297 rfl (lv_at hl 2 rfl) ?_
                      refine get_X9_19 hx hb hA hown hE hG t_h0 wd_4_149 dX9_readStatement_298 (fun x785 h786 => ?_)
                      replace h786 : x785.toInt = u750 119 0 := by rw [h786, gs_c _ _ _ _ (by decide)]
                      refine ty_if_ne (tgt := 308) hx hb dX9_readStatement_301 (by decide) (fun c788 => ?_) (fun c788 => ?_)
                      · exfalso; omega
                      · skip
                        refine lv_aload_n hx hb dX9_readStatement_304 rfl (lv_at hl 2 rfl) ?_
                        have hM789 : pz_m (gs u750 125 (4 * (g 124 0).toNat + 3) x752.toInt) = (pz_N T N9 0 9999 (pz_N T N9 (pz_N T N9 0 52 (pz_nx T N9 (pz_m g))).2 52 (pz_N T N9 0 52 (pz_nx T N9 (pz_m g))).1).1).1 := (pz_m_cg (by rw [gs_c _ _ _ _ (by decide)]) (by rw [gs_c _ _ _ _ (by decide)]) (by rw [gs_c _ _ _ _ (by decide)]) (by rw [gs_c _ _ _ _ (by decide)]) (by rw [gs_c _ _ _ _ (by decide)]) (by rw [gs_c _ _ _ _ (by decide)])).trans hM755
                        have hk790 : u750 114 0 = (gs u724 125 (4 * (g 124 0).toNat + 2) x726.toInt) 114 0 := hf754 114 0 (by decide) (by decide) (by decide) (by decide) (by decide) (by decide)
                        replace hk790 : u750 114 0 = u724 114 0 := by rw [hk790, gs_c _ _ _ _ (by decide)]
                        have e791 : (gs u750 125 (4 * (g 124 0).toNat + 3) x752.toInt) 114 0 = u750 114 0 := by rw [gs_c _ _ _ _ (by decide)]
                        have e792 : (gs u750 125 (4 * (g 124 0).toNat + 3) x752.toInt) 115 0 = u750 115 0 := by rw [gs_c _ _ _ _ (by decide)]
                        have e793 : (gs u750 125 (4 * (g 124 0).toNat + 3) x752.toInt) 114 0 = u750 114 0 := by rw [gs_c _ _ _ _ (by decide)]
                        have e794 : (gs u750 125 (4 * (g 124 0).toNat + 3) x752.toInt) 114 0 = u750 114 0 := by rw [gs_c _ _ _ _ (by decide)]
                        refine cV (va_runV (C := RX9) (As := []) (rest := []) ⟨hx, hb, hml, hown, hA⟩ (k_X9_next l dC dI dA sz X Γ hU (gs u750 125 (4 * (g 124 0).toNat + 3) x752.toInt) h0 t_h0 T N9  (by omega) ((funext fun j => show (gs u750 125 (4 * (g 124 0).toNat + 3) x752.toInt) 113 j % 256 = g 113 j % 256 by rw [gs_c _ _ _ _ (by decide), hf754 113 j (by decide) (by decide) (by decide) (by decide) (by decide) (by decide), gs_c _ _ _ _ (by decide), hf728 113 j (by decide) (by decide) (by decide) (by decide) (by decide) (by decide), gs_c _ _ _ _ (by decide), hf692 113 j (by decide) (by decide) (by decide) (by decide) (by decide) (by decide), hf670 113 j (by decide) (by decide) (by decide) (by decide), gs_c _ _ _ _ (by decide), gs_c _ _ _ _ (by decide)]).trans hT) (by omega)) ⟨callB_of 0 hA (al_A wd_5_74) rfl rfl rfl (hA _ wd_1_7) (hA _ wd_5_71) (by decide +kernel) ⟨Nat.le_of_ble_eq_true rfl, Nat.le_of_ble_eq_true rfl⟩, hA _ wd_5_73, hA _ ws_39⟩ ⟨bl, recv_X9 hE hG t_h0, fun U hU9 hW9 => ⟨rfl, by rw [hU9]; exact hG, hE.go hS hU9 hW9⟩⟩ rfl rfl hl.1 rfl (lv_room (Nat.le_of_ble_eq_true rfl)) dX9_readStatement_305 ⟨Nat.zero_le _, Nat.zero_le _⟩) hS (fun u795 H locs w796 hG hS => ?_)
                        obtain ⟨hf798, w796, hq797⟩ := w796
                        have hM799 : pz_m u795 = (pz_nx T N9 (pz_N T N9 0 9999 (pz_N T N9 (pz_N T N9 0 52 (pz_nx T N9 (pz_m g))).2 52 (pz_N T N9 0 52 (pz_nx T N9 (pz_m g))).1).1).1) := hq797.trans (congrArg (pz_nx T N9) hM789)
                        have hk800 : u795 119 0 = (gs u750 125 (4 * (g 124 0).toNat + 3) x752.toInt) 119 0 := hf798 119 0 (by decide) (by decide) (by decide) (by decide)
                        replace hk800 : u795 119 0 = u750 119 0 := by rw [hk800, gs_c _ _ _ _ (by decide)]
                        have hk801 : u795 124 0 = (gs u750 125 (4 * (g 124 0).toNat + 3) x752.toInt) 124 0 := hf798 124 0 (by decide) (by decide) (by decide) (by decide)
                        replace hk801 : u795 124 0 = u750 124 0 := by rw [hk801, gs_c _ _ _ _ (by decide)]
                        exact W.vret hx hb hr (fun t ht hW => ⟨⟨u795, rfl, ⟨(fun c j h115 h116 h117 h118 h119 h120 h124 h125 => by rw [hf798 c j h115 h116 h117 h118, gs_c _ _ _ _ h125, hf754 c j h115 h116 h117 h118 h119 h120, gs_c _ _ _ _ h125, hf728 c j h115 h116 h117 h118 h119 h120, gs_c _ _ _ _ h125, hf692 c j h115 h116 h117 h118 h119 h120, hf670 c j h115 h116 h117 h118, gs_c _ _ _ _ h125, gs_c _ _ _ _ h124]), (by omega), (by rw [pz_st3 (x := pz_m g) (by rw [pz_k1 (hW6.trans (decide_eq_true (by omega)))]; decide) (by omega), pz_k1 (hW6.trans (decide_eq_true (by omega))), pz_R1 rfl, pz_G3 (show ((pz_N T N9 0 9999 (pz_N T N9 (pz_N T N9 0 52 (pz_nx T N9 (pz_m g))).2 52 (pz_N T N9 0 52 (pz_nx T N9 (pz_m g))).1).1).1).2.2.2.2.1 = 0 by rw [← hM766]; show ((gs u750 125 (4 * (g 124 0).toNat + 3) x752.toInt)) 119 0 = 0; omega) (show ((pz_N T N9 0 9999 (pz_N T N9 (pz_N T N9 0 52 (pz_nx T N9 (pz_m g))).2 52 (pz_N T N9 0 52 (pz_nx T N9 (pz_m g))).1).1).1).2.2.1 = 3 by rw [← hM766]; show pz_s (((gs u750 125 (4 * (g 124 0).toNat + 3) x752.toInt)) 117 0) = 3; exact pz_s3.mpr (by omega))]; exact hM799), (by unfold st_m; rw [if_neg (fun q => q.elim (fun z => absurd z (by rw [pz_k1 (hW6.trans (decide_eq_true (by omega)))]; decide)) (fun z => absurd z (by omega))), pz_k1 (hW6.trans (decide_eq_true (by omega)))]; unfold rr_f; rw [if_pos rfl]; rw [pz_R1n rfl]; rw [(show u795 125 = (gs u750 125 (4 * (g 124 0).toNat + 3) x752.toInt) 125 from funext fun j => hf798 125 j (by decide) (by decide) (by decide) (by decide)), pz_gs, (show u750 125 = (gs u724 125 (4 * (g 124 0).toNat + 2) x726.toInt) 125 from funext fun j => hf754 125 j (by decide) (by decide) (by decide) (by decide) (by decide) (by decide)), pz_gs, (show u724 125 = (gs u688 125 (4 * (g 124 0).toNat + 1) x690.toInt) 125 from funext fun j => hf728 125 j (by decide) (by decide) (by decide) (by decide) (by decide) (by decide)), pz_gs, (show u688 125 = u667 125 from funext fun j => hf692 125 j (by decide) (by decide) (by decide) (by decide) (by decide) (by decide)), (show u667 125 = (gs (gs g 124 0 x658.toInt) 125 (4 * (g 124 0).toNat) x630.toInt) 125 from funext fun j => hf670 125 j (by decide) (by decide) (by decide) (by decide)), pz_gs, gs_r _ _ _ (by decide)] <;> exact pz_upc4 (by omega) (by omega) (by omega) hN694 (by omega) hN730 (by omega) hN756)⟩, ok1 ht hG⟩, hS.F ht⟩) hS.2.2 dX9_readStatement_308
                    · skip
                      refine lv_aload_n hx hb dX9_readStatement_292 rfl (lv_at hl 2 rfl) ?_
                      refine ty_iconst hx hb (1) dX9_readStatement_293 (by decide) (fun x802 h803 => ?_)
                      have e804 : (gs u750 125 (4 * (g 124 0).toNat + 3) x752.toInt) 119 0 = u750 119 0 := by simp [gs]
                      have hM805 : pz_m (gs u750 125 (4 * (g 124 0).toNat + 3) x752.toInt) = (pz_N T N9 0 9999 (pz_N T N9 (pz_N T N9 0 52 (pz_nx T N9 (pz_m g))).2 52 (pz_N T N9 0 52 (pz_nx T N9 (pz_m g))).1).1).1 := (pz_m_cg (by rw [gs_c _ _ _ _ (by decide)]) (by rw [gs_c _ _ _ _ (by decide)]) (by rw [gs_c _ _ _ _ (by decide)]) (by rw [gs_c _ _ _ _ (by decide)]) (by rw [gs_c _ _ _ _ (by decide)]) (by rw [gs_c _ _ _ _ (by decide)])).trans hM755
                      have e806 : (gs u750 125 (4 * (g 124 0).toNat + 3) x752.toInt) 119 0 = u750 119 0 := by rw [gs_c _ _ _ _ (by decide)]
                      have e807 : (gs u750 125 (4 * (g 124 0).toNat + 3) x752.toInt) 119 0 = u750 119 0 := by rw [gs_c _ _ _ _ (by decide)]
                      refine cV (va_runV (C := RX9) (As := [.int x802]) (rest := []) ⟨hx, hb, hml, hown, hA⟩ (k_X9_fails l dC dI dA sz X Γ hU (gs u750 125 (4 * (g 124 0).toNat + 3) x752.toInt) h0 t_h0 x802   (by omega)) ⟨callB_of 1 hA (al_A wd_5_102) rfl rfl rfl (hA _ wd_1_7) (hA _ wd_5_99) (by decide +kernel) ⟨Nat.le_of_ble_eq_true rfl, Nat.le_of_ble_eq_true rfl⟩, hA _ wd_5_101, hA _ ws_43⟩ ⟨bl, recv_X9 hE hG t_h0, fun U hU9 hW9 => ⟨rfl, by rw [hU9]; exact hG, hE.go hS hU9 hW9⟩⟩ rfl rfl hl.1 rfl (lv_room (Nat.le_of_ble_eq_true rfl)) dX9_readStatement_294 ⟨Nat.zero_le _, Nat.zero_le _⟩) hS (fun u808 H locs w809 hG hS => ?_)
                      obtain ⟨hf811, w809, hq810⟩ := w809
                      have hM812 : pz_m u808 = pz_bl 1 (pz_N T N9 0 9999 (pz_N T N9 (pz_N T N9 0 52 (pz_nx T N9 (pz_m g))).2 52 (pz_N T N9 0 52 (pz_nx T N9 (pz_m g))).1).1).1 := by have h9 := hq810.1 (by omega); rw [show x802.toInt = 1 by omega] at h9; exact h9.trans (congrArg (pz_bl 1) hM805)
                      refine lv_aload_n hx hb dX9_readStatement_297 rfl (lv_at hl 2 rfl) ?_
                      refine get_X9_19 hx hb hA hown hE hG t_h0 wd_4_149 dX9_readStatement_298 (fun x813 h814 => ?_)
                      refine ty_if_ne (tgt := 308) hx hb dX9_readStatement_301 (by decide) (fun c816 => ?_) (fun c816 => ?_)
                      · skip
                        have hk817 : u808 115 0 = (gs u750 125 (4 * (g 124 0).toNat + 3) x752.toInt) 115 0 := hf811 115 0 (by decide) (by decide)
                        replace hk817 : u808 115 0 = u750 115 0 := by rw [hk817, gs_c _ _ _ _ (by decide)]
                        have hk818 : u808 116 0 = (gs u750 125 (4 * (g 124 0).toNat + 3) x752.toInt) 116 0 := hf811 116 0 (by decide) (by decide)
                        replace hk818 : u808 116 0 = u750 116 0 := by rw [hk818, gs_c _ _ _ _ (by decide)]
                        have hk819 : u808 124 0 = (gs u750 125 (4 * (g 124 0).toNat + 3) x752.toInt) 124 0 := hf811 124 0 (by decide) (by decide)
                        replace hk819 : u808 124 0 = u750 124 0 := by rw [hk819, gs_c _ _ _ _ (by decide)]
                        exact W.vret hx hb hr (fun t ht hW => ⟨⟨u808, rfl, ⟨(fun c j h115 h116 h117 h118 h119 h120 h124 h125 => by rw [hf811 c j h119 h120, gs_c _ _ _ _ h125, hf754 c j h115 h116 h117 h118 h119 h120, gs_c _ _ _ _ h125, hf728 c j h115 h116 h117 h118 h119 h120, gs_c _ _ _ _ h125, hf692 c j h115 h116 h117 h118 h119 h120, hf670 c j h115 h116 h117 h118, gs_c _ _ _ _ h125, gs_c _ _ _ _ h124]), (by omega), (by rw [pz_st3 (x := pz_m g) (by rw [pz_k1 (hW6.trans (decide_eq_true (by omega)))]; decide) (by omega), pz_k1 (hW6.trans (decide_eq_true (by omega))), pz_R1 rfl, pz_G2 (show ((pz_N T N9 0 9999 (pz_N T N9 (pz_N T N9 0 52 (pz_nx T N9 (pz_m g))).2 52 (pz_N T N9 0 52 (pz_nx T N9 (pz_m g))).1).1).1).2.2.2.2.1 = 0 by rw [← hM766]; show ((gs u750 125 (4 * (g 124 0).toNat + 3) x752.toInt)) 119 0 = 0; omega) (show ((pz_N T N9 0 9999 (pz_N T N9 (pz_N T N9 0 52 (pz_nx T N9 (pz_m g))).2 52 (pz_N T N9 0 52 (pz_nx T N9 (pz_m g))).1).1).1).2.2.1 ≠ 3 by rw [← hM766]; show pz_s (((gs u750 125 (4 * (g 124 0).toNat + 3) x752.toInt)) 117 0) ≠ 3; exact fun q => absurd (pz_s3.mp q) (by omega))]; exact hM812), (by unfold st_m; rw [if_neg (fun q => q.elim (fun z => absurd z (by rw [pz_k1 (hW6.trans (decide_eq_true (by omega)))]; decide)) (fun z => absurd z (by omega))), pz_k1 (hW6.trans (decide_eq_true (by omega)))]; unfold rr_f; rw [if_pos rfl]; rw [pz_R1n rfl]; rw [(show u808 125 = (gs u750 125 (4 * (g 124 0).toNat + 3) x752.toInt) 125 from funext fun j => hf811 125 j (by decide) (by decide)), pz_gs, (show u750 125 = (gs u724 125 (4 * (g 124 0).toNat + 2) x726.toInt) 125 from funext fun j => hf754 125 j (by decide) (by decide) (by decide) (by decide) (by decide) (by decide)), pz_gs, (show u724 125 = (gs u688 125 (4 * (g 124 0).toNat + 1) x690.toInt) 125 from funext fun j => hf728 125 j (by decide) (by decide) (by decide) (by decide) (by decide) (by decide)), pz_gs, (show u688 125 = u667 125 from funext fun j => hf692 125 j (by decide) (by decide) (by decide) (by decide) (by decide) (by decide)), (show u667 125 = (gs (gs g 124 0 x658.toInt) 125 (4 * (g 124 0).toNat) x630.toInt) 125 from funext fun j => hf670 125 j (by decide) (by decide) (by decide) (by decide)), pz_gs, gs_r _ _ _ (by decide)] <;> exact pz_upc4 (by omega) (by omega) (by omega) hN694 (by omega) hN730 (by omega) hN756)⟩, ok1 ht hG⟩, hS.F ht⟩) hS.2.2 dX9_readStatement_308
                      · exfalso; omega
          · exfalso; omega
        · exfalso; omega
      · skip
        refine lv_aload_n hx hb dX9_readStatement_76 rfl (lv_at hl 1 rfl) ?_
        refine ty_iconst hx hb (3) dX9_readStatement_77 (by decide) (fun x820 h821 => ?_)
        refine cV (va_runV (C := RX9) (As := [.int x820]) (rest := []) ⟨hx, hb, hml, hown, hA⟩ (k_X9_fails l dC dI dA sz X Γ hU g h0 t_h0 x820   (by omega)) ⟨callB_of 1 hA (al_A wd_5_102) rfl rfl rfl (hA _ wd_1_7) (hA _ wd_5_99) (by decide +kernel) ⟨Nat.le_of_ble_eq_true rfl, Nat.le_of_ble_eq_true rfl⟩, hA _ wd_5_101, hA _ ws_43⟩ ⟨bl, recv_X9 hE hG t_h0, fun U hU9 hW9 => ⟨rfl, by rw [hU9]; exact hG, hE.go hS hU9 hW9⟩⟩ rfl rfl hl.1 rfl (lv_room (Nat.le_of_ble_eq_true rfl)) dX9_readStatement_78 ⟨Nat.zero_le _, Nat.zero_le _⟩) hS (fun u822 H locs w823 hG hS => ?_)
        obtain ⟨hf825, w823, hq824⟩ := w823
        have hM826 : pz_m u822 = pz_bl 3 (pz_m g) := by have h9 := hq824.1 (by omega); rw [show x820.toInt = 3 by omega] at h9; exact h9.trans (congrArg (pz_bl 3) rfl)
        refine lv_aload_n hx hb dX9_readStatement_81 rfl (lv_at hl 1 rfl) ?_
        refine get_X9_19 hx hb hA hown hE hG t_h0 wd_4_149 dX9_readStatement_82 (fun x827 h828 => ?_)
        refine ty_if_eq (tgt := 89) hx hb dX9_readStatement_85 (by decide) (fun c830 => ?_) (fun c830 => ?_)
        · exfalso; omega
        · skip
          have hk831 : u822 115 0 = g 115 0 := hf825 115 0 (by decide) (by decide)
          have hk832 : u822 116 0 = g 116 0 := hf825 116 0 (by decide) (by decide)
          have hk833 : u822 124 0 = g 124 0 := hf825 124 0 (by decide) (by decide)
          exact W.vret hx hb hr (fun t ht hW => ⟨⟨u822, rfl, ⟨(fun c j h115 h116 h117 h118 h119 h120 h124 h125 => by rw [hf825 c j h119 h120]), (by omega), (by rw [pz_st2 (x := pz_m g) (by rw [pz_k1 (hW6.trans (decide_eq_true (by omega)))]; decide) (by omega)]; exact hM826), (by unfold st_m; rw [if_pos (Or.inr (by omega))]; rw [(show u822 125 = g 125 from funext fun j => hf825 125 j (by decide) (by decide))])⟩, ok1 ht hG⟩, hS.F ht⟩) hS.2.2 dX9_readStatement_88
    · exfalso; omega
