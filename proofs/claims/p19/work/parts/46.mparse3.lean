set_option maxHeartbeats 4000000 in
set_option maxRecDepth 100000 in
/-- WeekBankModel.rules:  -/
theorem k_X9_rules (l : Launch) (dC : Nat → ClassId) (dI : Nat → Nat → Nat) (dA : Nat → ClassId) (sz : Nat) (X : va_W) (Γ : ty_G) (hU : Un Γ) (g : gh) (h0 : Nat) (t_h0 : ty Γ h0 30) (hp : 0 ≤ g 114 0 ∧ g 114 0 ≤ 300) : Met l yX9_rules (.code yX9_rules cX9_rules 2 (Option.some Jvm.ClassFile.FieldType.int) :: AL) ({ frames := 6, cells := 0, slots := 0, locals := 129 }) (PCx dC dI dA sz X Γ g [.ref h0]) (va_Qi (fun (r : Int32) (u : gh) => (∀ c j : Nat, c ≠ 100 → c ≠ 114 → c ≠ 115 → c ≠ 116 → c ≠ 117 → c ≠ 118 → c ≠ 119 → c ≠ 120 → c ≠ 121 → c ≠ 122 → c ≠ 123 → c ≠ 124 → c ≠ 125 → u c j = g c j) ∧ ((u 114 0 = 0) ∧ ((u 122 0 = g 122 0) ∨ (0 ≤ u 122 0 ∧ u 122 0 ≤ 30)))) (okb dC dI dA sz X Γ) (ty_A sz)) 0 0 (ty_A sz) := by
  refine Met.ofW (cc := cX9_rules) (maxL := 2) (ret := (Option.some Jvm.ClassFile.FieldType.int)) (by decide) rfl ?_
  intro p e s m args below meth c s₁ B hml hv
  obtain ⟨rfl, hG, hE⟩ := hv
  have hx := B.exec
  have hb := B.bytes
  have hr := B.returns
  have hts := atoms_spec B.pre
  have hA : ∀ w ∈ AL, w.before _ s = true := fun w h => hts w (List.mem_cons_of_mem _ h)
  have hown : s.vm.findClass RX9 = some m.cls := findClass_of_methodNamed B.named
  have hlocks := B.notSynchronized
  have hS : va_S (ty_A sz) s.heap s.heap [] := va_S.rf
  have hl := lv_entry ([.ref h0]) (n := 2) (Nat.le_of_ble_eq_true rfl)
  rw [lg_entry_eq]
  generalize (lg_sl ([.ref h0]) ++ List.replicate (2 - (lg_sl ([.ref h0])).length) Slot.unset).toArray = ls at hl ⊢
  have hl : lv_has ls 2 [(0, .ref h0)] := hl
  refine lv_aload_n hx hb dX9_rules_0 rfl (lv_at hl 0 rfl) ?_
  refine ty_iconst hx hb (0) dX9_rules_1 (by decide) (fun x1 h2 => ?_)
  refine put_X9_0 hx hb hA hown hE hG hS hU t_h0 wd_4_130 dX9_rules_2 (fun H locs hG hS => ?_)
  refine lv_aload_n hx hb dX9_rules_5 rfl (lv_at hl 0 rfl) ?_
  refine ty_iconst hx hb (0) dX9_rules_6 (by decide) (fun x3 h4 => ?_)
  refine put_X9_19 hx hb hA hown hE hG hS hU t_h0 wd_4_149 dX9_rules_7 (fun H locs hG hS => ?_)
  refine lv_aload_n hx hb dX9_rules_10 rfl (lv_at hl 0 rfl) ?_
  refine ty_iconst hx hb (0) dX9_rules_11 (by decide) (fun x5 h6 => ?_)
  refine put_X9_15 hx hb hA hown hE hG hS hU t_h0 wd_4_145 dX9_rules_12 (fun H locs hG hS => ?_)
  generalize eg8 : (gs (gs (gs g 100 0 x1.toInt) 119 0 x3.toInt) 115 0 x5.toInt) = g7 at hG
  have hf9 : ∀ c j : Nat, c ≠ 100 → c ≠ 119 → c ≠ 115 → g7 c j = g c j := fun c j h100 h119 h115 => by rw [← eg8, gs_c _ _ _ _ h115, gs_c _ _ _ _ h119, gs_c _ _ _ _ h100]
  have v10 : g7 100 0 = x1.toInt := by rw [← eg8, gs_c _ _ _ _ (by decide), gs_c _ _ _ _ (by decide), gs_self]
  have v11 : g7 119 0 = x3.toInt := by rw [← eg8, gs_c _ _ _ _ (by decide), gs_self]
  have v12 : g7 115 0 = x5.toInt := by rw [← eg8, gs_self]
  refine lv_aload_n hx hb dX9_rules_15 rfl (lv_at hl 0 rfl) ?_
  refine ty_iconst hx hb (0) dX9_rules_16 (by decide) (fun x13 h14 => ?_)
  refine put_X9_24 hx hb hA hown hE hG hS hU t_h0 wd_4_154 dX9_rules_17 (fun H locs hG hS => ?_)
  refine lv_aload_n hx hb dX9_rules_20 rfl (lv_at hl 0 rfl) ?_
  have hk15 : g7 114 0 = g 114 0 := hf9 114 0 (by decide) (by decide) (by decide)
  have e16 : (gs g7 124 0 x13.toInt) 114 0 = g7 114 0 := by simp [gs]
  have e17 : (gs g7 124 0 x13.toInt) 115 0 = g7 115 0 := by simp [gs]
  have e18 : (gs g7 124 0 x13.toInt) 114 0 = g7 114 0 := by simp [gs]
  refine cV (va_runV (C := RX9) (As := []) (rest := []) ⟨hx, hb, hml, hown, hA⟩ (k_X9_next l dC dI dA sz X Γ hU (gs g7 124 0 x13.toInt) h0 t_h0   (by omega)) ⟨callB_of 0 hA (al_A wd_5_74) rfl rfl rfl (hA _ wd_1_7) (hA _ wd_5_71) (by decide +kernel) ⟨Nat.le_of_ble_eq_true rfl, Nat.le_of_ble_eq_true rfl⟩, hA _ wd_5_73, hA _ ws_39⟩ ⟨bl, recv_X9 hE hG t_h0, fun U hU9 hW9 => ⟨rfl, by rw [hU9]; exact hG, hE.go hS hU9 hW9⟩⟩ rfl rfl hl.1 rfl (lv_room (Nat.le_of_ble_eq_true rfl)) dX9_rules_21 ⟨Nat.zero_le _, Nat.zero_le _⟩) hS (fun u19 H locs w20 hG hS => ?_)
  obtain ⟨hf21, w20⟩ := w20
  have L_24 : ∀ (n : Nat)  (g22 : gh) (H : Heap) (locs : List Loc) (ls : Array Slot), (34 - g22 124 0 - g22 119 0 : Int) < n → 0 ≤ g22 116 0 ∧ g22 116 0 ≤ g22 115 0 ∧ g22 115 0 ≤ g22 114 0 ∧ g22 114 0 ≤ 300 → 0 ≤ g22 119 0 ∧ g22 119 0 ≤ 3 ∧ 0 ≤ g22 124 0 ∧ g22 124 0 ≤ 30 → (∀ c j : Nat, c ≠ 115 → c ≠ 116 → c ≠ 117 → c ≠ 118 → c ≠ 119 → c ≠ 120 → c ≠ 124 → c ≠ 125 → g22 c j = u19 c j) → ty_ok (dC, dI) vwCl Γ (TP dA Γ g22) sz X H → va_S (ty_A sz) s.heap H locs → lv_has ls 2 [(0, .ref h0)] → W p l e (headSpec (.code yX9_rules cX9_rules 2 (Option.some Jvm.ClassFile.FieldType.int) :: AL) ({ frames := 6, cells := 0, slots := 0, locals := 129 })).room s m ([.ref h0] : List Value).toArray below meth c H locs 0 0 (MQ below (va_Qi (fun (r : Int32) (u : gh) => (∀ c j : Nat, c ≠ 100 → c ≠ 114 → c ≠ 115 → c ≠ 116 → c ≠ 117 → c ≠ 118 → c ≠ 119 → c ≠ 120 → c ≠ 121 → c ≠ 122 → c ≠ 123 → c ≠ 124 → c ≠ 125 → u c j = g c j) ∧ ((u 114 0 = 0) ∧ ((u 122 0 = g 122 0) ∨ (0 ≤ u 122 0 ∧ u 122 0 ≤ 30)))) (okb dC dI dA sz X Γ) (ty_A sz)) ([.ref h0] : List Value).toArray s 0 0 (ty_A sz)) (F0 m 24 ls []) := by
    intro n
    induction n with
    | zero => intro g22 H locs ls hm hi0 hi1 hf23 hG hS hl; exfalso; omega
    | succ n ih_24 =>
      intro g22 H locs ls hm hi0 hi1 hf23 hG hS hl
      have hk24 : g22 114 0 = u19 114 0 := hf23 114 0 (by decide) (by decide) (by decide) (by decide) (by decide) (by decide) (by decide) (by decide)
      have hk25 : u19 114 0 = (gs g7 124 0 x13.toInt) 114 0 := hf21 114 0 (by decide) (by decide) (by decide) (by decide)
      have hk25 : u19 114 0 = g7 114 0 := by rw [hk25]; simp [gs]
      refine lv_aload_n hx hb dX9_rules_24 rfl (lv_at hl 0 rfl) ?_
      refine get_X9_19 hx hb hA hown hE hG t_h0 wd_4_149 dX9_rules_25 (fun x26 h27 => ?_)
      refine ty_if_ne (tgt := 45) hx hb dX9_rules_28 (by decide) (fun c29 => ?_) (fun c29 => ?_)
      · skip
        refine lv_aload_n hx hb dX9_rules_45 rfl (lv_at hl 0 rfl) ?_
        refine ty_iconst hx hb (0) dX9_rules_46 (by decide) (fun x30 h31 => ?_)
        refine put_X9_14 hx hb hA hown hE hG hS hU t_h0 wd_4_144 dX9_rules_47 (fun H locs hG hS => ?_)
        refine lv_aload_n hx hb dX9_rules_50 rfl (lv_at hl 0 rfl) ?_
        refine lv_aload_n hx hb dX9_rules_51 rfl (lv_at hl 0 rfl) ?_
        refine get_X9_19 hx hb hA hown hE hG t_h0 wd_4_149 dX9_rules_52 (fun x32 h33 => ?_)
        replace h33 : x32.toInt = g22 119 0 := by rw [h33]; simp [gs]
        refine ty_if_ne (tgt := 62) hx hb dX9_rules_55 (by decide) (fun c35 => ?_) (fun c35 => ?_)
        · skip
          refine lv_aload_n hx hb dX9_rules_62 rfl (lv_at hl 0 rfl) ?_
          refine get_X9_20 hx hb hA hown hE hG t_h0 wd_4_150 dX9_rules_63 (fun x36 h37 => ?_)
          replace h37 : x36.toInt = g22 120 0 := by rw [h37]; simp [gs]
          refine put_X9_21 hx hb hA hown hE hG hS hU t_h0 wd_4_151 dX9_rules_66 (fun H locs hG hS => ?_)
          refine lv_aload_n hx hb dX9_rules_69 rfl (lv_at hl 0 rfl) ?_
          refine get_X9_19 hx hb hA hown hE hG t_h0 wd_4_149 dX9_rules_70 (fun x39 h40 => ?_)
          replace h40 : x39.toInt = g22 119 0 := by rw [h40]; simp [gs]
          refine ty_if_eq (tgt := 83) hx hb dX9_rules_73 (by decide) (fun c42 => ?_) (fun c42 => ?_)
          · skip
            refine lv_aload_n hx hb dX9_rules_83 rfl (lv_at hl 0 rfl) ?_
            refine lv_aload_n hx hb dX9_rules_84 rfl (lv_at hl 0 rfl) ?_
            refine get_X9_24 hx hb hA hown hE hG t_h0 wd_4_154 dX9_rules_85 (fun x43 h44 => ?_)
            replace h44 : x43.toInt = g22 124 0 := by rw [h44]; simp [gs]
            refine put_X9_22 hx hb hA hown hE hG hS hU t_h0 wd_4_152 dX9_rules_88 (fun H locs hG hS => ?_)
            generalize eg47 : (gs (gs (gs g22 114 0 x30.toInt) 121 0 x36.toInt) 122 0 x43.toInt) = g46 at hG
            have hf48 : ∀ c j : Nat, c ≠ 114 → c ≠ 121 → c ≠ 122 → g46 c j = g22 c j := fun c j h114 h121 h122 => by rw [← eg47, gs_c _ _ _ _ h122, gs_c _ _ _ _ h121, gs_c _ _ _ _ h114]
            have v49 : g46 114 0 = x30.toInt := by rw [← eg47, gs_c _ _ _ _ (by decide), gs_c _ _ _ _ (by decide), gs_self]
            have v50 : g46 121 0 = x36.toInt := by rw [← eg47, gs_c _ _ _ _ (by decide), gs_self]
            have v51 : g46 122 0 = x43.toInt := by rw [← eg47, gs_self]
            refine ty_iconst hx hb (0) dX9_rules_91 (by decide) (fun x52 h53 => ?_)
            refine lv_istore_n (lv' := [(1, .int x52), (0, .ref h0)]) hx hb dX9_rules_92 rfl hl (by decide) rfl (fun ls hl => ?_)
            have L_93 : ∀ (n : Nat) (v1_93 : Int32) (g54 : gh) (H : Heap) (locs : List Loc) (ls : Array Slot), (120 - v1_93.toInt : Int) < n → 0 ≤ v1_93.toInt ∧ v1_93.toInt ≤ 120 → (∀ c j : Nat, c ≠ 123 → g54 c j = g46 c j) → ty_ok (dC, dI) vwCl Γ (TP dA Γ g54) sz X H → va_S (ty_A sz) s.heap H locs → lv_has ls 2 [(1, .int v1_93), (0, .ref h0)] → W p l e (headSpec (.code yX9_rules cX9_rules 2 (Option.some Jvm.ClassFile.FieldType.int) :: AL) ({ frames := 6, cells := 0, slots := 0, locals := 129 })).room s m ([.ref h0] : List Value).toArray below meth c H locs 0 0 (MQ below (va_Qi (fun (r : Int32) (u : gh) => (∀ c j : Nat, c ≠ 100 → c ≠ 114 → c ≠ 115 → c ≠ 116 → c ≠ 117 → c ≠ 118 → c ≠ 119 → c ≠ 120 → c ≠ 121 → c ≠ 122 → c ≠ 123 → c ≠ 124 → c ≠ 125 → u c j = g c j) ∧ ((u 114 0 = 0) ∧ ((u 122 0 = g 122 0) ∨ (0 ≤ u 122 0 ∧ u 122 0 ≤ 30)))) (okb dC dI dA sz X Γ) (ty_A sz)) ([.ref h0] : List Value).toArray s 0 0 (ty_A sz)) (F0 m 93 ls []) := by
              intro n
              induction n with
              | zero => intro v1_93 g54 H locs ls hm hi0 hf55 hG hS hl; exfalso; omega
              | succ n ih_93 =>
                intro v1_93 g54 H locs ls hm hi0 hf55 hG hS hl
                refine lv_iload_n hx hb dX9_rules_93 rfl (lv_at hl 0 rfl) ?_
                refine ty_bipush hx hb (120) dX9_rules_94 (by decide) (fun x56 h57 => ?_)
                refine ty_icmp_ge (tgt := 117) hx hb dX9_rules_96 (by decide) (fun c58 => ?_) (fun c58 => ?_)
                · skip
                  refine lv_aload_n hx hb dX9_rules_117 rfl (lv_at hl 1 rfl) ?_
                  refine get_X9_22 hx hb hA hown hE hG t_h0 wd_4_152 dX9_rules_118 (fun x59 h60 => ?_)
                  have hk62 : g54 122 0 = g46 122 0 := hf55 122 0 (by decide)
                  have hk63 : g54 114 0 = g46 114 0 := hf55 114 0 (by decide)
                  exact W.iret (v := x59) hx hb hr (fun t ht hW => ⟨⟨x59, g54, rfl, ⟨(fun c j h100 h114 h115 h116 h117 h118 h119 h120 h121 h122 h123 h124 h125 => by rw [hf55 c j h123, hf48 c j h114 h121 h122, hf23 c j h115 h116 h117 h118 h119 h120 h124 h125, hf21 c j h115 h116 h117 h118, gs_c _ _ _ _ h124, hf9 c j h100 h119 h115]), (by omega)⟩, ok1 ht hG⟩, hS.F ht⟩) hS.2.2 dX9_rules_121
                · skip
                  refine lv_aload_n hx hb dX9_rules_99 rfl (lv_at hl 1 rfl) ?_
                  refine get_X9_23 hx hb hA hown hE hG t_h0 wd_4_153 dX9_rules_100 (fun b64 (t_b64 : ty Γ b64 123) => ?_)
                  refine lv_iload_n hx hb dX9_rules_103 rfl (lv_at hl 0 rfl) ?_
                  refine lv_aload_n hx hb dX9_rules_104 rfl (lv_at hl 1 rfl) ?_
                  refine get_X9_25 hx hb hA hown hE hG t_h0 wd_4_155 dX9_rules_105 (fun b65 (t_b65 : ty Γ b65 125) => ?_)
                  refine lv_iload_n hx hb dX9_rules_108 rfl (lv_at hl 0 rfl) ?_
                  refine ald_mI hx hb hE hG 25 rfl (n := 120) rfl (lo := -2147483648) (hi := 2147483647) rfl rfl t_b65 (by omega) dX9_rules_109 (fun j67 x66 h68 h69 h70 => ?_)
                  clear h70
                  refine ast_mI hx hb hE hG hS hU 23 rfl (n := 120) rfl (lo := -2147483648) (hi := 2147483647) rfl rfl rfl t_b64 (rgD _) (by omega) dX9_rules_110 (fun H locs hG hS => ?_)
                  obtain ⟨x71, h72⟩ : ∃ y : Int32, y = v1_93 + Int32.ofInt (1) := ⟨_, rfl⟩
                  try have h73 : x71.toInt = v1_93.toInt + (1) := ty_inc h72 (by decide) (by omega) (by omega)
                  refine lv_iinc (v := x71) (lv' := [(1, .int x71), (0, .ref h0)]) hx hb dX9_rules_111 hl (k := 0) rfl h72.symm (by decide) rfl (fun ls hl => ?_)
                  refine lv_goto (tgt := 93) hx hb dX9_rules_114 (by decide) ?_
                  exact ih_93 x71 (gs g54 123 v1_93.toInt.toNat x66.toInt) _ _ ls (by omega) (by omega) (fun c j h123 => by rw [gs_c _ _ _ _ h123, hf55 c j h123]) hG hS (lv_sub hl [0, 1] rfl)
            exact L_93 ((120 - x52.toInt) + 1).toNat x52 g46 _ _ ls (by omega) (by omega) (fun c j _ => rfl) hG hS (lv_sub hl [0, 1] rfl)
          · skip
            refine ty_iconst hx hb (-1) dX9_rules_76 (by decide) (fun x74 h75 => ?_)
            refine lv_aload_n hx hb dX9_rules_77 rfl (lv_at hl 0 rfl) ?_
            refine get_X9_19 hx hb hA hown hE hG t_h0 wd_4_149 dX9_rules_78 (fun x76 h77 => ?_)
            replace h77 : x76.toInt = g22 119 0 := by rw [h77]; simp [gs]
            refine ty_isub hx hb dX9_rules_81 (fun x79 h80 => ?_)
            try have h81 : x79.toInt = x74.toInt - x76.toInt := ty_sub h80 (by omega) (by omega)
            have e82 : (gs (gs g22 114 0 x30.toInt) 121 0 x36.toInt) 114 0 = x30.toInt := by simp [gs]
            have hk83 : g22 122 0 = u19 122 0 := hf23 122 0 (by decide) (by decide) (by decide) (by decide) (by decide) (by decide) (by decide) (by decide)
            have hk84 : u19 122 0 = (gs g7 124 0 x13.toInt) 122 0 := hf21 122 0 (by decide) (by decide) (by decide) (by decide)
            have hk84 : u19 122 0 = g7 122 0 := by rw [hk84]; simp [gs]
            have hk85 : g7 122 0 = g 122 0 := hf9 122 0 (by decide) (by decide) (by decide)
            have e86 : (gs (gs g22 114 0 x30.toInt) 121 0 x36.toInt) 122 0 = g22 122 0 := by simp [gs]
            exact W.iret (v := x79) hx hb hr (fun t ht hW => ⟨⟨x79, (gs (gs g22 114 0 x30.toInt) 121 0 x36.toInt), rfl, ⟨(fun c j h100 h114 h115 h116 h117 h118 h119 h120 h121 h122 h123 h124 h125 => by rw [gs_c _ _ _ _ h121, gs_c _ _ _ _ h114, hf23 c j h115 h116 h117 h118 h119 h120 h124 h125, hf21 c j h115 h116 h117 h118, gs_c _ _ _ _ h124, hf9 c j h100 h119 h115]), (by omega)⟩, ok1 ht hG⟩, hS.F ht⟩) hS.2.2 dX9_rules_82
        · skip
          refine ty_iconst hx hb (-1) dX9_rules_58 (by decide) (fun x87 h88 => ?_)
          refine lv_goto (tgt := 66) hx hb dX9_rules_59 (by decide) ?_
          refine put_X9_21 hx hb hA hown hE hG hS hU t_h0 wd_4_151 dX9_rules_66 (fun H locs hG hS => ?_)
          refine lv_aload_n hx hb dX9_rules_69 rfl (lv_at hl 0 rfl) ?_
          refine get_X9_19 hx hb hA hown hE hG t_h0 wd_4_149 dX9_rules_70 (fun x89 h90 => ?_)
          replace h90 : x89.toInt = g22 119 0 := by rw [h90]; simp [gs]
          refine ty_if_eq (tgt := 83) hx hb dX9_rules_73 (by decide) (fun c92 => ?_) (fun c92 => ?_)
          · skip
            refine lv_aload_n hx hb dX9_rules_83 rfl (lv_at hl 0 rfl) ?_
            refine lv_aload_n hx hb dX9_rules_84 rfl (lv_at hl 0 rfl) ?_
            refine get_X9_24 hx hb hA hown hE hG t_h0 wd_4_154 dX9_rules_85 (fun x93 h94 => ?_)
            replace h94 : x93.toInt = g22 124 0 := by rw [h94]; simp [gs]
            refine put_X9_22 hx hb hA hown hE hG hS hU t_h0 wd_4_152 dX9_rules_88 (fun H locs hG hS => ?_)
            generalize eg97 : (gs (gs (gs g22 114 0 x30.toInt) 121 0 x87.toInt) 122 0 x93.toInt) = g96 at hG
            have hf98 : ∀ c j : Nat, c ≠ 114 → c ≠ 121 → c ≠ 122 → g96 c j = g22 c j := fun c j h114 h121 h122 => by rw [← eg97, gs_c _ _ _ _ h122, gs_c _ _ _ _ h121, gs_c _ _ _ _ h114]
            have v99 : g96 114 0 = x30.toInt := by rw [← eg97, gs_c _ _ _ _ (by decide), gs_c _ _ _ _ (by decide), gs_self]
            have v100 : g96 121 0 = x87.toInt := by rw [← eg97, gs_c _ _ _ _ (by decide), gs_self]
            have v101 : g96 122 0 = x93.toInt := by rw [← eg97, gs_self]
            refine ty_iconst hx hb (0) dX9_rules_91 (by decide) (fun x102 h103 => ?_)
            refine lv_istore_n (lv' := [(1, .int x102), (0, .ref h0)]) hx hb dX9_rules_92 rfl hl (by decide) rfl (fun ls hl => ?_)
            have L_93 : ∀ (n : Nat) (v1_93 : Int32) (g104 : gh) (H : Heap) (locs : List Loc) (ls : Array Slot), (120 - v1_93.toInt : Int) < n → 0 ≤ v1_93.toInt ∧ v1_93.toInt ≤ 120 → (∀ c j : Nat, c ≠ 123 → g104 c j = g96 c j) → ty_ok (dC, dI) vwCl Γ (TP dA Γ g104) sz X H → va_S (ty_A sz) s.heap H locs → lv_has ls 2 [(1, .int v1_93), (0, .ref h0)] → W p l e (headSpec (.code yX9_rules cX9_rules 2 (Option.some Jvm.ClassFile.FieldType.int) :: AL) ({ frames := 6, cells := 0, slots := 0, locals := 129 })).room s m ([.ref h0] : List Value).toArray below meth c H locs 0 0 (MQ below (va_Qi (fun (r : Int32) (u : gh) => (∀ c j : Nat, c ≠ 100 → c ≠ 114 → c ≠ 115 → c ≠ 116 → c ≠ 117 → c ≠ 118 → c ≠ 119 → c ≠ 120 → c ≠ 121 → c ≠ 122 → c ≠ 123 → c ≠ 124 → c ≠ 125 → u c j = g c j) ∧ ((u 114 0 = 0) ∧ ((u 122 0 = g 122 0) ∨ (0 ≤ u 122 0 ∧ u 122 0 ≤ 30)))) (okb dC dI dA sz X Γ) (ty_A sz)) ([.ref h0] : List Value).toArray s 0 0 (ty_A sz)) (F0 m 93 ls []) := by
              intro n
              induction n with
              | zero => intro v1_93 g104 H locs ls hm hi0 hf105 hG hS hl; exfalso; omega
              | succ n ih_93 =>
                intro v1_93 g104 H locs ls hm hi0 hf105 hG hS hl
                refine lv_iload_n hx hb dX9_rules_93 rfl (lv_at hl 0 rfl) ?_
                refine ty_bipush hx hb (120) dX9_rules_94 (by decide) (fun x106 h107 => ?_)
                refine ty_icmp_ge (tgt := 117) hx hb dX9_rules_96 (by decide) (fun c108 => ?_) (fun c108 => ?_)
                · skip
                  refine lv_aload_n hx hb dX9_rules_117 rfl (lv_at hl 1 rfl) ?_
                  refine get_X9_22 hx hb hA hown hE hG t_h0 wd_4_152 dX9_rules_118 (fun x109 h110 => ?_)
                  have hk112 : g104 122 0 = g96 122 0 := hf105 122 0 (by decide)
                  have hk113 : g104 114 0 = g96 114 0 := hf105 114 0 (by decide)
                  exact W.iret (v := x109) hx hb hr (fun t ht hW => ⟨⟨x109, g104, rfl, ⟨(fun c j h100 h114 h115 h116 h117 h118 h119 h120 h121 h122 h123 h124 h125 => by rw [hf105 c j h123, hf98 c j h114 h121 h122, hf23 c j h115 h116 h117 h118 h119 h120 h124 h125, hf21 c j h115 h116 h117 h118, gs_c _ _ _ _ h124, hf9 c j h100 h119 h115]), (by omega)⟩, ok1 ht hG⟩, hS.F ht⟩) hS.2.2 dX9_rules_121
                · skip
                  refine lv_aload_n hx hb dX9_rules_99 rfl (lv_at hl 1 rfl) ?_
                  refine get_X9_23 hx hb hA hown hE hG t_h0 wd_4_153 dX9_rules_100 (fun b114 (t_b114 : ty Γ b114 123) => ?_)
                  refine lv_iload_n hx hb dX9_rules_103 rfl (lv_at hl 0 rfl) ?_
                  refine lv_aload_n hx hb dX9_rules_104 rfl (lv_at hl 1 rfl) ?_
                  refine get_X9_25 hx hb hA hown hE hG t_h0 wd_4_155 dX9_rules_105 (fun b115 (t_b115 : ty Γ b115 125) => ?_)
                  refine lv_iload_n hx hb dX9_rules_108 rfl (lv_at hl 0 rfl) ?_
                  refine ald_mI hx hb hE hG 25 rfl (n := 120) rfl (lo := -2147483648) (hi := 2147483647) rfl rfl t_b115 (by omega) dX9_rules_109 (fun j117 x116 h118 h119 h120 => ?_)
                  clear h120
                  refine ast_mI hx hb hE hG hS hU 23 rfl (n := 120) rfl (lo := -2147483648) (hi := 2147483647) rfl rfl rfl t_b114 (rgD _) (by omega) dX9_rules_110 (fun H locs hG hS => ?_)
                  obtain ⟨x121, h122⟩ : ∃ y : Int32, y = v1_93 + Int32.ofInt (1) := ⟨_, rfl⟩
                  try have h123 : x121.toInt = v1_93.toInt + (1) := ty_inc h122 (by decide) (by omega) (by omega)
                  refine lv_iinc (v := x121) (lv' := [(1, .int x121), (0, .ref h0)]) hx hb dX9_rules_111 hl (k := 0) rfl h122.symm (by decide) rfl (fun ls hl => ?_)
                  refine lv_goto (tgt := 93) hx hb dX9_rules_114 (by decide) ?_
                  exact ih_93 x121 (gs g104 123 v1_93.toInt.toNat x116.toInt) _ _ ls (by omega) (by omega) (fun c j h123 => by rw [gs_c _ _ _ _ h123, hf105 c j h123]) hG hS (lv_sub hl [0, 1] rfl)
            exact L_93 ((120 - x102.toInt) + 1).toNat x102 g96 _ _ ls (by omega) (by omega) (fun c j _ => rfl) hG hS (lv_sub hl [0, 1] rfl)
          · skip
            refine ty_iconst hx hb (-1) dX9_rules_76 (by decide) (fun x124 h125 => ?_)
            refine lv_aload_n hx hb dX9_rules_77 rfl (lv_at hl 0 rfl) ?_
            refine get_X9_19 hx hb hA hown hE hG t_h0 wd_4_149 dX9_rules_78 (fun x126 h127 => ?_)
            replace h127 : x126.toInt = g22 119 0 := by rw [h127]; simp [gs]
            refine ty_isub hx hb dX9_rules_81 (fun x129 h130 => ?_)
            try have h131 : x129.toInt = x124.toInt - x126.toInt := ty_sub h130 (by omega) (by omega)
            have e132 : (gs (gs g22 114 0 x30.toInt) 121 0 x87.toInt) 114 0 = x30.toInt := by simp [gs]
            have hk133 : g22 122 0 = u19 122 0 := hf23 122 0 (by decide) (by decide) (by decide) (by decide) (by decide) (by decide) (by decide) (by decide)
            have hk134 : u19 122 0 = (gs g7 124 0 x13.toInt) 122 0 := hf21 122 0 (by decide) (by decide) (by decide) (by decide)
            have hk134 : u19 122 0 = g7 122 0 := by rw [hk134]; simp [gs]
            have hk135 : g7 122 0 = g 122 0 := hf9 122 0 (by decide) (by decide) (by decide)
            have e136 : (gs (gs g22 114 0 x30.toInt) 121 0 x87.toInt) 122 0 = g22 122 0 := by simp [gs]
            exact W.iret (v := x129) hx hb hr (fun t ht hW => ⟨⟨x129, (gs (gs g22 114 0 x30.toInt) 121 0 x87.toInt), rfl, ⟨(fun c j h100 h114 h115 h116 h117 h118 h119 h120 h121 h122 h123 h124 h125 => by rw [gs_c _ _ _ _ h121, gs_c _ _ _ _ h114, hf23 c j h115 h116 h117 h118 h119 h120 h124 h125, hf21 c j h115 h116 h117 h118, gs_c _ _ _ _ h124, hf9 c j h100 h119 h115]), (by omega)⟩, ok1 ht hG⟩, hS.F ht⟩) hS.2.2 dX9_rules_82
      · skip
        refine lv_aload_n hx hb dX9_rules_31 rfl (lv_at hl 0 rfl) ?_
        refine get_X9_17 hx hb hA hown hE hG t_h0 wd_4_147 dX9_rules_32 (fun x137 h138 => ?_)
        refine ty_if_eq (tgt := 45) hx hb dX9_rules_35 (by decide) (fun c140 => ?_) (fun c140 => ?_)
        · skip
          refine lv_aload_n hx hb dX9_rules_45 rfl (lv_at hl 0 rfl) ?_
          refine ty_iconst hx hb (0) dX9_rules_46 (by decide) (fun x141 h142 => ?_)
          refine put_X9_14 hx hb hA hown hE hG hS hU t_h0 wd_4_144 dX9_rules_47 (fun H locs hG hS => ?_)
          refine lv_aload_n hx hb dX9_rules_50 rfl (lv_at hl 0 rfl) ?_
          refine lv_aload_n hx hb dX9_rules_51 rfl (lv_at hl 0 rfl) ?_
          refine get_X9_19 hx hb hA hown hE hG t_h0 wd_4_149 dX9_rules_52 (fun x143 h144 => ?_)
          replace h144 : x143.toInt = g22 119 0 := by rw [h144]; simp [gs]
          refine ty_if_ne (tgt := 62) hx hb dX9_rules_55 (by decide) (fun c146 => ?_) (fun c146 => ?_)
          · skip
            refine lv_aload_n hx hb dX9_rules_62 rfl (lv_at hl 0 rfl) ?_
            refine get_X9_20 hx hb hA hown hE hG t_h0 wd_4_150 dX9_rules_63 (fun x147 h148 => ?_)
            replace h148 : x147.toInt = g22 120 0 := by rw [h148]; simp [gs]
            refine put_X9_21 hx hb hA hown hE hG hS hU t_h0 wd_4_151 dX9_rules_66 (fun H locs hG hS => ?_)
            refine lv_aload_n hx hb dX9_rules_69 rfl (lv_at hl 0 rfl) ?_
            refine get_X9_19 hx hb hA hown hE hG t_h0 wd_4_149 dX9_rules_70 (fun x150 h151 => ?_)
            replace h151 : x150.toInt = g22 119 0 := by rw [h151]; simp [gs]
            refine ty_if_eq (tgt := 83) hx hb dX9_rules_73 (by decide) (fun c153 => ?_) (fun c153 => ?_)
            · skip
              refine lv_aload_n hx hb dX9_rules_83 rfl (lv_at hl 0 rfl) ?_
              refine lv_aload_n hx hb dX9_rules_84 rfl (lv_at hl 0 rfl) ?_
              refine get_X9_24 hx hb hA hown hE hG t_h0 wd_4_154 dX9_rules_85 (fun x154 h155 => ?_)
              replace h155 : x154.toInt = g22 124 0 := by rw [h155]; simp [gs]
              refine put_X9_22 hx hb hA hown hE hG hS hU t_h0 wd_4_152 dX9_rules_88 (fun H locs hG hS => ?_)
              generalize eg158 : (gs (gs (gs g22 114 0 x141.toInt) 121 0 x147.toInt) 122 0 x154.toInt) = g157 at hG
              have hf159 : ∀ c j : Nat, c ≠ 114 → c ≠ 121 → c ≠ 122 → g157 c j = g22 c j := fun c j h114 h121 h122 => by rw [← eg158, gs_c _ _ _ _ h122, gs_c _ _ _ _ h121, gs_c _ _ _ _ h114]
              have v160 : g157 114 0 = x141.toInt := by rw [← eg158, gs_c _ _ _ _ (by decide), gs_c _ _ _ _ (by decide), gs_self]
              have v161 : g157 121 0 = x147.toInt := by rw [← eg158, gs_c _ _ _ _ (by decide), gs_self]
              have v162 : g157 122 0 = x154.toInt := by rw [← eg158, gs_self]
              refine ty_iconst hx hb (0) dX9_rules_91 (by decide) (fun x163 h164 => ?_)
              refine lv_istore_n (lv' := [(1, .int x163), (0, .ref h0)]) hx hb dX9_rules_92 rfl hl (by decide) rfl (fun ls hl => ?_)
              have L_93 : ∀ (n : Nat) (v1_93 : Int32) (g165 : gh) (H : Heap) (locs : List Loc) (ls : Array Slot), (120 - v1_93.toInt : Int) < n → 0 ≤ v1_93.toInt ∧ v1_93.toInt ≤ 120 → (∀ c j : Nat, c ≠ 123 → g165 c j = g157 c j) → ty_ok (dC, dI) vwCl Γ (TP dA Γ g165) sz X H → va_S (ty_A sz) s.heap H locs → lv_has ls 2 [(1, .int v1_93), (0, .ref h0)] → W p l e (headSpec (.code yX9_rules cX9_rules 2 (Option.some Jvm.ClassFile.FieldType.int) :: AL) ({ frames := 6, cells := 0, slots := 0, locals := 129 })).room s m ([.ref h0] : List Value).toArray below meth c H locs 0 0 (MQ below (va_Qi (fun (r : Int32) (u : gh) => (∀ c j : Nat, c ≠ 100 → c ≠ 114 → c ≠ 115 → c ≠ 116 → c ≠ 117 → c ≠ 118 → c ≠ 119 → c ≠ 120 → c ≠ 121 → c ≠ 122 → c ≠ 123 → c ≠ 124 → c ≠ 125 → u c j = g c j) ∧ ((u 114 0 = 0) ∧ ((u 122 0 = g 122 0) ∨ (0 ≤ u 122 0 ∧ u 122 0 ≤ 30)))) (okb dC dI dA sz X Γ) (ty_A sz)) ([.ref h0] : List Value).toArray s 0 0 (ty_A sz)) (F0 m 93 ls []) := by
                intro n
                induction n with
                | zero => intro v1_93 g165 H locs ls hm hi0 hf166 hG hS hl; exfalso; omega
                | succ n ih_93 =>
                  intro v1_93 g165 H locs ls hm hi0 hf166 hG hS hl
                  refine lv_iload_n hx hb dX9_rules_93 rfl (lv_at hl 0 rfl) ?_
                  refine ty_bipush hx hb (120) dX9_rules_94 (by decide) (fun x167 h168 => ?_)
                  refine ty_icmp_ge (tgt := 117) hx hb dX9_rules_96 (by decide) (fun c169 => ?_) (fun c169 => ?_)
                  · skip
                    refine lv_aload_n hx hb dX9_rules_117 rfl (lv_at hl 1 rfl) ?_
                    refine get_X9_22 hx hb hA hown hE hG t_h0 wd_4_152 dX9_rules_118 (fun x170 h171 => ?_)
                    have hk173 : g165 122 0 = g157 122 0 := hf166 122 0 (by decide)
                    have hk174 : g165 114 0 = g157 114 0 := hf166 114 0 (by decide)
                    exact W.iret (v := x170) hx hb hr (fun t ht hW => ⟨⟨x170, g165, rfl, ⟨(fun c j h100 h114 h115 h116 h117 h118 h119 h120 h121 h122 h123 h124 h125 => by rw [hf166 c j h123, hf159 c j h114 h121 h122, hf23 c j h115 h116 h117 h118 h119 h120 h124 h125, hf21 c j h115 h116 h117 h118, gs_c _ _ _ _ h124, hf9 c j h100 h119 h115]), (by omega)⟩, ok1 ht hG⟩, hS.F ht⟩) hS.2.2 dX9_rules_121
                  · skip
                    refine lv_aload_n hx hb dX9_rules_99 rfl (lv_at hl 1 rfl) ?_
                    refine get_X9_23 hx hb hA hown hE hG t_h0 wd_4_153 dX9_rules_100 (fun b175 (t_b175 : ty Γ b175 123) => ?_)
                    refine lv_iload_n hx hb dX9_rules_103 rfl (lv_at hl 0 rfl) ?_
                    refine lv_aload_n hx hb dX9_rules_104 rfl (lv_at hl 1 rfl) ?_
                    refine get_X9_25 hx hb hA hown hE hG t_h0 wd_4_155 dX9_rules_105 (fun b176 (t_b176 : ty Γ b176 125) => ?_)
                    refine lv_iload_n hx hb dX9_rules_108 rfl (lv_at hl 0 rfl) ?_
                    refine ald_mI hx hb hE hG 25 rfl (n := 120) rfl (lo := -2147483648) (hi := 2147483647) rfl rfl t_b176 (by omega) dX9_rules_109 (fun j178 x177 h179 h180 h181 => ?_)
                    clear h181
                    refine ast_mI hx hb hE hG hS hU 23 rfl (n := 120) rfl (lo := -2147483648) (hi := 2147483647) rfl rfl rfl t_b175 (rgD _) (by omega) dX9_rules_110 (fun H locs hG hS => ?_)
                    obtain ⟨x182, h183⟩ : ∃ y : Int32, y = v1_93 + Int32.ofInt (1) := ⟨_, rfl⟩
                    try have h184 : x182.toInt = v1_93.toInt + (1) := ty_inc h183 (by decide) (by omega) (by omega)
                    refine lv_iinc (v := x182) (lv' := [(1, .int x182), (0, .ref h0)]) hx hb dX9_rules_111 hl (k := 0) rfl h183.symm (by decide) rfl (fun ls hl => ?_)
                    refine lv_goto (tgt := 93) hx hb dX9_rules_114 (by decide) ?_
                    exact ih_93 x182 (gs g165 123 v1_93.toInt.toNat x177.toInt) _ _ ls (by omega) (by omega) (fun c j h123 => by rw [gs_c _ _ _ _ h123, hf166 c j h123]) hG hS (lv_sub hl [0, 1] rfl)
              exact L_93 ((120 - x163.toInt) + 1).toNat x163 g157 _ _ ls (by omega) (by omega) (fun c j _ => rfl) hG hS (lv_sub hl [0, 1] rfl)
            · skip
              refine ty_iconst hx hb (-1) dX9_rules_76 (by decide) (fun x185 h186 => ?_)
              refine lv_aload_n hx hb dX9_rules_77 rfl (lv_at hl 0 rfl) ?_
              refine get_X9_19 hx hb hA hown hE hG t_h0 wd_4_149 dX9_rules_78 (fun x187 h188 => ?_)
              replace h188 : x187.toInt = g22 119 0 := by rw [h188]; simp [gs]
              refine ty_isub hx hb dX9_rules_81 (fun x190 h191 => ?_)
              try have h192 : x190.toInt = x185.toInt - x187.toInt := ty_sub h191 (by omega) (by omega)
              have e193 : (gs (gs g22 114 0 x141.toInt) 121 0 x147.toInt) 114 0 = x141.toInt := by simp [gs]
              have hk194 : g22 122 0 = u19 122 0 := hf23 122 0 (by decide) (by decide) (by decide) (by decide) (by decide) (by decide) (by decide) (by decide)
              have hk195 : u19 122 0 = (gs g7 124 0 x13.toInt) 122 0 := hf21 122 0 (by decide) (by decide) (by decide) (by decide)
              have hk195 : u19 122 0 = g7 122 0 := by rw [hk195]; simp [gs]
              have hk196 : g7 122 0 = g 122 0 := hf9 122 0 (by decide) (by decide) (by decide)
              have e197 : (gs (gs g22 114 0 x141.toInt) 121 0 x147.toInt) 122 0 = g22 122 0 := by simp [gs]
              exact W.iret (v := x190) hx hb hr (fun t ht hW => ⟨⟨x190, (gs (gs g22 114 0 x141.toInt) 121 0 x147.toInt), rfl, ⟨(fun c j h100 h114 h115 h116 h117 h118 h119 h120 h121 h122 h123 h124 h125 => by rw [gs_c _ _ _ _ h121, gs_c _ _ _ _ h114, hf23 c j h115 h116 h117 h118 h119 h120 h124 h125, hf21 c j h115 h116 h117 h118, gs_c _ _ _ _ h124, hf9 c j h100 h119 h115]), (by omega)⟩, ok1 ht hG⟩, hS.F ht⟩) hS.2.2 dX9_rules_82
          · skip
            refine ty_iconst hx hb (-1) dX9_rules_58 (by decide) (fun x198 h199 => ?_)
            refine lv_goto (tgt := 66) hx hb dX9_rules_59 (by decide) ?_
            refine put_X9_21 hx hb hA hown hE hG hS hU t_h0 wd_4_151 dX9_rules_66 (fun H locs hG hS => ?_)
            refine lv_aload_n hx hb dX9_rules_69 rfl (lv_at hl 0 rfl) ?_
            refine get_X9_19 hx hb hA hown hE hG t_h0 wd_4_149 dX9_rules_70 (fun x200 h201 => ?_)
            replace h201 : x200.toInt = g22 119 0 := by rw [h201]; simp [gs]
            refine ty_if_eq (tgt := 83) hx hb dX9_rules_73 (by decide) (fun c203 => ?_) (fun c203 => ?_)
            · skip
              refine lv_aload_n hx hb dX9_rules_83 rfl (lv_at hl 0 rfl) ?_
              refine lv_aload_n hx hb dX9_rules_84 rfl (lv_at hl 0 rfl) ?_
              refine get_X9_24 hx hb hA hown hE hG t_h0 wd_4_154 dX9_rules_85 (fun x204 h205 => ?_)
              replace h205 : x204.toInt = g22 124 0 := by rw [h205]; simp [gs]
              refine put_X9_22 hx hb hA hown hE hG hS hU t_h0 wd_4_152 dX9_rules_88 (fun H locs hG hS => ?_)
              generalize eg208 : (gs (gs (gs g22 114 0 x141.toInt) 121 0 x198.toInt) 122 0 x204.toInt) = g207 at hG
              have hf209 : ∀ c j : Nat, c ≠ 114 → c ≠ 121 → c ≠ 122 → g207 c j = g22 c j := fun c j h114 h121 h122 => by rw [← eg208, gs_c _ _ _ _ h122, gs_c _ _ _ _ h121, gs_c _ _ _ _ h114]
              have v210 : g207 114 0 = x141.toInt := by rw [← eg208, gs_c _ _ _ _ (by decide), gs_c _ _ _ _ (by decide), gs_self]
              have v211 : g207 121 0 = x198.toInt := by rw [← eg208, gs_c _ _ _ _ (by decide), gs_self]
              have v212 : g207 122 0 = x204.toInt := by rw [← eg208, gs_self]
              refine ty_iconst hx hb (0) dX9_rules_91 (by decide) (fun x213 h214 => ?_)
              refine lv_istore_n (lv' := [(1, .int x213), (0, .ref h0)]) hx hb dX9_rules_92 rfl hl (by decide) rfl (fun ls hl => ?_)
              have L_93 : ∀ (n : Nat) (v1_93 : Int32) (g215 : gh) (H : Heap) (locs : List Loc) (ls : Array Slot), (120 - v1_93.toInt : Int) < n → 0 ≤ v1_93.toInt ∧ v1_93.toInt ≤ 120 → (∀ c j : Nat, c ≠ 123 → g215 c j = g207 c j) → ty_ok (dC, dI) vwCl Γ (TP dA Γ g215) sz X H → va_S (ty_A sz) s.heap H locs → lv_has ls 2 [(1, .int v1_93), (0, .ref h0)] → W p l e (headSpec (.code yX9_rules cX9_rules 2 (Option.some Jvm.ClassFile.FieldType.int) :: AL) ({ frames := 6, cells := 0, slots := 0, locals := 129 })).room s m ([.ref h0] : List Value).toArray below meth c H locs 0 0 (MQ below (va_Qi (fun (r : Int32) (u : gh) => (∀ c j : Nat, c ≠ 100 → c ≠ 114 → c ≠ 115 → c ≠ 116 → c ≠ 117 → c ≠ 118 → c ≠ 119 → c ≠ 120 → c ≠ 121 → c ≠ 122 → c ≠ 123 → c ≠ 124 → c ≠ 125 → u c j = g c j) ∧ ((u 114 0 = 0) ∧ ((u 122 0 = g 122 0) ∨ (0 ≤ u 122 0 ∧ u 122 0 ≤ 30)))) (okb dC dI dA sz X Γ) (ty_A sz)) ([.ref h0] : List Value).toArray s 0 0 (ty_A sz)) (F0 m 93 ls []) := by
                intro n
                induction n with
                | zero => intro v1_93 g215 H locs ls hm hi0 hf216 hG hS hl; exfalso; omega
                | succ n ih_93 =>
                  intro v1_93 g215 H locs ls hm hi0 hf216 hG hS hl
                  refine lv_iload_n hx hb dX9_rules_93 rfl (lv_at hl 0 rfl) ?_
                  refine ty_bipush hx hb (120) dX9_rules_94 (by decide) (fun x217 h218 => ?_)
                  refine ty_icmp_ge (tgt := 117) hx hb dX9_rules_96 (by decide) (fun c219 => ?_) (fun c219 => ?_)
                  · skip
                    refine lv_aload_n hx hb dX9_rules_117 rfl (lv_at hl 1 rfl) ?_
                    refine get_X9_22 hx hb hA hown hE hG t_h0 wd_4_152 dX9_rules_118 (fun x220 h221 => ?_)
                    have hk223 : g215 122 0 = g207 122 0 := hf216 122 0 (by decide)
                    have hk224 : g215 114 0 = g207 114 0 := hf216 114 0 (by decide)
                    exact W.iret (v := x220) hx hb hr (fun t ht hW => ⟨⟨x220, g215, rfl, ⟨(fun c j h100 h114 h115 h116 h117 h118 h119 h120 h121 h122 h123 h124 h125 => by rw [hf216 c j h123, hf209 c j h114 h121 h122, hf23 c j h115 h116 h117 h118 h119 h120 h124 h125, hf21 c j h115 h116 h117 h118, gs_c _ _ _ _ h124, hf9 c j h100 h119 h115]), (by omega)⟩, ok1 ht hG⟩, hS.F ht⟩) hS.2.2 dX9_rules_121
                  · skip
                    refine lv_aload_n hx hb dX9_rules_99 rfl (lv_at hl 1 rfl) ?_
                    refine get_X9_23 hx hb hA hown hE hG t_h0 wd_4_153 dX9_rules_100 (fun b225 (t_b225 : ty Γ b225 123) => ?_)
                    refine lv_iload_n hx hb dX9_rules_103 rfl (lv_at hl 0 rfl) ?_
                    refine lv_aload_n hx hb dX9_rules_104 rfl (lv_at hl 1 rfl) ?_
                    refine get_X9_25 hx hb hA hown hE hG t_h0 wd_4_155 dX9_rules_105 (fun b226 (t_b226 : ty Γ b226 125) => ?_)
                    refine lv_iload_n hx hb dX9_rules_108 rfl (lv_at hl 0 rfl) ?_
                    refine ald_mI hx hb hE hG 25 rfl (n := 120) rfl (lo := -2147483648) (hi := 2147483647) rfl rfl t_b226 (by omega) dX9_rules_109 (fun j228 x227 h229 h230 h231 => ?_)
                    clear h231
                    refine ast_mI hx hb hE hG hS hU 23 rfl (n := 120) rfl (lo := -2147483648) (hi := 2147483647) rfl rfl rfl t_b225 (rgD _) (by omega) dX9_rules_110 (fun H locs hG hS => ?_)
                    obtain ⟨x232, h233⟩ : ∃ y : Int32, y = v1_93 + Int32.ofInt (1) := ⟨_, rfl⟩
                    try have h234 : x232.toInt = v1_93.toInt + (1) := ty_inc h233 (by decide) (by omega) (by omega)
                    refine lv_iinc (v := x232) (lv' := [(1, .int x232), (0, .ref h0)]) hx hb dX9_rules_111 hl (k := 0) rfl h233.symm (by decide) rfl (fun ls hl => ?_)
                    refine lv_goto (tgt := 93) hx hb dX9_rules_114 (by decide) ?_
                    exact ih_93 x232 (gs g215 123 v1_93.toInt.toNat x227.toInt) _ _ ls (by omega) (by omega) (fun c j h123 => by rw [gs_c _ _ _ _ h123, hf216 c j h123]) hG hS (lv_sub hl [0, 1] rfl)
              exact L_93 ((120 - x213.toInt) + 1).toNat x213 g207 _ _ ls (by omega) (by omega) (fun c j _ => rfl) hG hS (lv_sub hl [0, 1] rfl)
            · skip
              refine ty_iconst hx hb (-1) dX9_rules_76 (by decide) (fun x235 h236 => ?_)
              refine lv_aload_n hx hb dX9_rules_77 rfl (lv_at hl 0 rfl) ?_
              refine get_X9_19 hx hb hA hown hE hG t_h0 wd_4_149 dX9_rules_78 (fun x237 h238 => ?_)
              replace h238 : x237.toInt = g22 119 0 := by rw [h238]; simp [gs]
              refine ty_isub hx hb dX9_rules_81 (fun x240 h241 => ?_)
              try have h242 : x240.toInt = x235.toInt - x237.toInt := ty_sub h241 (by omega) (by omega)
              have e243 : (gs (gs g22 114 0 x141.toInt) 121 0 x198.toInt) 114 0 = x141.toInt := by simp [gs]
              have hk244 : g22 122 0 = u19 122 0 := hf23 122 0 (by decide) (by decide) (by decide) (by decide) (by decide) (by decide) (by decide) (by decide)
              have hk245 : u19 122 0 = (gs g7 124 0 x13.toInt) 122 0 := hf21 122 0 (by decide) (by decide) (by decide) (by decide)
              have hk245 : u19 122 0 = g7 122 0 := by rw [hk245]; simp [gs]
              have hk246 : g7 122 0 = g 122 0 := hf9 122 0 (by decide) (by decide) (by decide)
              have e247 : (gs (gs g22 114 0 x141.toInt) 121 0 x198.toInt) 122 0 = g22 122 0 := by simp [gs]
              exact W.iret (v := x240) hx hb hr (fun t ht hW => ⟨⟨x240, (gs (gs g22 114 0 x141.toInt) 121 0 x198.toInt), rfl, ⟨(fun c j h100 h114 h115 h116 h117 h118 h119 h120 h121 h122 h123 h124 h125 => by rw [gs_c _ _ _ _ h121, gs_c _ _ _ _ h114, hf23 c j h115 h116 h117 h118 h119 h120 h124 h125, hf21 c j h115 h116 h117 h118, gs_c _ _ _ _ h124, hf9 c j h100 h119 h115]), (by omega)⟩, ok1 ht hG⟩, hS.F ht⟩) hS.2.2 dX9_rules_82
        · skip
          refine lv_aload_n hx hb dX9_rules_38 rfl (lv_at hl 0 rfl) ?_
          refine cV (va_runV (C := RX9) (As := []) (rest := []) ⟨hx, hb, hml, hown, hA⟩ (k_X9_readStatement l dC dI dA sz X Γ hU g22 h0 t_h0   (by omega) (by omega)) ⟨callB_of 0 hA (al_A wd_5_88) rfl rfl rfl (hA _ wd_1_7) (hA _ wd_5_85) (by decide +kernel) ⟨Nat.le_of_ble_eq_true rfl, Nat.le_of_ble_eq_true rfl⟩, hA _ wd_5_87, hA _ ws_41⟩ ⟨bl, recv_X9 hE hG t_h0, fun U hU9 hW9 => ⟨rfl, by rw [hU9]; exact hG, hE.go hS hU9 hW9⟩⟩ rfl rfl hl.1 rfl (lv_room (Nat.le_of_ble_eq_true rfl)) dX9_rules_39 ⟨Nat.zero_le _, Nat.zero_le _⟩) hS (fun u248 H locs w249 hG hS => ?_)
          obtain ⟨hf250, w249⟩ := w249
          refine lv_goto (tgt := 24) hx hb dX9_rules_42 (by decide) ?_
          have hk251 : u248 114 0 = g22 114 0 := hf250 114 0 (by decide) (by decide) (by decide) (by decide) (by decide) (by decide) (by decide) (by decide)
          exact ih_24 u248 _ _ ls (by omega) (by omega) (by omega) (fun c j h115 h116 h117 h118 h119 h120 h124 h125 => by rw [hf250 c j h115 h116 h117 h118 h119 h120 h124 h125, hf23 c j h115 h116 h117 h118 h119 h120 h124 h125]) hG hS (lv_sub hl [0] rfl)
  have hk252 : u19 114 0 = (gs g7 124 0 x13.toInt) 114 0 := hf21 114 0 (by decide) (by decide) (by decide) (by decide)
  have hk252 : u19 114 0 = g7 114 0 := by rw [hk252]; simp [gs]
  have hk253 : u19 119 0 = (gs g7 124 0 x13.toInt) 119 0 := hf21 119 0 (by decide) (by decide) (by decide) (by decide)
  have hk253 : u19 119 0 = g7 119 0 := by rw [hk253]; simp [gs]
  have hk254 : u19 124 0 = (gs g7 124 0 x13.toInt) 124 0 := hf21 124 0 (by decide) (by decide) (by decide) (by decide)
  have hk254 : u19 124 0 = x13.toInt := by rw [hk254]; simp [gs]
  exact L_24 ((34 - u19 124 0 - u19 119 0) + 1).toNat u19 _ _ ls (by omega) (by omega) (by omega) (fun c j _ _ _ _ _ _ _ _ => rfl) hG hS (lv_sub hl [0] rfl)
