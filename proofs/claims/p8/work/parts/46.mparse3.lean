set_option maxHeartbeats 4000000 in
set_option maxRecDepth 100000 in
/-- WeekBankModel.rules:  -/
theorem k_X9_rules (l : Launch) (dC : Nat → ClassId) (dI : Nat → Nat → Nat) (dA : Nat → ClassId) (sz : Nat) (X : va_W) (Γ : ty_G) (hU : Un Γ) (g : gh) (h0 : Nat) (t_h0 : ty Γ h0 30) (T : Nat → Int) (N9 : Nat) (hp : 0 ≤ g 114 0 ∧ g 114 0 ≤ 300) (hT : pz_t g = T) (hN : g 114 0 = (N9 : Int)) : Met l yX9_rules (.code yX9_rules cX9_rules 2 (Option.some Jvm.ClassFile.FieldType.int) :: AL) ({ frames := 6, cells := 0, slots := 0, locals := 129 }) (PCx dC dI dA sz X Γ g [.ref h0]) (va_Qi (fun (r : Int32) (u : gh) => (∀ c j : Nat, c ≠ 100 → c ≠ 114 → c ≠ 115 → c ≠ 116 → c ≠ 117 → c ≠ 118 → c ≠ 119 → c ≠ 120 → c ≠ 121 → c ≠ 122 → c ≠ 123 → c ≠ 124 → c ≠ 125 → u c j = g c j) ∧ ((u 114 0 = 0) ∧ ((u 122 0 = g 122 0) ∨ (0 ≤ u 122 0 ∧ u 122 0 ≤ 30)) ∧ (u 121 0 = u 121 0)) ∧ (r.toInt = pz_res (pz_Z T N9 (g 118 0)) ∧ u 121 0 = (pz_Z T N9 (g 118 0)).1.2.2.2.2.2 ∧ u 118 0 = (pz_Z T N9 (g 118 0)).1.2.2.2.1)) (okb dC dI dA sz X Γ) (ty_A sz)) 0 0 (ty_A sz) := by
  refine Met.ofW (cc := cX9_rules) (maxL := 2) (ret := (Option.some Jvm.ClassFile.FieldType.int)) (by decide) rfl ?_
  intro p e s m args below meth c s₁ B hml hv
  obtain ⟨rfl, hG, hE⟩ := hv
  have hx := B.exec
  have hb := B.bytes
  have hr := B.returns
  have hts := atoms_spec B.pre
  have hA : ∀ w ∈ AL, w.before _ s = true := fun w h => hts w (List.mem_cons_of_mem _ h)
  have hown : s.vm.findClass RX9 = some m.cls := findClass_of_methodNamed B.named
  have hlocks := B.notSynchronized
  have hS : va_S (ty_A sz) s.heap s.heap [] := va_S.rf
  have hl := lv_entry ([.ref h0]) (n := 2) (Nat.le_of_ble_eq_true rfl)
  rw [lg_entry_eq]
  generalize (lg_sl ([.ref h0]) ++ List.replicate (2 - (lg_sl ([.ref h0])).length) Slot.unset).toArray = ls at hl ⊢
  have hl : lv_has ls 2 [(0, .ref h0)] := hl
  refine lv_aload_n hx hb dX9_rules_0 rfl (lv_at hl 0 rfl) ?_
  refine ty_iconst hx hb (0) dX9_rules_1 (by decide) (fun x1 h2 => ?_)
  refine put_X9_0 hx hb hA hown hE hG hS hU t_h0 wd_4_130 dX9_rules_2 (fun H locs hG hS => ?_)
  refine lv_aload_n hx hb dX9_rules_5 rfl (lv_at hl 0 rfl) ?_
  refine ty_iconst hx hb (0) dX9_rules_6 (by decide) (fun x3 h4 => ?_)
  refine put_X9_19 hx hb hA hown hE hG hS hU t_h0 wd_4_149 dX9_rules_7 (fun H locs hG hS => ?_)
  refine lv_aload_n hx hb dX9_rules_10 rfl (lv_at hl 0 rfl) ?_
  refine ty_iconst hx hb (0) dX9_rules_11 (by decide) (fun x5 h6 => ?_)
  refine put_X9_15 hx hb hA hown hE hG hS hU t_h0 wd_4_145 dX9_rules_12 (fun H locs hG hS => ?_)
  generalize eg8 : (gs (gs (gs g 100 0 x1.toInt) 119 0 x3.toInt) 115 0 x5.toInt) = g7 at hG
  have hf9 : ∀ c j : Nat, c ≠ 100 → c ≠ 119 → c ≠ 115 → g7 c j = g c j := fun c j h100 h119 h115 => by rw [← eg8, gs_c _ _ _ _ h115, gs_c _ _ _ _ h119, gs_c _ _ _ _ h100]
  have v10 : g7 100 0 = x1.toInt := by rw [← eg8, gs_c _ _ _ _ (by decide), gs_c _ _ _ _ (by decide), gs_self]
  have v11 : g7 119 0 = x3.toInt := by rw [← eg8, gs_c _ _ _ _ (by decide), gs_self]
  have v12 : g7 115 0 = x5.toInt := by rw [← eg8, gs_self]
  refine lv_aload_n hx hb dX9_rules_15 rfl (lv_at hl 0 rfl) ?_
  refine ty_iconst hx hb (0) dX9_rules_16 (by decide) (fun x13 h14 => ?_)
  refine put_X9_24 hx hb hA hown hE hG hS hU t_h0 wd_4_154 dX9_rules_17 (fun H locs hG hS => ?_)
  refine lv_aload_n hx hb dX9_rules_20 rfl (lv_at hl 0 rfl) ?_
  have e15 : (gs g7 124 0 x13.toInt) 115 0 = g7 115 0 := by simp [gs]
  have hk16 : g7 118 0 = g 118 0 := hf9 118 0 (by decide) (by decide) (by decide)
  have e17 : (gs g7 124 0 x13.toInt) 118 0 = g7 118 0 := by simp [gs]
  have e18 : (gs g7 124 0 x13.toInt) 119 0 = g7 119 0 := by simp [gs]
  have hk19 : g7 114 0 = g 114 0 := hf9 114 0 (by decide) (by decide) (by decide)
  have e20 : (gs g7 124 0 x13.toInt) 114 0 = g7 114 0 := by simp [gs]
  have e21 : (gs g7 124 0 x13.toInt) 115 0 = g7 115 0 := by simp [gs]
  have e22 : (gs g7 124 0 x13.toInt) 114 0 = g7 114 0 := by simp [gs]
  have e23 : (gs g7 124 0 x13.toInt) 114 0 = g7 114 0 := by simp [gs]
  refine cV (va_runV (C := RX9) (As := []) (rest := []) ⟨hx, hb, hml, hown, hA⟩ (k_X9_next l dC dI dA sz X Γ hU (gs g7 124 0 x13.toInt) h0 t_h0 T N9  (by omega) ((funext fun j => show (gs g7 124 0 x13.toInt) 113 j % 256 = g 113 j % 256 by rw [gs_c _ _ _ _ (by decide), hf9 113 j (by decide) (by decide) (by decide)]).trans hT) (by omega)) ⟨callB_of 0 hA (al_A wd_5_74) rfl rfl rfl (hA _ wd_1_7) (hA _ wd_5_71) (by decide +kernel) ⟨Nat.le_of_ble_eq_true rfl, Nat.le_of_ble_eq_true rfl⟩, hA _ wd_5_73, hA _ ws_39⟩ ⟨bl, recv_X9 hE hG t_h0, fun U hU9 hW9 => ⟨rfl, by rw [hU9]; exact hG, hE.go hS hU9 hW9⟩⟩ rfl rfl hl.1 rfl (lv_room (Nat.le_of_ble_eq_true rfl)) dX9_rules_21 ⟨Nat.zero_le _, Nat.zero_le _⟩) hS (fun u24 H locs w25 hG hS => ?_)
  obtain ⟨hf27, w25, hq26⟩ := w25
  have L_24 : ∀ (n : Nat)  (g28 : gh) (H : Heap) (locs : List Loc) (ls : Array Slot), (34 - g28 124 0 - g28 119 0 : Int) < n → 0 ≤ g28 116 0 ∧ g28 116 0 ≤ g28 115 0 ∧ g28 115 0 ≤ g28 114 0 ∧ g28 114 0 ≤ 300 → 0 ≤ g28 119 0 ∧ g28 119 0 ≤ 3 ∧ 0 ≤ g28 124 0 ∧ g28 124 0 ≤ 30 → (∀ c j : Nat, c ≠ 115 → c ≠ 116 → c ≠ 117 → c ≠ 118 → c ≠ 119 → c ≠ 120 → c ≠ 124 → c ≠ 125 → g28 c j = u24 c j) → (∃ c : Nat, c ≤ 31 ∧ pz_L T N9 (31 - c) (c : Int) (pz_m g28) = pz_Z T N9 (g 118 0) ∧ (g28 119 0 = 0 → g28 124 0 = (c : Int))) → ty_ok (dC, dI) vwCl Γ (TP dA Γ g28) sz X H → va_S (ty_A sz) s.heap H locs → lv_has ls 2 [(0, .ref h0)] → W p l e (headSpec (.code yX9_rules cX9_rules 2 (Option.some Jvm.ClassFile.FieldType.int) :: AL) ({ frames := 6, cells := 0, slots := 0, locals := 129 })).room s m ([.ref h0] : List Value).toArray below meth c H locs 0 0 (MQ below (va_Qi (fun (r : Int32) (u : gh) => (∀ c j : Nat, c ≠ 100 → c ≠ 114 → c ≠ 115 → c ≠ 116 → c ≠ 117 → c ≠ 118 → c ≠ 119 → c ≠ 120 → c ≠ 121 → c ≠ 122 → c ≠ 123 → c ≠ 124 → c ≠ 125 → u c j = g c j) ∧ ((u 114 0 = 0) ∧ ((u 122 0 = g 122 0) ∨ (0 ≤ u 122 0 ∧ u 122 0 ≤ 30)) ∧ (u 121 0 = u 121 0)) ∧ (r.toInt = pz_res (pz_Z T N9 (g 118 0)) ∧ u 121 0 = (pz_Z T N9 (g 118 0)).1.2.2.2.2.2 ∧ u 118 0 = (pz_Z T N9 (g 118 0)).1.2.2.2.1)) (okb dC dI dA sz X Γ) (ty_A sz)) ([.ref h0] : List Value).toArray s 0 0 (ty_A sz)) (F0 m 24 ls []) := by
    intro n
    induction n with
    | zero => intro g28 H locs ls hm hi0 hi1 hf29 hq0 hG hS hl; exfalso; omega
    | succ n ih_24 =>
      intro g28 H locs ls hm hi0 hi1 hf29 hq0 hG hS hl
      have hk30 : g28 114 0 = u24 114 0 := hf29 114 0 (by decide) (by decide) (by decide) (by decide) (by decide) (by decide) (by decide) (by decide)
      have hk31 : u24 114 0 = (gs g7 124 0 x13.toInt) 114 0 := hf27 114 0 (by decide) (by decide) (by decide) (by decide)
      have hk31 : u24 114 0 = g7 114 0 := by rw [hk31]; simp [gs]
      refine lv_aload_n hx hb dX9_rules_24 rfl (lv_at hl 0 rfl) ?_
      refine get_X9_19 hx hb hA hown hE hG t_h0 wd_4_149 dX9_rules_25 (fun x32 h33 => ?_)
      refine ty_if_ne (tgt := 45) hx hb dX9_rules_28 (by decide) (fun c35 => ?_) (fun c35 => ?_)
      · skip
        obtain ⟨c9, hc1, hc2, hc3⟩ := hq0
        have hZ9 : (pz_m g28, (c9 : Int)) = pz_Z T N9 (g 118 0) := by rw [← hc2]; exact (pz_L_no (x := pz_m g28) (by first | exact (fun q => absurd q.2 (show ¬ g28 119 0 = 0 by omega)) | exact (fun q => absurd (pz_s0.mpr (show g28 117 0 = 0 by omega)) q.1))).symm
        refine lv_aload_n hx hb dX9_rules_45 rfl (lv_at hl 0 rfl) ?_
        refine ty_iconst hx hb (0) dX9_rules_46 (by decide) (fun x36 h37 => ?_)
        refine put_X9_14 hx hb hA hown hE hG hS hU t_h0 wd_4_144 dX9_rules_47 (fun H locs hG hS => ?_)
        refine lv_aload_n hx hb dX9_rules_50 rfl (lv_at hl 0 rfl) ?_
        refine lv_aload_n hx hb dX9_rules_51 rfl (lv_at hl 0 rfl) ?_
        refine get_X9_19 hx hb hA hown hE hG t_h0 wd_4_149 dX9_rules_52 (fun x38 h39 => ?_)
        replace h39 : x38.toInt = g28 119 0 := by rw [h39]; simp [gs]
        refine ty_if_ne (tgt := 62) hx hb dX9_rules_55 (by decide) (fun c41 => ?_) (fun c41 => ?_)
        · skip
          refine lv_aload_n hx hb dX9_rules_62 rfl (lv_at hl 0 rfl) ?_
          refine get_X9_20 hx hb hA hown hE hG t_h0 wd_4_150 dX9_rules_63 (fun x42 h43 => ?_)
          replace h43 : x42.toInt = g28 120 0 := by rw [h43]; simp [gs]
          refine put_X9_21 hx hb hA hown hE hG hS hU t_h0 wd_4_151 dX9_rules_66 (fun H locs hG hS => ?_)
          refine lv_aload_n hx hb dX9_rules_69 rfl (lv_at hl 0 rfl) ?_
          refine get_X9_19 hx hb hA hown hE hG t_h0 wd_4_149 dX9_rules_70 (fun x45 h46 => ?_)
          replace h46 : x45.toInt = g28 119 0 := by rw [h46]; simp [gs]
          refine ty_if_eq (tgt := 83) hx hb dX9_rules_73 (by decide) (fun c48 => ?_) (fun c48 => ?_)
          · skip
            refine lv_aload_n hx hb dX9_rules_83 rfl (lv_at hl 0 rfl) ?_
            refine lv_aload_n hx hb dX9_rules_84 rfl (lv_at hl 0 rfl) ?_
            refine get_X9_24 hx hb hA hown hE hG t_h0 wd_4_154 dX9_rules_85 (fun x49 h50 => ?_)
            replace h50 : x49.toInt = g28 124 0 := by rw [h50]; simp [gs]
            refine put_X9_22 hx hb hA hown hE hG hS hU t_h0 wd_4_152 dX9_rules_88 (fun H locs hG hS => ?_)
            generalize eg53 : (gs (gs (gs g28 114 0 x36.toInt) 121 0 x42.toInt) 122 0 x49.toInt) = g52 at hG
            have hf54 : ∀ c j : Nat, c ≠ 114 → c ≠ 121 → c ≠ 122 → g52 c j = g28 c j := fun c j h114 h121 h122 => by rw [← eg53, gs_c _ _ _ _ h122, gs_c _ _ _ _ h121, gs_c _ _ _ _ h114]
            have v55 : g52 114 0 = x36.toInt := by rw [← eg53, gs_c _ _ _ _ (by decide), gs_c _ _ _ _ (by decide), gs_self]
            have v56 : g52 121 0 = x42.toInt := by rw [← eg53, gs_c _ _ _ _ (by decide), gs_self]
            have v57 : g52 122 0 = x49.toInt := by rw [← eg53, gs_self]
            refine ty_iconst hx hb (0) dX9_rules_91 (by decide) (fun x58 h59 => ?_)
            refine lv_istore_n (lv' := [(1, .int x58), (0, .ref h0)]) hx hb dX9_rules_92 rfl hl (by decide) rfl (fun ls hl => ?_)
            have L_93 : ∀ (n : Nat) (v1_93 : Int32) (g60 : gh) (H : Heap) (locs : List Loc) (ls : Array Slot), (120 - v1_93.toInt : Int) < n → 0 ≤ v1_93.toInt ∧ v1_93.toInt ≤ 120 → (∀ c j : Nat, c ≠ 123 → g60 c j = g52 c j) → ty_ok (dC, dI) vwCl Γ (TP dA Γ g60) sz X H → va_S (ty_A sz) s.heap H locs → lv_has ls 2 [(1, .int v1_93), (0, .ref h0)] → W p l e (headSpec (.code yX9_rules cX9_rules 2 (Option.some Jvm.ClassFile.FieldType.int) :: AL) ({ frames := 6, cells := 0, slots := 0, locals := 129 })).room s m ([.ref h0] : List Value).toArray below meth c H locs 0 0 (MQ below (va_Qi (fun (r : Int32) (u : gh) => (∀ c j : Nat, c ≠ 100 → c ≠ 114 → c ≠ 115 → c ≠ 116 → c ≠ 117 → c ≠ 118 → c ≠ 119 → c ≠ 120 → c ≠ 121 → c ≠ 122 → c ≠ 123 → c ≠ 124 → c ≠ 125 → u c j = g c j) ∧ ((u 114 0 = 0) ∧ ((u 122 0 = g 122 0) ∨ (0 ≤ u 122 0 ∧ u 122 0 ≤ 30)) ∧ (u 121 0 = u 121 0)) ∧ (r.toInt = pz_res (pz_Z T N9 (g 118 0)) ∧ u 121 0 = (pz_Z T N9 (g 118 0)).1.2.2.2.2.2 ∧ u 118 0 = (pz_Z T N9 (g 118 0)).1.2.2.2.1)) (okb dC dI dA sz X Γ) (ty_A sz)) ([.ref h0] : List Value).toArray s 0 0 (ty_A sz)) (F0 m 93 ls []) := by
              intro n
              induction n with
              | zero => intro v1_93 g60 H locs ls hm hi0 hf61 hG hS hl; exfalso; omega
              | succ n ih_93 =>
                intro v1_93 g60 H locs ls hm hi0 hf61 hG hS hl
                refine lv_iload_n hx hb dX9_rules_93 rfl (lv_at hl 0 rfl) ?_
                refine ty_bipush hx hb (120) dX9_rules_94 (by decide) (fun x62 h63 => ?_)
                refine ty_icmp_ge (tgt := 117) hx hb dX9_rules_96 (by decide) (fun c64 => ?_) (fun c64 => ?_)
                · skip
                  refine lv_aload_n hx hb dX9_rules_117 rfl (lv_at hl 1 rfl) ?_
                  refine get_X9_22 hx hb hA hown hE hG t_h0 wd_4_152 dX9_rules_118 (fun x65 h66 => ?_)
                  have hk68 : g60 122 0 = g52 122 0 := hf61 122 0 (by decide)
                  have hk69 : g60 114 0 = g52 114 0 := hf61 114 0 (by decide)
                  have hk70 : g60 121 0 = g52 121 0 := hf61 121 0 (by decide)
                  exact W.iret (v := x65) hx hb hr (fun t ht hW => ⟨⟨x65, g60, rfl, ⟨(fun c j h100 h114 h115 h116 h117 h118 h119 h120 h121 h122 h123 h124 h125 => by rw [hf61 c j h123, hf54 c j h114 h121 h122, hf29 c j h115 h116 h117 h118 h119 h120 h124 h125, hf27 c j h115 h116 h117 h118, gs_c _ _ _ _ h124, hf9 c j h100 h119 h115]), (by omega), (by rw [← hZ9]; refine ⟨?_, ?_, ?_⟩; (unfold pz_res; show x65.toInt = if g28 119 0 = 0 then (c9 : Int) else -1 - g28 119 0; rw [if_pos (by omega)]; omega); (show g60 121 0 = if g28 119 0 = 0 then (-1 : Int) else g28 120 0; rw [if_pos (by omega)]; omega); (show g60 118 0 = g28 118 0; exact (by rw [hf61 118 0 (by decide), hf54 118 0 (by decide) (by decide) (by decide)])))⟩, ok1 ht hG⟩, hS.F ht⟩) hS.2.2 dX9_rules_121
                · skip
                  refine lv_aload_n hx hb dX9_rules_99 rfl (lv_at hl 1 rfl) ?_
                  refine get_X9_23 hx hb hA hown hE hG t_h0 wd_4_153 dX9_rules_100 (fun b71 (t_b71 : ty Γ b71 123) => ?_)
                  refine lv_iload_n hx hb dX9_rules_103 rfl (lv_at hl 0 rfl) ?_
                  refine lv_aload_n hx hb dX9_rules_104 rfl (lv_at hl 1 rfl) ?_
                  refine get_X9_25 hx hb hA hown hE hG t_h0 wd_4_155 dX9_rules_105 (fun b72 (t_b72 : ty Γ b72 125) => ?_)
                  refine lv_iload_n hx hb dX9_rules_108 rfl (lv_at hl 0 rfl) ?_
                  refine ald_mI hx hb hE hG 25 rfl (n := 120) rfl (lo := -2147483648) (hi := 2147483647) rfl rfl t_b72 (by omega) dX9_rules_109 (fun j74 x73 h75 h76 h77 => ?_)
                  clear h77
                  refine ast_mI hx hb hE hG hS hU 23 rfl (n := 120) rfl (lo := -2147483648) (hi := 2147483647) rfl rfl rfl t_b71 (rgD _) (by omega) dX9_rules_110 (fun H locs hG hS => ?_)
                  obtain ⟨x78, h79⟩ : ∃ y : Int32, y = v1_93 + Int32.ofInt (1) := ⟨_, rfl⟩
                  try have h80 : x78.toInt = v1_93.toInt + (1) := ty_inc h79 (by decide) (by omega) (by omega)
                  refine lv_iinc (v := x78) (lv' := [(1, .int x78), (0, .ref h0)]) hx hb dX9_rules_111 hl (k := 0) rfl h79.symm (by decide) rfl (fun ls hl => ?_)
                  refine lv_goto (tgt := 93) hx hb dX9_rules_114 (by decide) ?_
                  exact ih_93 x78 (gs g60 123 v1_93.toInt.toNat x73.toInt) _ _ ls (by omega) (by omega) (fun c j h123 => by rw [gs_c _ _ _ _ h123, hf61 c j h123]) hG hS (lv_sub hl [0, 1] rfl)
            exact L_93 ((120 - x58.toInt) + 1).toNat x58 g52 _ _ ls (by omega) (by omega) (fun c j _ => rfl) hG hS (lv_sub hl [0, 1] rfl)
          · skip
            refine ty_iconst hx hb (-1) dX9_rules_76 (by decide) (fun x81 h82 => ?_)
            refine lv_aload_n hx hb dX9_rules_77 rfl (lv_at hl 0 rfl) ?_
            refine get_X9_19 hx hb hA hown hE hG t_h0 wd_4_149 dX9_rules_78 (fun x83 h84 => ?_)
            replace h84 : x83.toInt = g28 119 0 := by rw [h84]; simp [gs]
            refine ty_isub hx hb dX9_rules_81 (fun x86 h87 => ?_)
            try have h88 : x86.toInt = x81.toInt - x83.toInt := ty_sub h87 (by omega) (by omega)
            have e89 : (gs (gs g28 114 0 x36.toInt) 121 0 x42.toInt) 114 0 = x36.toInt := by simp [gs]
            have e90 : (gs (gs g28 114 0 x36.toInt) 121 0 x42.toInt) 121 0 = x42.toInt := by simp [gs]
            have hk91 : g28 122 0 = u24 122 0 := hf29 122 0 (by decide) (by decide) (by decide) (by decide) (by decide) (by decide) (by decide) (by decide)
            have hk92 : u24 122 0 = (gs g7 124 0 x13.toInt) 122 0 := hf27 122 0 (by decide) (by decide) (by decide) (by decide)
            have hk92 : u24 122 0 = g7 122 0 := by rw [hk92]; simp [gs]
            have hk93 : g7 122 0 = g 122 0 := hf9 122 0 (by decide) (by decide) (by decide)
            have e94 : (gs (gs g28 114 0 x36.toInt) 121 0 x42.toInt) 122 0 = g28 122 0 := by simp [gs]
            exact W.iret (v := x86) hx hb hr (fun t ht hW => ⟨⟨x86, (gs (gs g28 114 0 x36.toInt) 121 0 x42.toInt), rfl, ⟨(fun c j h100 h114 h115 h116 h117 h118 h119 h120 h121 h122 h123 h124 h125 => by rw [gs_c _ _ _ _ h121, gs_c _ _ _ _ h114, hf29 c j h115 h116 h117 h118 h119 h120 h124 h125, hf27 c j h115 h116 h117 h118, gs_c _ _ _ _ h124, hf9 c j h100 h119 h115]), (by omega), (by rw [← hZ9]; refine ⟨?_, ?_, ?_⟩; (unfold pz_res; show x86.toInt = if g28 119 0 = 0 then (c9 : Int) else -1 - g28 119 0; rw [if_neg (by omega)]; omega); (show (gs (gs g28 114 0 x36.toInt) 121 0 x42.toInt) 121 0 = if g28 119 0 = 0 then (-1 : Int) else g28 120 0; rw [if_neg (by omega)]; omega); (show (gs (gs g28 114 0 x36.toInt) 121 0 x42.toInt) 118 0 = g28 118 0; exact (by rw [gs_c _ _ _ _ (by decide), gs_c _ _ _ _ (by decide)])))⟩, ok1 ht hG⟩, hS.F ht⟩) hS.2.2 dX9_rules_82
        · skip
          refine ty_iconst hx hb (-1) dX9_rules_58 (by decide) (fun x95 h96 => ?_)
          refine lv_goto (tgt := 66) hx hb dX9_rules_59 (by decide) ?_
          refine put_X9_21 hx hb hA hown hE hG hS hU t_h0 wd_4_151 dX9_rules_66 (fun H locs hG hS => ?_)
          refine lv_aload_n hx hb dX9_rules_69 rfl (lv_at hl 0 rfl) ?_
          refine get_X9_19 hx hb hA hown hE hG t_h0 wd_4_149 dX9_rules_70 (fun x97 h98 => ?_)
          replace h98 : x97.toInt = g28 119 0 := by rw [h98]; simp [gs]
          refine ty_if_eq (tgt := 83) hx hb dX9_rules_73 (by decide) (fun c100 => ?_) (fun c100 => ?_)
          · skip
            refine lv_aload_n hx hb dX9_rules_83 rfl (lv_at hl 0 rfl) ?_
            refine lv_aload_n hx hb dX9_rules_84 rfl (lv_at hl 0 rfl) ?_
            refine get_X9_24 hx hb hA hown hE hG t_h0 wd_4_154 dX9_rules_85 (fun x101 h102 => ?_)
            replace h102 : x101.toInt = g28 124 0 := by rw [h102]; simp [gs]
            refine put_X9_22 hx hb hA hown hE hG hS hU t_h0 wd_4_152 dX9_rules_88 (fun H locs hG hS => ?_)
            generalize eg105 : (gs (gs (gs g28 114 0 x36.toInt) 121 0 x95.toInt) 122 0 x101.toInt) = g104 at hG
            have hf106 : ∀ c j : Nat, c ≠ 114 → c ≠ 121 → c ≠ 122 → g104 c j = g28 c j := fun c j h114 h121 h122 => by rw [← eg105, gs_c _ _ _ _ h122, gs_c _ _ _ _ h121, gs_c _ _ _ _ h114]
            have v107 : g104 114 0 = x36.toInt := by rw [← eg105, gs_c _ _ _ _ (by decide), gs_c _ _ _ _ (by decide), gs_self]
            have v108 : g104 121 0 = x95.toInt := by rw [← eg105, gs_c _ _ _ _ (by decide), gs_self]
            have v109 : g104 122 0 = x101.toInt := by rw [← eg105, gs_self]
            refine ty_iconst hx hb (0) dX9_rules_91 (by decide) (fun x110 h111 => ?_)
            refine lv_istore_n (lv' := [(1, .int x110), (0, .ref h0)]) hx hb dX9_rules_92 rfl hl (by decide) rfl (fun ls hl => ?_)
            have L_93 : ∀ (n : Nat) (v1_93 : Int32) (g112 : gh) (H : Heap) (locs : List Loc) (ls : Array Slot), (120 - v1_93.toInt : Int) < n → 0 ≤ v1_93.toInt ∧ v1_93.toInt ≤ 120 → (∀ c j : Nat, c ≠ 123 → g112 c j = g104 c j) → ty_ok (dC, dI) vwCl Γ (TP dA Γ g112) sz X H → va_S (ty_A sz) s.heap H locs → lv_has ls 2 [(1, .int v1_93), (0, .ref h0)] → W p l e (headSpec (.code yX9_rules cX9_rules 2 (Option.some Jvm.ClassFile.FieldType.int) :: AL) ({ frames := 6, cells := 0, slots := 0, locals := 129 })).room s m ([.ref h0] : List Value).toArray below meth c H locs 0 0 (MQ below (va_Qi (fun (r : Int32) (u : gh) => (∀ c j : Nat, c ≠ 100 → c ≠ 114 → c ≠ 115 → c ≠ 116 → c ≠ 117 → c ≠ 118 → c ≠ 119 → c ≠ 120 → c ≠ 121 → c ≠ 122 → c ≠ 123 → c ≠ 124 → c ≠ 125 → u c j = g c j) ∧ ((u 114 0 = 0) ∧ ((u 122 0 = g 122 0) ∨ (0 ≤ u 122 0 ∧ u 122 0 ≤ 30)) ∧ (u 121 0 = u 121 0)) ∧ (r.toInt = pz_res (pz_Z T N9 (g 118 0)) ∧ u 121 0 = (pz_Z T N9 (g 118 0)).1.2.2.2.2.2 ∧ u 118 0 = (pz_Z T N9 (g 118 0)).1.2.2.2.1)) (okb dC dI dA sz X Γ) (ty_A sz)) ([.ref h0] : List Value).toArray s 0 0 (ty_A sz)) (F0 m 93 ls []) := by
              intro n
              induction n with
              | zero => intro v1_93 g112 H locs ls hm hi0 hf113 hG hS hl; exfalso; omega
              | succ n ih_93 =>
                intro v1_93 g112 H locs ls hm hi0 hf113 hG hS hl
                refine lv_iload_n hx hb dX9_rules_93 rfl (lv_at hl 0 rfl) ?_
                refine ty_bipush hx hb (120) dX9_rules_94 (by decide) (fun x114 h115 => ?_)
                refine ty_icmp_ge (tgt := 117) hx hb dX9_rules_96 (by decide) (fun c116 => ?_) (fun c116 => ?_)
                · skip
                  refine lv_aload_n hx hb dX9_rules_117 rfl (lv_at hl 1 rfl) ?_
                  refine get_X9_22 hx hb hA hown hE hG t_h0 wd_4_152 dX9_rules_118 (fun x117 h118 => ?_)
                  have hk120 : g112 122 0 = g104 122 0 := hf113 122 0 (by decide)
                  have hk121 : g112 114 0 = g104 114 0 := hf113 114 0 (by decide)
                  have hk122 : g112 121 0 = g104 121 0 := hf113 121 0 (by decide)
                  exact W.iret (v := x117) hx hb hr (fun t ht hW => ⟨⟨x117, g112, rfl, ⟨(fun c j h100 h114 h115 h116 h117 h118 h119 h120 h121 h122 h123 h124 h125 => by rw [hf113 c j h123, hf106 c j h114 h121 h122, hf29 c j h115 h116 h117 h118 h119 h120 h124 h125, hf27 c j h115 h116 h117 h118, gs_c _ _ _ _ h124, hf9 c j h100 h119 h115]), (by omega), (by rw [← hZ9]; refine ⟨?_, ?_, ?_⟩; (unfold pz_res; show x117.toInt = if g28 119 0 = 0 then (c9 : Int) else -1 - g28 119 0; rw [if_pos (by omega)]; omega); (show g112 121 0 = if g28 119 0 = 0 then (-1 : Int) else g28 120 0; rw [if_pos (by omega)]; omega); (show g112 118 0 = g28 118 0; exact (by rw [hf113 118 0 (by decide), hf106 118 0 (by decide) (by decide) (by decide)])))⟩, ok1 ht hG⟩, hS.F ht⟩) hS.2.2 dX9_rules_121
                · skip
                  refine lv_aload_n hx hb dX9_rules_99 rfl (lv_at hl 1 rfl) ?_
                  refine get_X9_23 hx hb hA hown hE hG t_h0 wd_4_153 dX9_rules_100 (fun b123 (t_b123 : ty Γ b123 123) => ?_)
                  refine lv_iload_n hx hb dX9_rules_103 rfl (lv_at hl 0 rfl) ?_
                  refine lv_aload_n hx hb dX9_rules_104 rfl (lv_at hl 1 rfl) ?_
                  refine get_X9_25 hx hb hA hown hE hG t_h0 wd_4_155 dX9_rules_105 (fun b124 (t_b124 : ty Γ b124 125) => ?_)
                  refine lv_iload_n hx hb dX9_rules_108 rfl (lv_at hl 0 rfl) ?_
                  refine ald_mI hx hb hE hG 25 rfl (n := 120) rfl (lo := -2147483648) (hi := 2147483647) rfl rfl t_b124 (by omega) dX9_rules_109 (fun j126 x125 h127 h128 h129 => ?_)
                  clear h129
                  refine ast_mI hx hb hE hG hS hU 23 rfl (n := 120) rfl (lo := -2147483648) (hi := 2147483647) rfl rfl rfl t_b123 (rgD _) (by omega) dX9_rules_110 (fun H locs hG hS => ?_)
                  obtain ⟨x130, h131⟩ : ∃ y : Int32, y = v1_93 + Int32.ofInt (1) := ⟨_, rfl⟩
                  try have h132 : x130.toInt = v1_93.toInt + (1) := ty_inc h131 (by decide) (by omega) (by omega)
                  refine lv_iinc (v := x130) (lv' := [(1, .int x130), (0, .ref h0)]) hx hb dX9_rules_111 hl (k := 0) rfl h131.symm (by decide) rfl (fun ls hl => ?_)
                  refine lv_goto (tgt := 93) hx hb dX9_rules_114 (by decide) ?_
                  exact ih_93 x130 (gs g112 123 v1_93.toInt.toNat x125.toInt) _ _ ls (by omega) (by omega) (fun c j h123 => by rw [gs_c _ _ _ _ h123, hf113 c j h123]) hG hS (lv_sub hl [0, 1] rfl)
            exact L_93 ((120 - x110.toInt) + 1).toNat x110 g104 _ _ ls (by omega) (by omega) (fun c j _ => rfl) hG hS (lv_sub hl [0, 1] rfl)
          · skip
            refine ty_iconst hx hb (-1) dX9_rules_76 (by decide) (fun x133 h134 => ?_)
            refine lv_aload_n hx hb dX9_rules_77 rfl (lv_at hl 0 rfl) ?_
            refine get_X9_19 hx hb hA hown hE hG t_h0 wd_4_149 dX9_rules_78 (fun x135 h136 => ?_)
            replace h136 : x135.toInt = g28 119 0 := by rw [h136]; simp [gs]
            refine ty_isub hx hb dX9_rules_81 (fun x138 h139 => ?_)
            try have h140 : x138.toInt = x133.toInt - x135.toInt := ty_sub h139 (by omega) (by omega)
            have e141 : (gs (gs g28 114 0 x36.toInt) 121 0 x95.toInt) 114 0 = x36.toInt := by simp [gs]
            have e142 : (gs (gs g28 114 0 x36.toInt) 121 0 x95.toInt) 121 0 = x95.toInt := by simp [gs]
            have hk143 : g28 122 0 = u24 122 0 := hf29 122 0 (by decide) (by decide) (by decide) (by decide) (by decide) (by decide) (by decide) (by decide)
            have hk144 : u24 122 0 = (gs g7 124 0 x13.toInt) 122 0 := hf27 122 0 (by decide) (by decide) (by decide) (by decide)
            have hk144 : u24 122 0 = g7 122 0 := by rw [hk144]; simp [gs]
            have hk145 : g7 122 0 = g 122 0 := hf9 122 0 (by decide) (by decide) (by decide)
            have e146 : (gs (gs g28 114 0 x36.toInt) 121 0 x95.toInt) 122 0 = g28 122 0 := by simp [gs]
            exact W.iret (v := x138) hx hb hr (fun t ht hW => ⟨⟨x138, (gs (gs g28 114 0 x36.toInt) 121 0 x95.toInt), rfl, ⟨(fun c j h100 h114 h115 h116 h117 h118 h119 h120 h121 h122 h123 h124 h125 => by rw [gs_c _ _ _ _ h121, gs_c _ _ _ _ h114, hf29 c j h115 h116 h117 h118 h119 h120 h124 h125, hf27 c j h115 h116 h117 h118, gs_c _ _ _ _ h124, hf9 c j h100 h119 h115]), (by omega), (by rw [← hZ9]; refine ⟨?_, ?_, ?_⟩; (unfold pz_res; show x138.toInt = if g28 119 0 = 0 then (c9 : Int) else -1 - g28 119 0; rw [if_neg (by omega)]; omega); (show (gs (gs g28 114 0 x36.toInt) 121 0 x95.toInt) 121 0 = if g28 119 0 = 0 then (-1 : Int) else g28 120 0; rw [if_neg (by omega)]; omega); (show (gs (gs g28 114 0 x36.toInt) 121 0 x95.toInt) 118 0 = g28 118 0; exact (by rw [gs_c _ _ _ _ (by decide), gs_c _ _ _ _ (by decide)])))⟩, ok1 ht hG⟩, hS.F ht⟩) hS.2.2 dX9_rules_82
      · skip
        refine lv_aload_n hx hb dX9_rules_31 rfl (lv_at hl 0 rfl) ?_
        refine get_X9_17 hx hb hA hown hE hG t_h0 wd_4_147 dX9_rules_32 (fun x147 h148 => ?_)
        refine ty_if_eq (tgt := 45) hx hb dX9_rules_35 (by decide) (fun c150 => ?_) (fun c150 => ?_)
        · skip
          obtain ⟨c9, hc1, hc2, hc3⟩ := hq0
          have hZ9 : (pz_m g28, (c9 : Int)) = pz_Z T N9 (g 118 0) := by rw [← hc2]; exact (pz_L_no (x := pz_m g28) (by first | exact (fun q => absurd q.2 (show ¬ g28 119 0 = 0 by omega)) | exact (fun q => absurd (pz_s0.mpr (show g28 117 0 = 0 by omega)) q.1))).symm
          refine lv_aload_n hx hb dX9_rules_45 rfl (lv_at hl 0 rfl) ?_
          refine ty_iconst hx hb (0) dX9_rules_46 (by decide) (fun x151 h152 => ?_)
          refine put_X9_14 hx hb hA hown hE hG hS hU t_h0 wd_4_144 dX9_rules_47 (fun H locs hG hS => ?_)
          refine lv_aload_n hx hb dX9_rules_50 rfl (lv_at hl 0 rfl) ?_
          refine lv_aload_n hx hb dX9_rules_51 rfl (lv_at hl 0 rfl) ?_
          refine get_X9_19 hx hb hA hown hE hG t_h0 wd_4_149 dX9_rules_52 (fun x153 h154 => ?_)
          replace h154 : x153.toInt = g28 119 0 := by rw [h154]; simp [gs]
          refine ty_if_ne (tgt := 62) hx hb dX9_rules_55 (by decide) (fun c156 => ?_) (fun c156 => ?_)
          · skip
            refine lv_aload_n hx hb dX9_rules_62 rfl (lv_at hl 0 rfl) ?_
            refine get_X9_20 hx hb hA hown hE hG t_h0 wd_4_150 dX9_rules_63 (fun x157 h158 => ?_)
            replace h158 : x157.toInt = g28 120 0 := by rw [h158]; simp [gs]
            refine put_X9_21 hx hb hA hown hE hG hS hU t_h0 wd_4_151 dX9_rules_66 (fun H locs hG hS => ?_)
            refine lv_aload_n hx hb dX9_rules_69 rfl (lv_at hl 0 rfl) ?_
            refine get_X9_19 hx hb hA hown hE hG t_h0 wd_4_149 dX9_rules_70 (fun x160 h161 => ?_)
            replace h161 : x160.toInt = g28 119 0 := by rw [h161]; simp [gs]
            refine ty_if_eq (tgt := 83) hx hb dX9_rules_73 (by decide) (fun c163 => ?_) (fun c163 => ?_)
            · skip
              refine lv_aload_n hx hb dX9_rules_83 rfl (lv_at hl 0 rfl) ?_
              refine lv_aload_n hx hb dX9_rules_84 rfl (lv_at hl 0 rfl) ?_
              refine get_X9_24 hx hb hA hown hE hG t_h0 wd_4_154 dX9_rules_85 (fun x164 h165 => ?_)
              replace h165 : x164.toInt = g28 124 0 := by rw [h165]; simp [gs]
              refine put_X9_22 hx hb hA hown hE hG hS hU t_h0 wd_4_152 dX9_rules_88 (fun H locs hG hS => ?_)
              generalize eg168 : (gs (gs (gs g28 114 0 x151.toInt) 121 0 x157.toInt) 122 0 x164.toInt) = g167 at hG
              have hf169 : ∀ c j : Nat, c ≠ 114 → c ≠ 121 → c ≠ 122 → g167 c j = g28 c j := fun c j h114 h121 h122 => by rw [← eg168, gs_c _ _ _ _ h122, gs_c _ _ _ _ h121, gs_c _ _ _ _ h114]
              have v170 : g167 114 0 = x151.toInt := by rw [← eg168, gs_c _ _ _ _ (by decide), gs_c _ _ _ _ (by decide), gs_self]
              have v171 : g167 121 0 = x157.toInt := by rw [← eg168, gs_c _ _ _ _ (by decide), gs_self]
              have v172 : g167 122 0 = x164.toInt := by rw [← eg168, gs_self]
              refine ty_iconst hx hb (0) dX9_rules_91 (by decide) (fun x173 h174 => ?_)
              refine lv_istore_n (lv' := [(1, .int x173), (0, .ref h0)]) hx hb dX9_rules_92 rfl hl (by decide) rfl (fun ls hl => ?_)
              have L_93 : ∀ (n : Nat) (v1_93 : Int32) (g175 : gh) (H : Heap) (locs : List Loc) (ls : Array Slot), (120 - v1_93.toInt : Int) < n → 0 ≤ v1_93.toInt ∧ v1_93.toInt ≤ 120 → (∀ c j : Nat, c ≠ 123 → g175 c j = g167 c j) → ty_ok (dC, dI) vwCl Γ (TP dA Γ g175) sz X H → va_S (ty_A sz) s.heap H locs → lv_has ls 2 [(1, .int v1_93), (0, .ref h0)] → W p l e (headSpec (.code yX9_rules cX9_rules 2 (Option.some Jvm.ClassFile.FieldType.int) :: AL) ({ frames := 6, cells := 0, slots := 0, locals := 129 })).room s m ([.ref h0] : List Value).toArray below meth c H locs 0 0 (MQ below (va_Qi (fun (r : Int32) (u : gh) => (∀ c j : Nat, c ≠ 100 → c ≠ 114 → c ≠ 115 → c ≠ 116 → c ≠ 117 → c ≠ 118 → c ≠ 119 → c ≠ 120 → c ≠ 121 → c ≠ 122 → c ≠ 123 → c ≠ 124 → c ≠ 125 → u c j = g c j) ∧ ((u 114 0 = 0) ∧ ((u 122 0 = g 122 0) ∨ (0 ≤ u 122 0 ∧ u 122 0 ≤ 30)) ∧ (u 121 0 = u 121 0)) ∧ (r.toInt = pz_res (pz_Z T N9 (g 118 0)) ∧ u 121 0 = (pz_Z T N9 (g 118 0)).1.2.2.2.2.2 ∧ u 118 0 = (pz_Z T N9 (g 118 0)).1.2.2.2.1)) (okb dC dI dA sz X Γ) (ty_A sz)) ([.ref h0] : List Value).toArray s 0 0 (ty_A sz)) (F0 m 93 ls []) := by
                intro n
                induction n with
                | zero => intro v1_93 g175 H locs ls hm hi0 hf176 hG hS hl; exfalso; omega
                | succ n ih_93 =>
                  intro v1_93 g175 H locs ls hm hi0 hf176 hG hS hl
                  refine lv_iload_n hx hb dX9_rules_93 rfl (lv_at hl 0 rfl) ?_
                  refine ty_bipush hx hb (120) dX9_rules_94 (by decide) (fun x177 h178 => ?_)
                  refine ty_icmp_ge (tgt := 117) hx hb dX9_rules_96 (by decide) (fun c179 => ?_) (fun c179 => ?_)
                  · skip
                    refine lv_aload_n hx hb dX9_rules_117 rfl (lv_at hl 1 rfl) ?_
                    refine get_X9_22 hx hb hA hown hE hG t_h0 wd_4_152 dX9_rules_118 (fun x180 h181 => ?_)
                    have hk183 : g175 122 0 = g167 122 0 := hf176 122 0 (by decide)
                    have hk184 : g175 114 0 = g167 114 0 := hf176 114 0 (by decide)
                    have hk185 : g175 121 0 = g167 121 0 := hf176 121 0 (by decide)
                    exact W.iret (v := x180) hx hb hr (fun t ht hW => ⟨⟨x180, g175, rfl, ⟨(fun c j h100 h114 h115 h116 h117 h118 h119 h120 h121 h122 h123 h124 h125 => by rw [hf176 c j h123, hf169 c j h114 h121 h122, hf29 c j h115 h116 h117 h118 h119 h120 h124 h125, hf27 c j h115 h116 h117 h118, gs_c _ _ _ _ h124, hf9 c j h100 h119 h115]), (by omega), (by rw [← hZ9]; refine ⟨?_, ?_, ?_⟩; (unfold pz_res; show x180.toInt = if g28 119 0 = 0 then (c9 : Int) else -1 - g28 119 0; rw [if_pos (by omega)]; omega); (show g175 121 0 = if g28 119 0 = 0 then (-1 : Int) else g28 120 0; rw [if_pos (by omega)]; omega); (show g175 118 0 = g28 118 0; exact (by rw [hf176 118 0 (by decide), hf169 118 0 (by decide) (by decide) (by decide)])))⟩, ok1 ht hG⟩, hS.F ht⟩) hS.2.2 dX9_rules_121
                  · skip
                    refine lv_aload_n hx hb dX9_rules_99 rfl (lv_at hl 1 rfl) ?_
                    refine get_X9_23 hx hb hA hown hE hG t_h0 wd_4_153 dX9_rules_100 (fun b186 (t_b186 : ty Γ b186 123) => ?_)
                    refine lv_iload_n hx hb dX9_rules_103 rfl (lv_at hl 0 rfl) ?_
                    refine lv_aload_n hx hb dX9_rules_104 rfl (lv_at hl 1 rfl) ?_
                    refine get_X9_25 hx hb hA hown hE hG t_h0 wd_4_155 dX9_rules_105 (fun b187 (t_b187 : ty Γ b187 125) => ?_)
                    refine lv_iload_n hx hb dX9_rules_108 rfl (lv_at hl 0 rfl) ?_
                    refine ald_mI hx hb hE hG 25 rfl (n := 120) rfl (lo := -2147483648) (hi := 2147483647) rfl rfl t_b187 (by omega) dX9_rules_109 (fun j189 x188 h190 h191 h192 => ?_)
                    clear h192
                    refine ast_mI hx hb hE hG hS hU 23 rfl (n := 120) rfl (lo := -2147483648) (hi := 2147483647) rfl rfl rfl t_b186 (rgD _) (by omega) dX9_rules_110 (fun H locs hG hS => ?_)
                    obtain ⟨x193, h194⟩ : ∃ y : Int32, y = v1_93 + Int32.ofInt (1) := ⟨_, rfl⟩
                    try have h195 : x193.toInt = v1_93.toInt + (1) := ty_inc h194 (by decide) (by omega) (by omega)
                    refine lv_iinc (v := x193) (lv' := [(1, .int x193), (0, .ref h0)]) hx hb dX9_rules_111 hl (k := 0) rfl h194.symm (by decide) rfl (fun ls hl => ?_)
                    refine lv_goto (tgt := 93) hx hb dX9_rules_114 (by decide) ?_
                    exact ih_93 x193 (gs g175 123 v1_93.toInt.toNat x188.toInt) _ _ ls (by omega) (by omega) (fun c j h123 => by rw [gs_c _ _ _ _ h123, hf176 c j h123]) hG hS (lv_sub hl [0, 1] rfl)
              exact L_93 ((120 - x173.toInt) + 1).toNat x173 g167 _ _ ls (by omega) (by omega) (fun c j _ => rfl) hG hS (lv_sub hl [0, 1] rfl)
            · skip
              refine ty_iconst hx hb (-1) dX9_rules_76 (by decide) (fun x196 h197 => ?_)
              refine lv_aload_n hx hb dX9_rules_77 rfl (lv_at hl 0 rfl) ?_
              refine get_X9_19 hx hb hA hown hE hG t_h0 wd_4_149 dX9_rules_78 (fun x198 h199 => ?_)
              replace h199 : x198.toInt = g28 119 0 := by rw [h199]; simp [gs]
              refine ty_isub hx hb dX9_rules_81 (fun x201 h202 => ?_)
              try have h203 : x201.toInt = x196.toInt - x198.toInt := ty_sub h202 (by omega) (by omega)
              have e204 : (gs (gs g28 114 0 x151.toInt) 121 0 x157.toInt) 114 0 = x151.toInt := by simp [gs]
              have e205 : (gs (gs g28 114 0 x151.toInt) 121 0 x157.toInt) 121 0 = x157.toInt := by simp [gs]
              have hk206 : g28 122 0 = u24 122 0 := hf29 122 0 (by decide) (by decide) (by decide) (by decide) (by decide) (by decide) (by decide) (by decide)
              have hk207 : u24 122 0 = (gs g7 124 0 x13.toInt) 122 0 := hf27 122 0 (by decide) (by decide) (by decide) (by decide)
              have hk207 : u24 122 0 = g7 122 0 := by rw [hk207]; simp [gs]
              have hk208 : g7 122 0 = g 122 0 := hf9 122 0 (by decide) (by decide) (by decide)
              have e209 : (gs (gs g28 114 0 x151.toInt) 121 0 x157.toInt) 122 0 = g28 122 0 := by simp [gs]
              exact W.iret (v := x201) hx hb hr (fun t ht hW => ⟨⟨x201, (gs (gs g28 114 0 x151.toInt) 121 0 x157.toInt), rfl, ⟨(fun c j h100 h114 h115 h116 h117 h118 h119 h120 h121 h122 h123 h124 h125 => by rw [gs_c _ _ _ _ h121, gs_c _ _ _ _ h114, hf29 c j h115 h116 h117 h118 h119 h120 h124 h125, hf27 c j h115 h116 h117 h118, gs_c _ _ _ _ h124, hf9 c j h100 h119 h115]), (by omega), (by rw [← hZ9]; refine ⟨?_, ?_, ?_⟩; (unfold pz_res; show x201.toInt = if g28 119 0 = 0 then (c9 : Int) else -1 - g28 119 0; rw [if_neg (by omega)]; omega); (show (gs (gs g28 114 0 x151.toInt) 121 0 x157.toInt) 121 0 = if g28 119 0 = 0 then (-1 : Int) else g28 120 0; rw [if_neg (by omega)]; omega); (show (gs (gs g28 114 0 x151.toInt) 121 0 x157.toInt) 118 0 = g28 118 0; exact (by rw [gs_c _ _ _ _ (by decide), gs_c _ _ _ _ (by decide)])))⟩, ok1 ht hG⟩, hS.F ht⟩) hS.2.2 dX9_rules_82
          · skip
            refine ty_iconst hx hb (-1) dX9_rules_58 (by decide) (fun x210 h211 => ?_)
            refine lv_goto (tgt := 66) hx hb dX9_rules_59 (by decide) ?_
            refine put_X9_21 hx hb hA hown hE hG hS hU t_h0 wd_4_151 dX9_rules_66 (fun H locs hG hS => ?_)
            refine lv_aload_n hx hb dX9_rules_69 rfl (lv_at hl 0 rfl) ?_
            refine get_X9_19 hx hb hA hown hE hG t_h0 wd_4_149 dX9_rules_70 (fun x212 h213 => ?_)
            replace h213 : x212.toInt = g28 119 0 := by rw [h213]; simp [gs]
            refine ty_if_eq (tgt := 83) hx hb dX9_rules_73 (by decide) (fun c215 => ?_) (fun c215 => ?_)
            · skip
              refine lv_aload_n hx hb dX9_rules_83 rfl (lv_at hl 0 rfl) ?_
              refine lv_aload_n hx hb dX9_rules_84 rfl (lv_at hl 0 rfl) ?_
              refine get_X9_24 hx hb hA hown hE hG t_h0 wd_4_154 dX9_rules_85 (fun x216 h217 => ?_)
              replace h217 : x216.toInt = g28 124 0 := by rw [h217]; simp [gs]
              refine put_X9_22 hx hb hA hown hE hG hS hU t_h0 wd_4_152 dX9_rules_88 (fun H locs hG hS => ?_)
              generalize eg220 : (gs (gs (gs g28 114 0 x151.toInt) 121 0 x210.toInt) 122 0 x216.toInt) = g219 at hG
              have hf221 : ∀ c j : Nat, c ≠ 114 → c ≠ 121 → c ≠ 122 → g219 c j = g28 c j := fun c j h114 h121 h122 => by rw [← eg220, gs_c _ _ _ _ h122, gs_c _ _ _ _ h121, gs_c _ _ _ _ h114]
              have v222 : g219 114 0 = x151.toInt := by rw [← eg220, gs_c _ _ _ _ (by decide), gs_c _ _ _ _ (by decide), gs_self]
              have v223 : g219 121 0 = x210.toInt := by rw [← eg220, gs_c _ _ _ _ (by decide), gs_self]
              have v224 : g219 122 0 = x216.toInt := by rw [← eg220, gs_self]
              refine ty_iconst hx hb (0) dX9_rules_91 (by decide) (fun x225 h226 => ?_)
              refine lv_istore_n (lv' := [(1, .int x225), (0, .ref h0)]) hx hb dX9_rules_92 rfl hl (by decide) rfl (fun ls hl => ?_)
              have L_93 : ∀ (n : Nat) (v1_93 : Int32) (g227 : gh) (H : Heap) (locs : List Loc) (ls : Array Slot), (120 - v1_93.toInt : Int) < n → 0 ≤ v1_93.toInt ∧ v1_93.toInt ≤ 120 → (∀ c j : Nat, c ≠ 123 → g227 c j = g219 c j) → ty_ok (dC, dI) vwCl Γ (TP dA Γ g227) sz X H → va_S (ty_A sz) s.heap H locs → lv_has ls 2 [(1, .int v1_93), (0, .ref h0)] → W p l e (headSpec (.code yX9_rules cX9_rules 2 (Option.some Jvm.ClassFile.FieldType.int) :: AL) ({ frames := 6, cells := 0, slots := 0, locals := 129 })).room s m ([.ref h0] : List Value).toArray below meth c H locs 0 0 (MQ below (va_Qi (fun (r : Int32) (u : gh) => (∀ c j : Nat, c ≠ 100 → c ≠ 114 → c ≠ 115 → c ≠ 116 → c ≠ 117 → c ≠ 118 → c ≠ 119 → c ≠ 120 → c ≠ 121 → c ≠ 122 → c ≠ 123 → c ≠ 124 → c ≠ 125 → u c j = g c j) ∧ ((u 114 0 = 0) ∧ ((u 122 0 = g 122 0) ∨ (0 ≤ u 122 0 ∧ u 122 0 ≤ 30)) ∧ (u 121 0 = u 121 0)) ∧ (r.toInt = pz_res (pz_Z T N9 (g 118 0)) ∧ u 121 0 = (pz_Z T N9 (g 118 0)).1.2.2.2.2.2 ∧ u 118 0 = (pz_Z T N9 (g 118 0)).1.2.2.2.1)) (okb dC dI dA sz X Γ) (ty_A sz)) ([.ref h0] : List Value).toArray s 0 0 (ty_A sz)) (F0 m 93 ls []) := by
                intro n
                induction n with
                | zero => intro v1_93 g227 H locs ls hm hi0 hf228 hG hS hl; exfalso; omega
                | succ n ih_93 =>
                  intro v1_93 g227 H locs ls hm hi0 hf228 hG hS hl
                  refine lv_iload_n hx hb dX9_rules_93 rfl (lv_at hl 0 rfl) ?_
                  refine ty_bipush hx hb (120) dX9_rules_94 (by decide) (fun x229 h230 => ?_)
                  refine ty_icmp_ge (tgt := 117) hx hb dX9_rules_96 (by decide) (fun c231 => ?_) (fun c231 => ?_)
                  · skip
                    refine lv_aload_n hx hb dX9_rules_117 rfl (lv_at hl 1 rfl) ?_
                    refine get_X9_22 hx hb hA hown hE hG t_h0 wd_4_152 dX9_rules_118 (fun x232 h233 => ?_)
                    have hk235 : g227 122 0 = g219 122 0 := hf228 122 0 (by decide)
                    have hk236 : g227 114 0 = g219 114 0 := hf228 114 0 (by decide)
                    have hk237 : g227 121 0 = g219 121 0 := hf228 121 0 (by decide)
                    exact W.iret (v := x232) hx hb hr (fun t ht hW => ⟨⟨x232, g227, rfl, ⟨(fun c j h100 h114 h115 h116 h117 h118 h119 h120 h121 h122 h123 h124 h125 => by rw [hf228 c j h123, hf221 c j h114 h121 h122, hf29 c j h115 h116 h117 h118 h119 h120 h124 h125, hf27 c j h115 h116 h117 h118, gs_c _ _ _ _ h124, hf9 c j h100 h119 h115]), (by omega), (by rw [← hZ9]; refine ⟨?_, ?_, ?_⟩; (unfold pz_res; show x232.toInt = if g28 119 0 = 0 then (c9 : Int) else -1 - g28 119 0; rw [if_pos (by omega)]; omega); (show g227 121 0 = if g28 119 0 = 0 then (-1 : Int) else g28 120 0; rw [if_pos (by omega)]; omega); (show g227 118 0 = g28 118 0; exact (by rw [hf228 118 0 (by decide), hf221 118 0 (by decide) (by decide) (by decide)])))⟩, ok1 ht hG⟩, hS.F ht⟩) hS.2.2 dX9_rules_121
                  · skip
                    refine lv_aload_n hx hb dX9_rules_99 rfl (lv_at hl 1 rfl) ?_
                    refine get_X9_23 hx hb hA hown hE hG t_h0 wd_4_153 dX9_rules_100 (fun b238 (t_b238 : ty Γ b238 123) => ?_)
                    refine lv_iload_n hx hb dX9_rules_103 rfl (lv_at hl 0 rfl) ?_
                    refine lv_aload_n hx hb dX9_rules_104 rfl (lv_at hl 1 rfl) ?_
                    refine get_X9_25 hx hb hA hown hE hG t_h0 wd_4_155 dX9_rules_105 (fun b239 (t_b239 : ty Γ b239 125) => ?_)
                    refine lv_iload_n hx hb dX9_rules_108 rfl (lv_at hl 0 rfl) ?_
                    refine ald_mI hx hb hE hG 25 rfl (n := 120) rfl (lo := -2147483648) (hi := 2147483647) rfl rfl t_b239 (by omega) dX9_rules_109 (fun j241 x240 h242 h243 h244 => ?_)
                    clear h244
                    refine ast_mI hx hb hE hG hS hU 23 rfl (n := 120) rfl (lo := -2147483648) (hi := 2147483647) rfl rfl rfl t_b238 (rgD _) (by omega) dX9_rules_110 (fun H locs hG hS => ?_)
                    obtain ⟨x245, h246⟩ : ∃ y : Int32, y = v1_93 + Int32.ofInt (1) := ⟨_, rfl⟩
                    try have h247 : x245.toInt = v1_93.toInt + (1) := ty_inc h246 (by decide) (by omega) (by omega)
                    refine lv_iinc (v := x245) (lv' := [(1, .int x245), (0, .ref h0)]) hx hb dX9_rules_111 hl (k := 0) rfl h246.symm (by decide) rfl (fun ls hl => ?_)
                    refine lv_goto (tgt := 93) hx hb dX9_rules_114 (by decide) ?_
                    exact ih_93 x245 (gs g227 123 v1_93.toInt.toNat x240.toInt) _ _ ls (by omega) (by omega) (fun c j h123 => by rw [gs_c _ _ _ _ h123, hf228 c j h123]) hG hS (lv_sub hl [0, 1] rfl)
              exact L_93 ((120 - x225.toInt) + 1).toNat x225 g219 _ _ ls (by omega) (by omega) (fun c j _ => rfl) hG hS (lv_sub hl [0, 1] rfl)
            · skip
              refine ty_iconst hx hb (-1) dX9_rules_76 (by decide) (fun x248 h249 => ?_)
              refine lv_aload_n hx hb dX9_rules_77 rfl (lv_at hl 0 rfl) ?_
              refine get_X9_19 hx hb hA hown hE hG t_h0 wd_4_149 dX9_rules_78 (fun x250 h251 => ?_)
              replace h251 : x250.toInt = g28 119 0 := by rw [h251]; simp [gs]
              refine ty_isub hx hb dX9_rules_81 (fun x253 h254 => ?_)
              try have h255 : x253.toInt = x248.toInt - x250.toInt := ty_sub h254 (by omega) (by omega)
              have e256 : (gs (gs g28 114 0 x151.toInt) 121 0 x210.toInt) 114 0 = x151.toInt := by simp [gs]
              have e257 : (gs (gs g28 114 0 x151.toInt) 121 0 x210.toInt) 121 0 = x210.toInt := by simp [gs]
              have hk258 : g28 122 0 = u24 122 0 := hf29 122 0 (by decide) (by decide) (by decide) (by decide) (by decide) (by decide) (by decide) (by decide)
              have hk259 : u24 122 0 = (gs g7 124 0 x13.toInt) 122 0 := hf27 122 0 (by decide) (by decide) (by decide) (by decide)
              have hk259 : u24 122 0 = g7 122 0 := by rw [hk259]; simp [gs]
              have hk260 : g7 122 0 = g 122 0 := hf9 122 0 (by decide) (by decide) (by decide)
              have e261 : (gs (gs g28 114 0 x151.toInt) 121 0 x210.toInt) 122 0 = g28 122 0 := by simp [gs]
              exact W.iret (v := x253) hx hb hr (fun t ht hW => ⟨⟨x253, (gs (gs g28 114 0 x151.toInt) 121 0 x210.toInt), rfl, ⟨(fun c j h100 h114 h115 h116 h117 h118 h119 h120 h121 h122 h123 h124 h125 => by rw [gs_c _ _ _ _ h121, gs_c _ _ _ _ h114, hf29 c j h115 h116 h117 h118 h119 h120 h124 h125, hf27 c j h115 h116 h117 h118, gs_c _ _ _ _ h124, hf9 c j h100 h119 h115]), (by omega), (by rw [← hZ9]; refine ⟨?_, ?_, ?_⟩; (unfold pz_res; show x253.toInt = if g28 119 0 = 0 then (c9 : Int) else -1 - g28 119 0; rw [if_neg (by omega)]; omega); (show (gs (gs g28 114 0 x151.toInt) 121 0 x210.toInt) 121 0 = if g28 119 0 = 0 then (-1 : Int) else g28 120 0; rw [if_neg (by omega)]; omega); (show (gs (gs g28 114 0 x151.toInt) 121 0 x210.toInt) 118 0 = g28 118 0; exact (by rw [gs_c _ _ _ _ (by decide), gs_c _ _ _ _ (by decide)])))⟩, ok1 ht hG⟩, hS.F ht⟩) hS.2.2 dX9_rules_82
        · skip
          refine lv_aload_n hx hb dX9_rules_38 rfl (lv_at hl 0 rfl) ?_
          refine cV (va_runV (C := RX9) (As := []) (rest := []) ⟨hx, hb, hml, hown, hA⟩ (k_X9_readStatement l dC dI dA sz X Γ hU g28 h0 t_h0 T N9  (by omega) (by omega) ((funext fun j => show g28 113 j % 256 = g 113 j % 256 by rw [hf29 113 j (by decide) (by decide) (by decide) (by decide) (by decide) (by decide) (by decide) (by decide), hf27 113 j (by decide) (by decide) (by decide) (by decide), gs_c _ _ _ _ (by decide), hf9 113 j (by decide) (by decide) (by decide)]).trans hT) (by omega)) ⟨callB_of 0 hA (al_A wd_5_88) rfl rfl rfl (hA _ wd_1_7) (hA _ wd_5_85) (by decide +kernel) ⟨Nat.le_of_ble_eq_true rfl, Nat.le_of_ble_eq_true rfl⟩, hA _ wd_5_87, hA _ ws_41⟩ ⟨bl, recv_X9 hE hG t_h0, fun U hU9 hW9 => ⟨rfl, by rw [hU9]; exact hG, hE.go hS hU9 hW9⟩⟩ rfl rfl hl.1 rfl (lv_room (Nat.le_of_ble_eq_true rfl)) dX9_rules_39 ⟨Nat.zero_le _, Nat.zero_le _⟩) hS (fun u262 H locs w263 hG hS => ?_)
          obtain ⟨hf265, w263, hq264⟩ := w263
          refine lv_goto (tgt := 24) hx hb dX9_rules_42 (by decide) ?_
          have hk266 : u262 114 0 = g28 114 0 := hf265 114 0 (by decide) (by decide) (by decide) (by decide) (by decide) (by decide) (by decide) (by decide)
          exact ih_24 u262 _ _ ls (by omega) (by omega) (by omega) (fun c j h115 h116 h117 h118 h119 h120 h124 h125 => by rw [hf265 c j h115 h116 h117 h118 h119 h120 h124 h125, hf29 c j h115 h116 h117 h118 h119 h120 h124 h125]) (by obtain ⟨c9, h1, h2, h3⟩ := hq0; exact ⟨c9 + 1, by omega, by rw [hq264, h3 (by omega)]; show pz_L T N9 (31 - (c9 + 1)) ((c9 : Int) + 1) _ = _; rw [← pz_L_go (x := pz_m g28) (show pz_s (g28 117 0) ≠ 0 from fun q => absurd (pz_s0.mp q) (by omega)) (show g28 119 0 = 0 by omega), show 31 - (c9 + 1) + 1 = 31 - c9 by omega]; exact h2, fun _ => by omega⟩) hG hS (lv_sub hl [0] rfl)
  have hk267 : u24 114 0 = (gs g7 124 0 x13.toInt) 114 0 := hf27 114 0 (by decide) (by decide) (by decide) (by decide)
  have hk267 : u24 114 0 = g7 114 0 := by rw [hk267]; simp [gs]
  have hk268 : u24 119 0 = (gs g7 124 0 x13.toInt) 119 0 := hf27 119 0 (by decide) (by decide) (by decide) (by decide)
  have hk268 : u24 119 0 = g7 119 0 := by rw [hk268]; simp [gs]
  have hk269 : u24 124 0 = (gs g7 124 0 x13.toInt) 124 0 := hf27 124 0 (by decide) (by decide) (by decide) (by decide)
  have hk269 : u24 124 0 = x13.toInt := by rw [hk269]; simp [gs]
  exact L_24 ((34 - u24 124 0 - u24 119 0) + 1).toNat u24 _ _ ls (by omega) (by omega) (by omega) (fun c j _ _ _ _ _ _ _ _ => rfl) (⟨0, by decide, by show pz_L T N9 31 0 (pz_m u24) = _; rw [hq26]; exact congrArg (pz_L T N9 31 0) (show pz_nx T N9 ((gs g7 124 0 x13.toInt) 115 0, (gs g7 124 0 x13.toInt) 116 0, pz_s ((gs g7 124 0 x13.toInt) 117 0), (gs g7 124 0 x13.toInt) 118 0, (gs g7 124 0 x13.toInt) 119 0, if (gs g7 124 0 x13.toInt) 119 0 = 0 then (-1 : Int) else (gs g7 124 0 x13.toInt) 120 0) = _ by rw [show (gs g7 124 0 x13.toInt) 115 0 = 0 by omega, show (gs g7 124 0 x13.toInt) 118 0 = g 118 0 by omega, show (gs g7 124 0 x13.toInt) 119 0 = 0 by omega, if_pos rfl]; exact pz_nx_st), fun _ => by omega⟩) hG hS (lv_sub hl [0] rfl)
