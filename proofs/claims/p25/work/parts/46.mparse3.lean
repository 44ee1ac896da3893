set_option maxHeartbeats 4000000 in
set_option maxRecDepth 100000 in
/-- WeekBankModel.rules:  -/
theorem k_X9_rules (l : Launch) (dC : Nat → ClassId) (dI : Nat → Nat → Nat) (dA : Nat → ClassId) (sz : Nat) (X : va_W) (Γ : ty_G) (hU : Un Γ) (g : gh) (h0 : Nat) (t_h0 : ty Γ h0 30) (T : Nat → Int) (N9 : Nat) (hp : 0 ≤ g 114 0 ∧ g 114 0 ≤ 300) (hT : pz_t g = T) (hN : g 114 0 = (N9 : Int)) : Met l yX9_rules (.code yX9_rules cX9_rules 2 (Option.some Jvm.ClassFile.FieldType.int) :: AL) ({ frames := 6, cells := 0, slots := 0, locals := 129 }) (PCx dC dI dA sz X Γ g [.ref h0]) (va_Qi (fun (r : Int32) (u : gh) => (∀ c j : Nat, c ≠ 100 → c ≠ 114 → c ≠ 115 → c ≠ 116 → c ≠ 117 → c ≠ 118 → c ≠ 119 → c ≠ 120 → c ≠ 121 → c ≠ 122 → c ≠ 123 → c ≠ 124 → c ≠ 125 → u c j = g c j) ∧ ((u 114 0 = 0) ∧ ((u 122 0 = g 122 0) ∨ (0 ≤ u 122 0 ∧ u 122 0 ≤ 30)) ∧ (u 121 0 = u 121 0)) ∧ (r.toInt = pz_res (pz_Z T N9 (g 118 0)) ∧ u 121 0 = (pz_Z T N9 (g 118 0)).1.2.2.2.2.2 ∧ u 118 0 = (pz_Z T N9 (g 118 0)).1.2.2.2.1) ∧ (u 125 = pq_m T N9 31 0 (pz_nx T N9 (0, 0, 0, g 118 0, 0, -1)) (g 125)) ∧ (((pz_Z T N9 (g 118 0)).1.2.2.2.2.1 = 0 → u 123 = lk_f (g 123) (pq_m T N9 31 0 (pz_nx T N9 (0, 0, 0, g 118 0, 0, -1)) (g 125)) 120 ∧ u 122 0 = (pz_Z T N9 (g 118 0)).2) ∧ ((pz_Z T N9 (g 118 0)).1.2.2.2.2.1 ≠ 0 → u 123 = g 123 ∧ u 122 0 = g 122 0))) (okb dC dI dA sz X Γ) (ty_A sz)) 0 0 (ty_A sz) := by
  refine Met.ofW (cc := cX9_rules) (maxL := 2) (ret := (Option.some Jvm.ClassFile.FieldType.int)) (by decide) rfl ?_
  intro p e s m args below meth c s₁ B hml hv
  obtain ⟨rfl, hG, hE⟩ := hv
  have hx := B.exec
  have hb := B.bytes
  have hr := B.returns
  have hts := atoms_spec B.pre
  have hA : ∀ w ∈ AL, w.before _ s = true := fun w h => hts w (List.mem_cons_of_mem _ h)
  have hown : s.vm.findClass RX9 = some m.cls := findClass_of_methodNamed B.named
  have hlocks := B.notSynchronized
  have hS : va_S (ty_A sz) s.heap s.heap [] := va_S.rf
  have hl := lv_entry ([.ref h0]) (n := 2) (Nat.le_of_ble_eq_true rfl)
  rw [lg_entry_eq]
  generalize (lg_sl ([.ref h0]) ++ List.replicate (2 - (lg_sl ([.ref h0])).length) Slot.unset).toArray = ls at hl ⊢
  have hl : lv_has ls 2 [(0, .ref h0)] := hl
  refine lv_aload_n hx hb dX9_rules_0 rfl (lv_at hl 0 rfl) ?_
  refine ty_iconst hx hb (0) dX9_rules_1 (by decide) (fun x1 h2 => ?_)
  refine put_X9_0 hx hb hA hown hE hG hS hU t_h0 wd_4_130 dX9_rules_2 (fun H locs hG hS => ?_)
  refine lv_aload_n hx hb dX9_rules_5 rfl (lv_at hl 0 rfl) ?_
  refine ty_iconst hx hb (0) dX9_rules_6 (by decide) (fun x3 h4 => ?_)
  refine put_X9_19 hx hb hA hown hE hG hS hU t_h0 wd_4_149 dX9_rules_7 (fun H locs hG hS => ?_)
  refine lv_aload_n hx hb dX9_rules_10 rfl (lv_at hl 0 rfl) ?_
  refine ty_iconst hx hb (0) dX9_rules_11 (by decide) (fun x5 h6 => ?_)
  refine put_X9_15 hx hb hA hown hE hG hS hU t_h0 wd_4_145 dX9_rules_12 (fun H locs hG hS => ?_)
  generalize eg8 : (gs (gs (gs g 100 0 x1.toInt) 119 0 x3.toInt) 115 0 x5.toInt) = g7 at hG
  have hf9 : ∀ c j : Nat, c ≠ 100 → c ≠ 119 → c ≠ 115 → g7 c j = g c j := fun c j h100 h119 h115 => by rw [← eg8, gs_c _ _ _ _ h115, gs_c _ _ _ _ h119, gs_c _ _ _ _ h100]
  have v10 : g7 100 0 = x1.toInt := by rw [← eg8, gs_c _ _ _ _ (by decide), gs_c _ _ _ _ (by decide), gs_self]
  have v11 : g7 119 0 = x3.toInt := by rw [← eg8, gs_c _ _ _ _ (by decide), gs_self]
  have v12 : g7 115 0 = x5.toInt := by rw [← eg8, gs_self]
  refine lv_aload_n hx hb dX9_rules_15 rfl (lv_at hl 0 rfl) ?_
  refine ty_iconst hx hb (0) dX9_rules_16 (by decide) (fun x13 h14 => ?_)
  refine put_X9_24 hx hb hA hown hE hG hS hU t_h0 wd_4_154 dX9_rules_17 (fun H locs hG hS => ?_)
  refine lv_aload_n hx hb dX9_rules_20 rfl (lv_at hl 0 rfl) ?_
  have e15 : (gs g7 124 0 x13.toInt) 115 0 = g7 115 0 := by simp [gs]
  have hk16 : g7 118 0 = g 118 0 := hf9 118 0 (by decide) (by decide) (by decide)
  have e17 : (gs g7 124 0 x13.toInt) 118 0 = g7 118 0 := by simp [gs]
  have e18 : (gs g7 124 0 x13.toInt) 119 0 = g7 119 0 := by simp [gs]
  have hk19 : g7 114 0 = g 114 0 := hf9 114 0 (by decide) (by decide) (by decide)
  have e20 : (gs g7 124 0 x13.toInt) 114 0 = g7 114 0 := by rw [gs_c _ _ _ _ (by decide)]
  have e21 : (gs g7 124 0 x13.toInt) 115 0 = g7 115 0 := by rw [gs_c _ _ _ _ (by decide)]
  have e22 : (gs g7 124 0 x13.toInt) 114 0 = g7 114 0 := by rw [gs_c _ _ _ _ (by decide)]
  have e23 : (gs g7 124 0 x13.toInt) 114 0 = g7 114 0 := by rw [gs_c _ _ _ _ (by decide)]
  refine cV (va_runV (C := RX9) (As := []) (rest := []) ⟨hx, hb, hml, hown, hA⟩ (k_X9_next l dC dI dA sz X Γ hU (gs g7 124 0 x13.toInt) h0 t_h0 T N9  (by omega) ((funext fun j => show (gs g7 124 0 x13.toInt) 113 j % 256 = g 113 j % 256 by rw [gs_c _ _ _ _ (by decide), hf9 113 j (by decide) (by decide) (by decide)]).trans hT) (by omega)) ⟨callB_of 0 hA (al_A wd_5_74) rfl rfl rfl (hA _ wd_1_7) (hA _ wd_5_71) (by decide +kernel) ⟨Nat.le_of_ble_eq_true rfl, Nat.le_of_ble_eq_true rfl⟩, hA _ wd_5_73, hA _ ws_39⟩ ⟨bl, recv_X9 hE hG t_h0, fun U hU9 hW9 => ⟨rfl, by rw [hU9]; exact hG, hE.go hS hU9 hW9⟩⟩ rfl rfl hl.1 rfl (lv_room (Nat.le_of_ble_eq_true rfl)) dX9_rules_21 ⟨Nat.zero_le _, Nat.zero_le _⟩) hS (fun u24 H locs w25 hG hS => ?_)
  obtain ⟨hf27, w25, hq26⟩ := w25
  have L_24 : ∀ (n : Nat)  (g28 : gh) (H : Heap) (locs : List Loc) (ls : Array Slot), (34 - g28 124 0 - g28 119 0 : Int) < n → 0 ≤ g28 116 0 ∧ g28 116 0 ≤ g28 115 0 ∧ g28 115 0 ≤ g28 114 0 ∧ g28 114 0 ≤ 300 → 0 ≤ g28 119 0 ∧ g28 119 0 ≤ 3 ∧ 0 ≤ g28 124 0 ∧ g28 124 0 ≤ 30 → (∀ c j : Nat, c ≠ 115 → c ≠ 116 → c ≠ 117 → c ≠ 118 → c ≠ 119 → c ≠ 120 → c ≠ 124 → c ≠ 125 → g28 c j = u24 c j) → (∃ c : Nat, c ≤ 31 ∧ pz_L T N9 (31 - c) (c : Int) (pz_m g28) = pz_Z T N9 (g 118 0) ∧ (g28 119 0 = 0 → g28 124 0 = (c : Int)) ∧ pq_m T N9 (31 - c) (c : Int) (pz_m g28) (g28 125) = pq_m T N9 31 0 (pz_nx T N9 (0, 0, 0, g 118 0, 0, -1)) (g 125)) → ty_ok (dC, dI) vwCl Γ (TP dA Γ g28) sz X H → va_S (ty_A sz) s.heap H locs → lv_has ls 2 [(0, .ref h0)] → W p l e (headSpec (.code yX9_rules cX9_rules 2 (Option.some Jvm.ClassFile.FieldType.int) :: AL) ({ frames := 6, cells := 0, slots := 0, locals := 129 })).room s m ([.ref h0] : List Value).toArray below meth c H locs 0 0 (MQ below (va_Qi (fun (r : Int32) (u : gh) => (∀ c j : Nat, c ≠ 100 → c ≠ 114 → c ≠ 115 → c ≠ 116 → c ≠ 117 → c ≠ 118 → c ≠ 119 → c ≠ 120 → c ≠ 121 → c ≠ 122 → c ≠ 123 → c ≠ 124 → c ≠ 125 → u c j = g c j) ∧ ((u 114 0 = 0) ∧ ((u 122 0 = g 122 0) ∨ (0 ≤ u 122 0 ∧ u 122 0 ≤ 30)) ∧ (u 121 0 = u 121 0)) ∧ (r.toInt = pz_res (pz_Z T N9 (g 118 0)) ∧ u 121 0 = (pz_Z T N9 (g 118 0)).1.2.2.2.2.2 ∧ u 118 0 = (pz_Z T N9 (g 118 0)).1.2.2.2.1) ∧ (u 125 = pq_m T N9 31 0 (pz_nx T N9 (0, 0, 0, g 118 0, 0, -1)) (g 125)) ∧ (((pz_Z T N9 (g 118 0)).1.2.2.2.2.1 = 0 → u 123 = lk_f (g 123) (pq_m T N9 31 0 (pz_nx T N9 (0, 0, 0, g 118 0, 0, -1)) (g 125)) 120 ∧ u 122 0 = (pz_Z T N9 (g 118 0)).2) ∧ ((pz_Z T N9 (g 118 0)).1.2.2.2.2.1 ≠ 0 → u 123 = g 123 ∧ u 122 0 = g 122 0))) (okb dC dI dA sz X Γ) (ty_A sz)) ([.ref h0] : List Value).toArray s 0 0 (ty_A sz)) (F0 m 24 ls []) := by
    intro n
    induction n with
    | zero => intro g28 H locs ls hm hi0 hi1 hf29 hq0 hG hS hl; exfalso; omega
    | succ n ih_24 =>
      intro g28 H locs ls hm hi0 hi1 hf29 hq0 hG hS hl
      have hk30 : g28 114 0 = u24 114 0 := hf29 114 0 (by decide) (by decide) (by decide) (by decide) (by decide) (by decide) (by decide) (by decide)
      have hk31 : u24 114 0 = (gs g7 124 0 x13.toInt) 114 0 := hf27 114 0 (by decide) (by decide) (by decide) (by decide)
      replace hk31 : u24 114 0 = g7 114 0 := by rw [hk31, gs_c _ _ _ _ (by decide)]
      refine lv_aload_n hx hb dX9_rules_24 rfl (lv_at hl 0 rfl) ?_
      refine get_X9_19 hx hb hA hown hE hG t_h0 wd_4_149 dX9_rules_25 (fun x32 h33 => ?_)
      refine ty_if_ne (tgt := 45) hx hb dX9_rules_28 (by decide) (fun c35 => ?_) (fun c35 => ?_)
      · skip
        obtain ⟨c9, hc1, hc2, hc3, hc4⟩ := hq0
        have hP9 : g28 125 = pq_m T N9 31 0 (pz_nx T N9 (0, 0, 0, g 118 0, 0, -1)) (g 125) := by rw [← hc4]; exact (pq_m_no (x := pz_m g28) (by first | exact (fun q => absurd q.2 (show ¬ g28 119 0 = 0 by omega)) | exact (fun q => absurd (pz_s0.mpr (show g28 117 0 = 0 by omega)) q.1))).symm
        have hZ9 : (pz_m g28, (c9 : Int)) = pz_Z T N9 (g 118 0) := by rw [← hc2]; exact (pz_L_no (x := pz_m g28) (by first | exact (fun q => absurd q.2 (show ¬ g28 119 0 = 0 by omega)) | exact (fun q => absurd (pz_s0.mpr (show g28 117 0 = 0 by omega)) q.1))).symm
        refine lv_aload_n hx hb dX9_rules_45 rfl (lv_at hl 0 rfl) ?_
        refine ty_iconst hx hb (0) dX9_rules_46 (by decide) (fun x36 h37 => ?_)
        refine put_X9_14 hx hb hA hown hE hG hS hU t_h0 wd_4_144 dX9_rules_47 (fun H locs hG hS => ?_)
        refine lv_aload_n hx hb dX9_rules_50 rfl (lv_at hl 0 rfl) ?_
        refine lv_aload_n hx hb dX9_rules_51 rfl (lv_at hl 0 rfl) ?_
        refine get_X9_19 hx hb hA hown hE hG t_h0 wd_4_149 dX9_rules_52 (fun x38 h39 => ?_)
        replace h39 : x38.toInt = g28 119 0 := by rw [h39, gs_c _ _ _ _ (by decide)]
        refine ty_if_ne (tgt := 62) hx hb dX9_rules_55 (by decide) (fun c41 => ?_) (fun c41 => ?_)
        · skip
          refine lv_aload_n hx hb dX9_rules_62 rfl (lv_at hl 0 rfl) ?_
          refine get_X9_20 hx hb hA hown hE hG t_h0 wd_4_150 dX9_rules_63 (fun x42 h43 => ?_)
          replace h43 : x42.toInt = g28 120 0 := by rw [h43, gs_c _ _ _ _ (by decide)]
          refine put_X9_21 hx hb hA hown hE hG hS hU t_h0 wd_4_151 dX9_rules_66 (fun H locs hG hS => ?_)
          refine lv_aload_n hx hb dX9_rules_69 rfl (lv_at hl 0 rfl) ?_
          refine get_X9_19 hx hb hA hown hE hG t_h0 wd_4_149 dX9_rules_70 (fun x45 h46 => ?_)
          replace h46 : x45.toInt = g28 119 0 := by rw [h46, gs_c _ _ _ _ (by decide), gs_c _ _ _ _ (by decide)]
          refine ty_if_eq (tgt := 83) hx hb dX9_rules_73 (by decide) (fun c48 => ?_) (fun c48 => ?_)
          · skip
            refine lv_aload_n hx hb dX9_rules_83 rfl (lv_at hl 0 rfl) ?_
            refine lv_aload_n hx hb dX9_rules_84 rfl (lv_at hl 0 rfl) ?_
            refine get_X9_24 hx hb hA hown hE hG t_h0 wd_4_154 dX9_rules_85 (fun x49 h50 => ?_)
            replace h50 : x49.toInt = g28 124 0 := by rw [h50, gs_c _ _ _ _ (by decide), gs_c _ _ _ _ (by decide)]
            refine put_X9_22 hx hb hA hown hE hG hS hU t_h0 wd_4_152 dX9_rules_88 (fun H locs hG hS => ?_)
            generalize eg53 : (gs (gs (gs g28 114 0 x36.toInt) 121 0 x42.toInt) 122 0 x49.toInt) = g52 at hG
            have hf54 : ∀ c j : Nat, c ≠ 114 → c ≠ 121 → c ≠ 122 → g52 c j = g28 c j := fun c j h114 h121 h122 => by rw [← eg53, gs_c _ _ _ _ h122, gs_c _ _ _ _ h121, gs_c _ _ _ _ h114]
            have v55 : g52 114 0 = x36.toInt := by rw [← eg53, gs_c _ _ _ _ (by decide), gs_c _ _ _ _ (by decide), gs_self]
            have v56 : g52 121 0 = x42.toInt := by rw [← eg53, gs_c _ _ _ _ (by decide), gs_self]
            have v57 : g52 122 0 = x49.toInt := by rw [← eg53, gs_self]
            refine ty_iconst hx hb (0) dX9_rules_91 (by decide) (fun x58 h59 => ?_)
            refine lv_istore_n (lv' := [(1, .int x58), (0, .ref h0)]) hx hb dX9_rules_92 rfl hl (by decide) rfl (fun ls hl => ?_)
            have L_93 : ∀ (n : Nat) (v1_93 : Int32) (g60 : gh) (H : Heap) (locs : List Loc) (ls : Array Slot), (120 - v1_93.toInt : Int) < n → 0 ≤ v1_93.toInt ∧ v1_93.toInt ≤ 120 → (∀ c j : Nat, c ≠ 123 → g60 c j = g52 c j) → (g60 123 = lk_f (g 123) (pq_m T N9 31 0 (pz_nx T N9 (0, 0, 0, g 118 0, 0, -1)) (g 125)) v1_93.toInt.toNat) → ty_ok (dC, dI) vwCl Γ (TP dA Γ g60) sz X H → va_S (ty_A sz) s.heap H locs → lv_has ls 2 [(1, .int v1_93), (0, .ref h0)] → W p l e (headSpec (.code yX9_rules cX9_rules 2 (Option.some Jvm.ClassFile.FieldType.int) :: AL) ({ frames := 6, cells := 0, slots := 0, locals := 129 })).room s m ([.ref h0] : List Value).toArray below meth c H locs 0 0 (MQ below (va_Qi (fun (r : Int32) (u : gh) => (∀ c j : Nat, c ≠ 100 → c ≠ 114 → c ≠ 115 → c ≠ 116 → c ≠ 117 → c ≠ 118 → c ≠ 119 → c ≠ 120 → c ≠ 121 → c ≠ 122 → c ≠ 123 → c ≠ 124 → c ≠ 125 → u c j = g c j) ∧ ((u 114 0 = 0) ∧ ((u 122 0 = g 122 0) ∨ (0 ≤ u 122 0 ∧ u 122 0 ≤ 30)) ∧ (u 121 0 = u 121 0)) ∧ (r.toInt = pz_res (pz_Z T N9 (g 118 0)) ∧ u 121 0 = (pz_Z T N9 (g 118 0)).1.2.2.2.2.2 ∧ u 118 0 = (pz_Z T N9 (g 118 0)).1.2.2.2.1) ∧ (u 125 = pq_m T N9 31 0 (pz_nx T N9 (0, 0, 0, g 118 0, 0, -1)) (g 125)) ∧ (((pz_Z T N9 (g 118 0)).1.2.2.2.2.1 = 0 → u 123 = lk_f (g 123) (pq_m T N9 31 0 (pz_nx T N9 (0, 0, 0, g 118 0, 0, -1)) (g 125)) 120 ∧ u 122 0 = (pz_Z T N9 (g 118 0)).2) ∧ ((pz_Z T N9 (g 118 0)).1.2.2.2.2.1 ≠ 0 → u 123 = g 123 ∧ u 122 0 = g 122 0))) (okb dC dI dA sz X Γ) (ty_A sz)) ([.ref h0] : List Value).toArray s 0 0 (ty_A sz)) (F0 m 93 ls []) := by
              intro n
              induction n with
              | zero => intro v1_93 g60 H locs ls hm hi0 hf61 hb0 hG hS hl; exfalso; omega
              | succ n ih_93 =>
                intro v1_93 g60 H locs ls hm hi0 hf61 hb0 hG hS hl
                refine lv_iload_n hx hb dX9_rules_93 rfl (lv_at hl 0 rfl) ?_
                refine ty_bipush hx hb (120) dX9_rules_94 (by decide) (fun x62 h63 => ?_)
                refine ty_icmp_ge (tgt := 117) hx hb dX9_rules_96 (by decide) (fun c64 => ?_) (fun c64 => ?_)
                · skip
                  refine lv_aload_n hx hb dX9_rules_117 rfl (lv_at hl 1 rfl) ?_
                  refine get_X9_22 hx hb hA hown hE hG t_h0 wd_4_152 dX9_rules_118 (fun x65 h66 => ?_)
                  have hk68 : g60 122 0 = g52 122 0 := hf61 122 0 (by decide)
                  have hk69 : g60 114 0 = g52 114 0 := hf61 114 0 (by decide)
                  have hk70 : g60 121 0 = g52 121 0 := hf61 121 0 (by decide)
                  exact W.iret (v := x65) hx hb hr (fun t ht hW => ⟨⟨x65, g60, rfl, ⟨(fun c j h100 h114 h115 h116 h117 h118 h119 h120 h121 h122 h123 h124 h125 => by rw [hf61 c j h123, hf54 c j h114 h121 h122, hf29 c j h115 h116 h117 h118 h119 h120 h124 h125, hf27 c j h115 h116 h117 h118, gs_c _ _ _ _ h124, hf9 c j h100 h119 h115]), (by omega), (by rw [← hZ9]; refine ⟨?_, ?_, ?_⟩; (unfold pz_res; show x65.toInt = if g28 119 0 = 0 then (c9 : Int) else -1 - g28 119 0; rw [if_pos (by omega)]; omega); (show g60 121 0 = if g28 119 0 = 0 then (-1 : Int) else g28 120 0; rw [if_pos (by omega)]; omega); (show g60 118 0 = g28 118 0; exact (by rw [hf61 118 0 (by decide), hf54 118 0 (by decide) (by decide) (by decide)]))), (by rw [(show g60 125 = g52 125 from funext fun j => hf61 125 j (by decide)), (show g52 125 = g28 125 from funext fun j => hf54 125 j (by decide) (by decide) (by decide))]; exact hP9), (by rw [← hZ9]; show (g28 119 0 = 0 → _) ∧ (g28 119 0 ≠ 0 → _); exact ⟨fun _ => ⟨by rw [hb0, show v1_93.toInt.toNat = 120 by omega], by show _ = (c9 : Int); omega⟩, fun q => absurd q (by omega)⟩)⟩, ok1 ht hG⟩, hS.F ht⟩) hS.2.2 dX9_rules_121
                · skip
                  refine lv_aload_n hx hb dX9_rules_99 rfl (lv_at hl 1 rfl) ?_
                  refine get_X9_23 hx hb hA hown hE hG t_h0 wd_4_153 dX9_rules_100 (fun b71 (t_b71 : ty Γ b71 123) => ?_)
                  refine lv_iload_n hx hb dX9_rules_103 rfl (lv_at hl 0 rfl) ?_
                  refine lv_aload_n hx hb dX9_rules_104 rfl (lv_at hl 1 rfl) ?_
                  refine get_X9_25 hx hb hA hown hE hG t_h0 wd_4_155 dX9_rules_105 (fun b72 (t_b72 : ty Γ b72 125) => ?_)
                  refine lv_iload_n hx hb dX9_rules_108 rfl (lv_at hl 0 rfl) ?_
                  refine ald_mI hx hb hE hG 25 rfl (n := 120) rfl (lo := -2147483648) (hi := 2147483647) rfl rfl t_b72 (by omega) dX9_rules_109 (fun j74 x73 h75 h76 h77 => ?_)
                  clear h77
                  obtain rfl : j74 = v1_93.toInt.toNat := by omega
                  replace h76 : x73.toInt = g60 125 v1_93.toInt.toNat := h76
                  have hk78 : g60 125 v1_93.toInt.toNat = g52 125 v1_93.toInt.toNat := hf61 125 v1_93.toInt.toNat (by decide)
                  have hk79 : g52 125 v1_93.toInt.toNat = g28 125 v1_93.toInt.toNat := hf54 125 v1_93.toInt.toNat (by decide) (by decide) (by decide)
                  have hcp9 : g60 125 v1_93.toInt.toNat = g28 125 v1_93.toInt.toNat := by rw [hf61 125 v1_93.toInt.toNat (by decide), hf54 125 v1_93.toInt.toNat (by decide) (by decide) (by decide)]
                  refine ast_mI hx hb hE hG hS hU 23 rfl (n := 120) rfl (lo := -2147483648) (hi := 2147483647) rfl rfl rfl t_b71 (rgD _) (by omega) dX9_rules_110 (fun H locs hG hS => ?_)
                  obtain ⟨x80, h81⟩ : ∃ y : Int32, y = v1_93 + Int32.ofInt (1) := ⟨_, rfl⟩
                  try have h82 : x80.toInt = v1_93.toInt + (1) := ty_inc h81 (by decide) (by omega) (by omega)
                  refine lv_iinc (v := x80) (lv' := [(1, .int x80), (0, .ref h0)]) hx hb dX9_rules_111 hl (k := 0) rfl h81.symm (by decide) rfl (fun ls hl => ?_)
                  refine lv_goto (tgt := 93) hx hb dX9_rules_114 (by decide) ?_
                  exact ih_93 x80 (gs g60 123 v1_93.toInt.toNat x73.toInt) _ _ ls (by omega) (by omega) (fun c j h123 => by rw [gs_c _ _ _ _ h123, hf61 c j h123]) (by rw [pz_gs]; exact lk_s (by rw [← hP9]; omega) (by omega) hb0) hG hS (lv_sub hl [0, 1] rfl)
            exact L_93 ((120 - x58.toInt) + 1).toNat x58 g52 _ _ ls (by omega) (by omega) (fun c j _ => rfl) (by rw [(show g52 123 = g28 123 from funext fun j => hf54 123 j (by decide) (by decide) (by decide)), (show g28 123 = u24 123 from funext fun j => hf29 123 j (by decide) (by decide) (by decide) (by decide) (by decide) (by decide) (by decide) (by decide)), (show u24 123 = (gs g7 124 0 x13.toInt) 123 from funext fun j => hf27 123 j (by decide) (by decide) (by decide) (by decide)), gs_r _ _ _ (by decide), (show g7 123 = g 123 from funext fun j => hf9 123 j (by decide) (by decide) (by decide))]; exact lk_0 (by omega)) hG hS (lv_sub hl [0, 1] rfl)
          · skip
            refine ty_iconst hx hb (-1) dX9_rules_76 (by decide) (fun x83 h84 => ?_)
            refine lv_aload_n hx hb dX9_rules_77 rfl (lv_at hl 0 rfl) ?_
            refine get_X9_19 hx hb hA hown hE hG t_h0 wd_4_149 dX9_rules_78 (fun x85 h86 => ?_)
            replace h86 : x85.toInt = g28 119 0 := by rw [h86, gs_c _ _ _ _ (by decide), gs_c _ _ _ _ (by decide)]
            refine ty_isub hx hb dX9_rules_81 (fun x88 h89 => ?_)
            try have h90 : x88.toInt = x83.toInt - x85.toInt := ty_sub h89 (by omega) (by omega)
            have e91 : (gs (gs g28 114 0 x36.toInt) 121 0 x42.toInt) 114 0 = x36.toInt := by rw [gs_c _ _ _ _ (by decide), gs_self]
            have e92 : (gs (gs g28 114 0 x36.toInt) 121 0 x42.toInt) 121 0 = x42.toInt := by rw [gs_self]
            have hk93 : g28 122 0 = u24 122 0 := hf29 122 0 (by decide) (by decide) (by decide) (by decide) (by decide) (by decide) (by decide) (by decide)
            have hk94 : u24 122 0 = (gs g7 124 0 x13.toInt) 122 0 := hf27 122 0 (by decide) (by decide) (by decide) (by decide)
            replace hk94 : u24 122 0 = g7 122 0 := by rw [hk94, gs_c _ _ _ _ (by decide)]
            have hk95 : g7 122 0 = g 122 0 := hf9 122 0 (by decide) (by decide) (by decide)
            have e96 : (gs (gs g28 114 0 x36.toInt) 121 0 x42.toInt) 122 0 = g28 122 0 := by rw [gs_c _ _ _ _ (by decide), gs_c _ _ _ _ (by decide)]
            have e97 : (gs (gs g28 114 0 x36.toInt) 121 0 x42.toInt) 122 0 = g28 122 0 := by rw [gs_c _ _ _ _ (by decide), gs_c _ _ _ _ (by decide)]
            exact W.iret (v := x88) hx hb hr (fun t ht hW => ⟨⟨x88, (gs (gs g28 114 0 x36.toInt) 121 0 x42.toInt), rfl, ⟨(fun c j h100 h114 h115 h116 h117 h118 h119 h120 h121 h122 h123 h124 h125 => by rw [gs_c _ _ _ _ h121, gs_c _ _ _ _ h114, hf29 c j h115 h116 h117 h118 h119 h120 h124 h125, hf27 c j h115 h116 h117 h118, gs_c _ _ _ _ h124, hf9 c j h100 h119 h115]), (by omega), (by rw [← hZ9]; refine ⟨?_, ?_, ?_⟩; (unfold pz_res; show x88.toInt = if g28 119 0 = 0 then (c9 : Int) else -1 - g28 119 0; rw [if_neg (by omega)]; omega); (show (gs (gs g28 114 0 x36.toInt) 121 0 x42.toInt) 121 0 = if g28 119 0 = 0 then (-1 : Int) else g28 120 0; rw [if_neg (by omega)]; omega); (show (gs (gs g28 114 0 x36.toInt) 121 0 x42.toInt) 118 0 = g28 118 0; exact (by rw [gs_c _ _ _ _ (by decide), gs_c _ _ _ _ (by decide)]))), (by rw [gs_r _ _ _ (by decide), gs_r _ _ _ (by decide)]; exact hP9), (by rw [← hZ9]; show (g28 119 0 = 0 → _) ∧ (g28 119 0 ≠ 0 → _); exact ⟨fun q => absurd q (by omega), fun _ => ⟨by rw [gs_r _ _ _ (by decide), gs_r _ _ _ (by decide), (show g28 123 = u24 123 from funext fun j => hf29 123 j (by decide) (by decide) (by decide) (by decide) (by decide) (by decide) (by decide) (by decide)), (show u24 123 = (gs g7 124 0 x13.toInt) 123 from funext fun j => hf27 123 j (by decide) (by decide) (by decide) (by decide)), gs_r _ _ _ (by decide), (show g7 123 = g 123 from funext fun j => hf9 123 j (by decide) (by decide) (by decide))], by omega⟩⟩)⟩, ok1 ht hG⟩, hS.F ht⟩) hS.2.2 dX9_rules_82
        · skip
          refine ty_iconst hx hb (-1) dX9_rules_58 (by decide) (fun x98 h99 => ?_)
          refine lv_goto (tgt := 66) hx hb dX9_rules_59 (by decide) ?_
          refine put_X9_21 hx hb hA hown hE hG hS hU t_h0 wd_4_151 dX9_rules_66 (fun H locs hG hS => ?_)
          refine lv_aload_n hx hb dX9_rules_69 rfl (lv_at hl 0 rfl) ?_
          refine get_X9_19 hx hb hA hown hE hG t_h0 wd_4_149 dX9_rules_70 (fun x100 h101 => ?_)
          replace h101 : x100.toInt = g28 119 0 := by rw [h101, gs_c _ _ _ _ (by decide), gs_c _ _ _ _ (by decide)]
          refine ty_if_eq (tgt := 83) hx hb dX9_rules_73 (by decide) (fun c103 => ?_) (fun c103 => ?_)
          · skip
            refine lv_aload_n hx hb dX9_rules_83 rfl (lv_at hl 0 rfl) ?_
            refine lv_aload_n hx hb dX9_rules_84 rfl (lv_at hl 0 rfl) ?_
            refine get_X9_24 hx hb hA hown hE hG t_h0 wd_4_154 dX9_rules_85 (fun x104 h105 => ?_)
            replace h105 : x104.toInt = g28 124 0 := by rw [h105, gs_c _ _ _ _ (by decide), gs_c _ _ _ _ (by decide)]
            refine put_X9_22 hx hb hA hown hE hG hS hU t_h0 wd_4_152 dX9_rules_88 (fun H locs hG hS => ?_)
            generalize eg108 : (gs (gs (gs g28 114 0 x36.toInt) 121 0 x98.toInt) 122 0 x104.toInt) = g107 at hG
            have hf109 : ∀ c j : Nat, c ≠ 114 → c ≠ 121 → c ≠ 122 → g107 c j = g28 c j := fun c j h114 h121 h122 => by rw [← eg108, gs_c _ _ _ _ h122, gs_c _ _ _ _ h121, gs_c _ _ _ _ h114]
            have v110 : g107 114 0 = x36.toInt := by rw [← eg108, gs_c _ _ _ _ (by decide), gs_c _ _ _ _ (by decide), gs_self]
            have v111 : g107 121 0 = x98.toInt := by rw [← eg108, gs_c _ _ _ _ (by decide), gs_self]
            have v112 : g107 122 0 = x104.toInt := by rw [← eg108, gs_self]
            refine ty_iconst hx hb (0) dX9_rules_91 (by decide) (fun x113 h114 => ?_)
            refine lv_istore_n (lv' := [(1, .int x113), (0, .ref h0)]) hx hb dX9_rules_92 rfl hl (by decide) rfl (fun ls hl => ?_)
            have L_93 : ∀ (n : Nat) (v1_93 : Int32) (g115 : gh) (H : Heap) (locs : List Loc) (ls : Array Slot), (120 - v1_93.toInt : Int) < n → 0 ≤ v1_93.toInt ∧ v1_93.toInt ≤ 120 → (∀ c j : Nat, c ≠ 123 → g115 c j = g107 c j) → (g115 123 = lk_f (g 123) (pq_m T N9 31 0 (pz_nx T N9 (0, 0, 0, g 118 0, 0, -1)) (g 125)) v1_93.toInt.toNat) → ty_ok (dC, dI) vwCl Γ (TP dA Γ g115) sz X H → va_S (ty_A sz) s.heap H locs → lv_has ls 2 [(1, .int v1_93), (0, .ref h0)] → W p l e (headSpec (.code yX9_rules cX9_rules 2 (Option.some Jvm.ClassFile.FieldType.int) :: AL) ({ frames := 6, cells := 0, slots := 0, locals := 129 })).room s m ([.ref h0] : List Value).toArray below meth c H locs 0 0 (MQ below (va_Qi (fun (r : Int32) (u : gh) => (∀ c j : Nat, c ≠ 100 → c ≠ 114 → c ≠ 115 → c ≠ 116 → c ≠ 117 → c ≠ 118 → c ≠ 119 → c ≠ 120 → c ≠ 121 → c ≠ 122 → c ≠ 123 → c ≠ 124 → c ≠ 125 → u c j = g c j) ∧ ((u 114 0 = 0) ∧ ((u 122 0 = g 122 0) ∨ (0 ≤ u 122 0 ∧ u 122 0 ≤ 30)) ∧ (u 121 0 = u 121 0)) ∧ (r.toInt = pz_res (pz_Z T N9 (g 118 0)) ∧ u 121 0 = (pz_Z T N9 (g 118 0)).1.2.2.2.2.2 ∧ u 118 0 = (pz_Z T N9 (g 118 0)).1.2.2.2.1) ∧ (u 125 = pq_m T N9 31 0 (pz_nx T N9 (0, 0, 0, g 118 0, 0, -1)) (g 125)) ∧ (((pz_Z T N9 (g 118 0)).1.2.2.2.2.1 = 0 → u 123 = lk_f (g 123) (pq_m T N9 31 0 (pz_nx T N9 (0, 0, 0, g 118 0, 0, -1)) (g 125)) 120 ∧ u 122 0 = (pz_Z T N9 (g 118 0)).2) ∧ ((pz_Z T N9 (g 118 0)).1.2.2.2.2.1 ≠ 0 → u 123 = g 123 ∧ u 122 0 = g 122 0))) (okb dC dI dA sz X Γ) (ty_A sz)) ([.ref h0] : List Value).toArray s 0 0 (ty_A sz)) (F0 m 93 ls []) := by
              intro n
              induction n with
              | zero => intro v1_93 g115 H locs ls hm hi0 hf116 hb0 hG hS hl; exfalso; omega
              | succ n ih_93 =>
                intro v1_93 g115 H locs ls hm hi0 hf116 hb0 hG hS hl
                refine lv_iload_n hx hb dX9_rules_93 rfl (lv_at hl 0 rfl) ?_
                refine ty_bipush hx hb (120) dX9_rules_94 (by decide) (fun x117 h118 => ?_)
                refine ty_icmp_ge (tgt := 117) hx hb dX9_rules_96 (by decide) (fun c119 => ?_) (fun c119 => ?_)
                · skip
                  refine lv_aload_n hx hb dX9_rules_117 rfl (lv_at hl 1 rfl) ?_
                  refine get_X9_22 hx hb hA hown hE hG t_h0 wd_4_152 dX9_rules_118 (fun x120 h121 => ?_)
                  have hk123 : g115 122 0 = g107 122 0 := hf116 122 0 (by decide)
                  have hk124 : g115 114 0 = g107 114 0 := hf116 114 0 (by decide)
                  have hk125 : g115 121 0 = g107 121 0 := hf116 121 0 (by decide)
                  exact W.iret (v := x120) hx hb hr (fun t ht hW => ⟨⟨x120, g115, rfl, ⟨(fun c j h100 h114 h115 h116 h117 h118 h119 h120 h121 h122 h123 h124 h125 => by rw [hf116 c j h123, hf109 c j h114 h121 h122, hf29 c j h115 h116 h117 h118 h119 h120 h124 h125, hf27 c j h115 h116 h117 h118, gs_c _ _ _ _ h124, hf9 c j h100 h119 h115]), (by omega), (by rw [← hZ9]; refine ⟨?_, ?_, ?_⟩; (unfold pz_res; show x120.toInt = if g28 119 0 = 0 then (c9 : Int) else -1 - g28 119 0; rw [if_pos (by omega)]; omega); (show g115 121 0 = if g28 119 0 = 0 then (-1 : Int) else g28 120 0; rw [if_pos (by omega)]; omega); (show g115 118 0 = g28 118 0; exact (by rw [hf116 118 0 (by decide), hf109 118 0 (by decide) (by decide) (by decide)]))), (by rw [(show g115 125 = g107 125 from funext fun j => hf116 125 j (by decide)), (show g107 125 = g28 125 from funext fun j => hf109 125 j (by decide) (by decide) (by decide))]; exact hP9), (by rw [← hZ9]; show (g28 119 0 = 0 → _) ∧ (g28 119 0 ≠ 0 → _); exact ⟨fun _ => ⟨by rw [hb0, show v1_93.toInt.toNat = 120 by omega], by show _ = (c9 : Int); omega⟩, fun q => absurd q (by omega)⟩)⟩, ok1 ht hG⟩, hS.F ht⟩) hS.2.2 dX9_rules_121
                · skip
                  refine lv_aload_n hx hb dX9_rules_99 rfl (lv_at hl 1 rfl) ?_
                  refine get_X9_23 hx hb hA hown hE hG t_h0 wd_4_153 dX9_rules_100 (fun b126 (t_b126 : ty Γ b126 123) => ?_)
                  refine lv_iload_n hx hb dX9_rules_103 rfl (lv_at hl 0 rfl) ?_
                  refine lv_aload_n hx hb dX9_rules_104 rfl (lv_at hl 1 rfl) ?_
                  refine get_X9_25 hx hb hA hown hE hG t_h0 wd_4_155 dX9_rules_105 (fun b127 (t_b127 : ty Γ b127 125) => ?_)
                  refine lv_iload_n hx hb dX9_rules_108 rfl (lv_at hl 0 rfl) ?_
                  refine ald_mI hx hb hE hG 25 rfl (n := 120) rfl (lo := -2147483648) (hi := 2147483647) rfl rfl t_b127 (by omega) dX9_rules_109 (fun j129 x128 h130 h131 h132 => ?_)
                  clear h132
                  obtain rfl : j129 = v1_93.toInt.toNat := by omega
                  replace h131 : x128.toInt = g115 125 v1_93.toInt.toNat := h131
                  have hk133 : g115 125 v1_93.toInt.toNat = g107 125 v1_93.toInt.toNat := hf116 125 v1_93.toInt.toNat (by decide)
                  have hk134 : g107 125 v1_93.toInt.toNat = g28 125 v1_93.toInt.toNat := hf109 125 v1_93.toInt.toNat (by decide) (by decide) (by decide)
                  have hcp9 : g115 125 v1_93.toInt.toNat = g28 125 v1_93.toInt.toNat := by rw [hf116 125 v1_93.toInt.toNat (by decide), hf109 125 v1_93.toInt.toNat (by decide) (by decide) (by decide)]
                  refine ast_mI hx hb hE hG hS hU 23 rfl (n := 120) rfl (lo := -2147483648) (hi := 2147483647) rfl rfl rfl t_b126 (rgD _) (by omega) dX9_rules_110 (fun H locs hG hS => ?_)
                  obtain ⟨x135, h136⟩ : ∃ y : Int32, y = v1_93 + Int32.ofInt (1) := ⟨_, rfl⟩
                  try have h137 : x135.toInt = v1_93.toInt + (1) := ty_inc h136 (by decide) (by omega) (by omega)
                  refine lv_iinc (v := x135) (lv' := [(1, .int x135), (0, .ref h0)]) hx hb dX9_rules_111 hl (k := 0) rfl h136.symm (by decide) rfl (fun ls hl => ?_)
                  refine lv_goto (tgt := 93) hx hb dX9_rules_114 (by decide) ?_
                  exact ih_93 x135 (gs g115 123 v1_93.toInt.toNat x128.toInt) _ _ ls (by omega) (by omega) (fun c j h123 => by rw [gs_c _ _ _ _ h123, hf116 c j h123]) (by rw [pz_gs]; exact lk_s (by rw [← hP9]; omega) (by omega) hb0) hG hS (lv_sub hl [0, 1] rfl)
            exact L_93 ((120 - x113.toInt) + 1).toNat x113 g107 _ _ ls (by omega) (by omega) (fun c j _ => rfl) (by rw [(show g107 123 = g28 123 from funext fun j => hf109 123 j (by decide) (by decide) (by decide)), (show g28 123 = u24 123 from funext fun j => hf29 123 j (by decide) (by decide) (by decide) (by decide) (by decide) (by decide) (by decide) (by decide)), (show u24 123 = (gs g7 124 0 x13.toInt) 123 from funext fun j => hf27 123 j (by decide) (by decide) (by decide) (by decide)), gs_r _ _ _ (by decide), (show g7 123 = g 123 from funext fun j => hf9 123 j (by decide) (by decide) (by decide))]; exact lk_0 (by omega)) hG hS (lv_sub hl [0, 1] rfl)
          · skip
            refine ty_iconst hx hb (-1) dX9_rules_76 (by decide) (fun x138 h139 => ?_)
            refine lv_aload_n hx hb dX9_rules_77 rfl (lv_at hl 0 rfl) ?_
            refine get_X9_19 hx hb hA hown hE hG t_h0 wd_4_149 dX9_rules_78 (fun x140 h141 => ?_)
            replace h141 : x140.toInt = g28 119 0 := by rw [h141, gs_c _ _ _ _ (by decide), gs_c _ _ _ _ (by decide)]
            refine ty_isub hx hb dX9_rules_81 (fun x143 h144 => ?_)
            try have h145 : x143.toInt = x138.toInt - x140.toInt := ty_sub h144 (by omega) (by omega)
            have e146 : (gs (gs g28 114 0 x36.toInt) 121 0 x98.toInt) 114 0 = x36.toInt := by rw [gs_c _ _ _ _ (by decide), gs_self]
            have e147 : (gs (gs g28 114 0 x36.toInt) 121 0 x98.toInt) 121 0 = x98.toInt := by rw [gs_self]
            have hk148 : g28 122 0 = u24 122 0 := hf29 122 0 (by decide) (by decide) (by decide) (by decide) (by decide) (by decide) (by decide) (by decide)
            have hk149 : u24 122 0 = (gs g7 124 0 x13.toInt) 122 0 := hf27 122 0 (by decide) (by decide) (by decide) (by decide)
            replace hk149 : u24 122 0 = g7 122 0 := by rw [hk149, gs_c _ _ _ _ (by decide)]
            have hk150 : g7 122 0 = g 122 0 := hf9 122 0 (by decide) (by decide) (by decide)
            have e151 : (gs (gs g28 114 0 x36.toInt) 121 0 x98.toInt) 122 0 = g28 122 0 := by rw [gs_c _ _ _ _ (by decide), gs_c _ _ _ _ (by decide)]
            have e152 : (gs (gs g28 114 0 x36.toInt) 121 0 x98.toInt) 122 0 = g28 122 0 := by rw [gs_c _ _ _ _ (by decide), gs_c _ _ _ _ (by decide)]
            exact W.iret (v := x143) hx hb hr (fun t ht hW => ⟨⟨x143, (gs (gs g28 114 0 x36.toInt) 121 0 x98.toInt), rfl, ⟨(fun c j h100 h114 h115 h116 h117 h118 h119 h120 h121 h122 h123 h124 h125 => by rw [gs_c _ _ _ _ h121, gs_c _ _ _ _ h114, hf29 c j h115 h116 h117 h118 h119 h120 h124 h125, hf27 c j h115 h116 h117 h118, gs_c _ _ _ _ h124, hf9 c j h100 h119 h115]), (by omega), (by rw [← hZ9]; refine ⟨?_, ?_, ?_⟩; (unfold pz_res; show x143.toInt = if g28 119 0 = 0 then (c9 : Int) else -1 - g28 119 0; rw [if_neg (by omega)]; omega); (show (gs (gs g28 114 0 x36.toInt) 121 0 x98.toInt) 121 0 = if g28 119 0 = 0 then (-1 : Int) else g28 120 0; rw [if_neg (by omega)]; omega); (show (gs (gs g28 114 0 x36.toInt) 121 0 x98.toInt) 118 0 = g28 118 0; exact (by rw [gs_c _ _ _ _ (by decide), gs_c _ _ _ _ (by decide)]))), (by rw [gs_r _ _ _ (by decide), gs_r _ _ _ (by decide)]; exact hP9), (by rw [← hZ9]; show (g28 119 0 = 0 → _) ∧ (g28 119 0 ≠ 0 → _); exact ⟨fun q => absurd q (by omega), fun _ => ⟨by rw [gs_r _ _ _ (by decide), gs_r _ _ _ (by decide), (show g28 123 = u24 123 from funext fun j => hf29 123 j (by decide) (by decide) (by decide) (by decide) (by decide) (by decide) (by decide) (by decide)), (show u24 123 = (gs g7 124 0 x13.toInt) 123 from funext fun j => hf27 123 j (by decide) (by decide) (by decide) (by decide)), gs_r _ _ _ (by decide), (show g7 123 = g 123 from funext fun j => hf9 123 j (by decide) (by decide) (by decide))], by omega⟩⟩)⟩, ok1 ht hG⟩, hS.F ht⟩) hS.2.2 dX9_rules_82
      · skip
        refine lv_aload_n hx hb dX9_rules_31 rfl (lv_at hl 0 rfl) ?_
        refine get_X9_17 hx hb hA hown hE hG t_h0 wd_4_147 dX9_rules_32 (fun x153 h154 => ?_)
        refine ty_if_eq (tgt := 45) hx hb dX9_rules_35 (by decide) (fun c156 => ?_) (fun c156 => ?_)
        · skip
          obtain ⟨c9, hc1, hc2, hc3, hc4⟩ := hq0
          have hP9 : g28 125 = pq_m T N9 31 0 (pz_nx T N9 (0, 0, 0, g 118 0, 0, -1)) (g 125) := by rw [← hc4]; exact (pq_m_no (x := pz_m g28) (by first | exact (fun q => absurd q.2 (show ¬ g28 119 0 = 0 by omega)) | exact (fun q => absurd (pz_s0.mpr (show g28 117 0 = 0 by omega)) q.1))).symm
          have hZ9 : (pz_m g28, (c9 : Int)) = pz_Z T N9 (g 118 0) := by rw [← hc2]; exact (pz_L_no (x := pz_m g28) (by first | exact (fun q => absurd q.2 (show ¬ g28 119 0 = 0 by omega)) | exact (fun q => absurd (pz_s0.mpr (show g28 117 0 = 0 by omega)) q.1))).symm
          refine lv_aload_n hx hb dX9_rules_45 rfl (lv_at hl 0 rfl) ?_
          refine ty_iconst hx hb (0) dX9_rules_46 (by decide) (fun x157 h158 => ?_)
          refine put_X9_14 hx hb hA hown hE hG hS hU t_h0 wd_4_144 dX9_rules_47 (fun H locs hG hS => ?_)
          refine lv_aload_n hx hb dX9_rules_50 rfl (lv_at hl 0 rfl) ?_
          refine lv_aload_n hx hb dX9_rules_51 rfl (lv_at hl 0 rfl) ?_
          refine get_X9_19 hx hb hA hown hE hG t_h0 wd_4_149 dX9_rules_52 (fun x159 h160 => ?_)
          replace h160 : x159.toInt = g28 119 0 := by rw [h160, gs_c _ _ _ _ (by decide)]
          refine ty_if_ne (tgt := 62) hx hb dX9_rules_55 (by decide) (fun c162 => ?_) (fun c162 => ?_)
          · skip
            refine lv_aload_n hx hb dX9_rules_62 rfl (lv_at hl 0 rfl) ?_
            refine get_X9_20 hx hb hA hown hE hG t_h0 wd_4_150 dX9_rules_63 (fun x163 h164 => ?_)
            replace h164 : x163.toInt = g28 120 0 := by rw [h164, gs_c _ _ _ _ (by decide)]
            refine put_X9_21 hx hb hA hown hE hG hS hU t_h0 wd_4_151 dX9_rules_66 (fun H locs hG hS => ?_)
            refine lv_aload_n hx hb dX9_rules_69 rfl (lv_at hl 0 rfl) ?_
            refine get_X9_19 hx hb hA hown hE hG t_h0 wd_4_149 dX9_rules_70 (fun x166 h167 => ?_)
            replace h167 : x166.toInt = g28 119 0 := by rw [h167, gs_c _ _ _ _ (by decide), gs_c _ _ _ _ (by decide)]
            refine ty_if_eq (tgt := 83) hx hb dX9_rules_73 (by decide) (fun c169 => ?_) (fun c169 => ?_)
            · skip
              refine lv_aload_n hx hb dX9_rules_83 rfl (lv_at hl 0 rfl) ?_
              refine lv_aload_n hx hb dX9_rules_84 rfl (lv_at hl 0 rfl) ?_
              refine get_X9_24 hx hb hA hown hE hG t_h0 wd_4_154 dX9_rules_85 (fun x170 h171 => ?_)
              replace h171 : x170.toInt = g28 124 0 := by rw [h171, gs_c _ _ _ _ (by decide), gs_c _ _ _ _ (by decide)]
              refine put_X9_22 hx hb hA hown hE hG hS hU t_h0 wd_4_152 dX9_rules_88 (fun H locs hG hS => ?_)
              generalize eg174 : (gs (gs (gs g28 114 0 x157.toInt) 121 0 x163.toInt) 122 0 x170.toInt) = g173 at hG
              have hf175 : ∀ c j : Nat, c ≠ 114 → c ≠ 121 → c ≠ 122 → g173 c j = g28 c j := fun c j h114 h121 h122 => by rw [← eg174, gs_c _ _ _ _ h122, gs_c _ _ _ _ h121, gs_c _ _ _ _ h114]
              have v176 : g173 114 0 = x157.toInt := by rw [← eg174, gs_c _ _ _ _ (by decide), gs_c _ _ _ _ (by decide), gs_self]
              have v177 : g173 121 0 = x163.toInt := by rw [← eg174, gs_c _ _ _ _ (by decide), gs_self]
              have v178 : g173 122 0 = x170.toInt := by rw [← eg174, gs_self]
              refine ty_iconst hx hb (0) dX9_rules_91 (by decide) (fun x179 h180 => ?_)
              refine lv_istore_n (lv' := [(1, .int x179), (0, .ref h0)]) hx hb dX9_rules_92 rfl hl (by decide) rfl (fun ls hl => ?_)
              have L_93 : ∀ (n : Nat) (v1_93 : Int32) (g181 : gh) (H : Heap) (locs : List Loc) (ls : Array Slot), (120 - v1_93.toInt : Int) < n → 0 ≤ v1_93.toInt ∧ v1_93.toInt ≤ 120 → (∀ c j : Nat, c ≠ 123 → g181 c j = g173 c j) → (g181 123 = lk_f (g 123) (pq_m T N9 31 0 (pz_nx T N9 (0, 0, 0, g 118 0, 0, -1)) (g 125)) v1_93.toInt.toNat) → ty_ok (dC, dI) vwCl Γ (TP dA Γ g181) sz X H → va_S (ty_A sz) s.heap H locs → lv_has ls 2 [(1, .int v1_93), (0, .ref h0)] → W p l e (headSpec (.code yX9_rules cX9_rules 2 (Option.some Jvm.ClassFile.FieldType.int) :: AL) ({ frames := 6, cells := 0, slots := 0, locals := 129 })).room s m ([.ref h0] : List Value).toArray below meth c H locs 0 0 (MQ below (va_Qi (fun (r : Int32) (u : gh) => (∀ c j : Nat, c ≠ 100 → c ≠ 114 → c ≠ 115 → c ≠ 116 → c ≠ 117 → c ≠ 118 → c ≠ 119 → c ≠ 120 → c ≠ 121 → c ≠ 122 → c ≠ 123 → c ≠ 124 → c ≠ 125 → u c j = g c j) ∧ ((u 114 0 = 0) ∧ ((u 122 0 = g 122 0) ∨ (0 ≤ u 122 0 ∧ u 122 0 ≤ 30)) ∧ (u 121 0 = u 121 0)) ∧ (r.toInt = pz_res (pz_Z T N9 (g 118 0)) ∧ u 121 0 = (pz_Z T N9 (g 118 0)).1.2.2.2.2.2 ∧ u 118 0 = (pz_Z T N9 (g 118 0)).1.2.2.2.1) ∧ (u 125 = pq_m T N9 31 0 (pz_nx T N9 (0, 0, 0, g 118 0, 0, -1)) (g 125)) ∧ (((pz_Z T N9 (g 118 0)).1.2.2.2.2.1 = 0 → u 123 = lk_f (g 123) (pq_m T N9 31 0 (pz_nx T N9 (0, 0, 0, g 118 0, 0, -1)) (g 125)) 120 ∧ u 122 0 = (pz_Z T N9 (g 118 0)).2) ∧ ((pz_Z T N9 (g 118 0)).1.2.2.2.2.1 ≠ 0 → u 123 = g 123 ∧ u 122 0 = g 122 0))) (okb dC dI dA sz X Γ) (ty_A sz)) ([.ref h0] : List Value).toArray s 0 0 (ty_A sz)) (F0 m 93 ls []) := by
                intro n
                induction n with
                | zero => intro v1_93 g181 H locs ls hm hi0 hf182 hb0 hG hS hl; exfalso; omega
                | succ n ih_93 =>
                  intro v1_93 g181 H locs ls hm hi0 hf182 hb0 hG hS hl
                  refine lv_iload_n hx hb dX9_rules_93 rfl (lv_at hl 0 rfl) ?_
                  refine ty_bipush hx hb (120) dX9_rules_94 (by decide) (fun x183 h184 => ?_)
                  refine ty_icmp_ge (tgt := 117) hx hb dX9_rules_96 (by decide) (fun c185 => ?_) (fun c185 => ?_)
                  · skip
                    refine lv_aload_n hx hb dX9_rules_117 rfl (lv_at hl 1 rfl) ?_
                    refine get_X9_22 hx hb hA hown hE hG t_h0 wd_4_152 dX9_rules_118 (fun x186 h187 => ?_)
                    have hk189 : g181 122 0 = g173 122 0 := hf182 122 0 (by decide)
                    have hk190 : g181 114 0 = g173 114 0 := hf182 114 0 (by decide)
                    have hk191 : g181 121 0 = g173 121 0 := hf182 121 0 (by decide)
                    exact W.iret (v := x186) hx hb hr (fun t ht hW => ⟨⟨x186, g181, rfl, ⟨(fun c j h100 h114 h115 h116 h117 h118 h119 h120 h121 h122 h123 h124 h125 => by rw [hf182 c j h123, hf175 c j h114 h121 h122, hf29 c j h115 h116 h117 h118 h119 h120 h124 h125, hf27 c j h115 h116 h117 h118, gs_c _ _ _ _ h124, hf9 c j h100 h119 h115]), (by omega), (by rw [← hZ9]; refine ⟨?_, ?_, ?_⟩; (unfold pz_res; show x186.toInt = if g28 119 0 = 0 then (c9 : Int) else -1 - g28 119 0; rw [if_pos (by omega)]; omega); (show g181 121 0 = if g28 119 0 = 0 then (-1 : Int) else g28 120 0; rw [if_pos (by omega)]; omega); (show g181 118 0 = g28 118 0; exact (by rw [hf182 118 0 (by decide), hf175 118 0 (by decide) (by decide) (by decide)]))), (by rw [(show g181 125 = g173 125 from funext fun j => hf182 125 j (by decide)), (show g173 125 = g28 125 from funext fun j => hf175 125 j (by decide) (by decide) (by decide))]; exact hP9), (by rw [← hZ9]; show (g28 119 0 = 0 → _) ∧ (g28 119 0 ≠ 0 → _); exact ⟨fun _ => ⟨by rw [hb0, show v1_93.toInt.toNat = 120 by omega], by show _ = (c9 : Int); omega⟩, fun q => absurd q (by omega)⟩)⟩, ok1 ht hG⟩, hS.F ht⟩) hS.2.2 dX9_rules_121
                  · skip
                    refine lv_aload_n hx hb dX9_rules_99 rfl (lv_at hl 1 rfl) ?_
                    refine get_X9_23 hx hb hA hown hE hG t_h0 wd_4_153 dX9_rules_100 (fun b192 (t_b192 : ty Γ b192 123) => ?_)
                    refine lv_iload_n hx hb dX9_rules_103 rfl (lv_at hl 0 rfl) ?_
                    refine lv_aload_n hx hb dX9_rules_104 rfl (lv_at hl 1 rfl) ?_
                    refine get_X9_25 hx hb hA hown hE hG t_h0 wd_4_155 dX9_rules_105 (fun b193 (t_b193 : ty Γ b193 125) => ?_)
                    refine lv_iload_n hx hb dX9_rules_108 rfl (lv_at hl 0 rfl) ?_
                    refine ald_mI hx hb hE hG 25 rfl (n := 120) rfl (lo := -2147483648) (hi := 2147483647) rfl rfl t_b193 (by omega) dX9_rules_109 (fun j195 x194 h196 h197 h198 => ?_)
                    clear h198
                    obtain rfl : j195 = v1_93.toInt.toNat := by omega
                    replace h197 : x194.toInt = g181 125 v1_93.toInt.toNat := h197
                    have hk199 : g181 125 v1_93.toInt.toNat = g173 125 v1_93.toInt.toNat := hf182 125 v1_93.toInt.toNat (by decide)
                    have hk200 : g173 125 v1_93.toInt.toNat = g28 125 v1_93.toInt.toNat := hf175 125 v1_93.toInt.toNat (by decide) (by decide) (by decide)
                    have hcp9 : g181 125 v1_93.toInt.toNat = g28 125 v1_93.toInt.toNat := by rw [hf182 125 v1_93.toInt.toNat (by decide), hf175 125 v1_93.toInt.toNat (by decide) (by decide) (by decide)]
                    refine ast_mI hx hb hE hG hS hU 23 rfl (n := 120) rfl (lo := -2147483648) (hi := 2147483647) rfl rfl rfl t_b192 (rgD _) (by omega) dX9_rules_110 (fun H locs hG hS => ?_)
                    obtain ⟨x201, h202⟩ : ∃ y : Int32, y = v1_93 + Int32.ofInt (1) := ⟨_, rfl⟩
                    try have h203 : x201.toInt = v1_93.toInt + (1) := ty_inc h202 (by decide) (by omega) (by omega)
                    refine lv_iinc (v := x201) (lv' := [(1, .int x201), (0, .ref h0)]) hx hb dX9_rules_111 hl (k := 0) rfl h202.symm (by decide) rfl (fun ls hl => ?_)
                    refine lv_goto (tgt := 93) hx hb dX9_rules_114 (by decide) ?_
                    exact ih_93 x201 (gs g181 123 v1_93.toInt.toNat x194.toInt) _ _ ls (by omega) (by omega) (fun c j h123 => by rw [gs_c _ _ _ _ h123, hf182 c j h123]) (by rw [pz_gs]; exact lk_s (by rw [← hP9]; omega) (by omega) hb0) hG hS (lv_sub hl [0, 1] rfl)
              exact L_93 ((120 - x179.toInt) + 1).toNat x179 g173 _ _ ls (by omega) (by omega) (fun c j _ => rfl) (by rw [(show g173 123 = g28 123 from funext fun j => hf175 123 j (by decide) (by decide) (by decide)), (show g28 123 = u24 123 from funext fun j => hf29 123 j (by decide) (by decide) (by decide) (by decide) (by decide) (by decide) (by decide) (by decide)), (show u24 123 = (gs g7 124 0 x13.toInt) 123 from funext fun j => hf27 123 j (by decide) (by decide) (by decide) (by decide)), gs_r _ _ _ (by decide), (show g7 123 = g 123 from funext fun j => hf9 123 j (by decide) (by decide) (by decide))]; exact lk_0 (by omega)) hG hS (lv_sub hl [0, 1] rfl)
            · skip
              refine ty_iconst hx hb (-1) dX9_rules_76 (by decide) (fun x204 h205 => ?_)
              refine lv_aload_n hx hb dX9_rules_77 rfl (lv_at hl 0 rfl) ?_
              refine get_X9_19 hx hb hA hown hE hG t_h0 wd_4_149 dX9_rules_78 (fun x206 h207 => ?_)
              replace h207 : x206.toInt = g28 119 0 := by rw [h207, gs_c _ _ _ _ (by decide), gs_c _ _ _ _ (by decide)]
              refine ty_isub hx hb dX9_rules_81 (fun x209 h210 => ?_)
              try have h211 : x209.toInt = x204.toInt - x206.toInt := ty_sub h210 (by omega) (by omega)
              have e212 : (gs (gs g28 114 0 x157.toInt) 121 0 x163.toInt) 114 0 = x157.toInt := by rw [gs_c _ _ _ _ (by decide), gs_self]
              have e213 : (gs (gs g28 114 0 x157.toInt) 121 0 x163.toInt) 121 0 = x163.toInt := by rw [gs_self]
              have hk214 : g28 122 0 = u24 122 0 := hf29 122 0 (by decide) (by decide) (by decide) (by decide) (by decide) (by decide) (by decide) (by decide)
              have hk215 : u24 122 0 = (gs g7 124 0 x13.toInt) 122 0 := hf27 122 0 (by decide) (by decide) (by decide) (by decide)
              replace hk215 : u24 122 0 = g7 122 0 := by rw [hk215, gs_c _ _ _ _ (by decide)]
              have hk216 : g7 122 0 = g 122 0 := hf9 122 0 (by decide) (by decide) (by decide)
              have e217 : (gs (gs g28 114 0 x157.toInt) 121 0 x163.toInt) 122 0 = g28 122 0 := by rw [gs_c _ _ _ _ (by decide), gs_c _ _ _ _ (by decide)]
              have e218 : (gs (gs g28 114 0 x157.toInt) 121 0 x163.toInt) 122 0 = g28 122 0 := by rw [gs_c _ _ _ _ (by decide), gs_c _ _ _ _ (by decide)]
              exact W.iret (v := x209) hx hb hr (fun t ht hW => ⟨⟨x209, (gs (gs g28 114 0 x157.toInt) 121 0 x163.toInt), rfl, ⟨(fun c j h100 h114 h115 h116 h117 h118 h119 h120 h121 h122 h123 h124 h125 => by rw [gs_c _ _ _ _ h121, gs_c _ _ _ _ h114, hf29 c j h115 h116 h117 h118 h119 h120 h124 h125, hf27 c j h115 h116 h117 h118, gs_c _ _ _ _ h124, hf9 c j h100 h119 h115]), (by omega), (by rw [← hZ9]; refine ⟨?_, ?_, ?_⟩; (unfold pz_res; show x209.toInt = if g28 119 0 = 0 then (c9 : Int) else -1 - g28 119 0; rw [if_neg (by omega)]; omega); (show (gs (gs g28 114 0 x157.toInt) 121 0 x163.toInt) 121 0 = if g28 119 0 = 0 then (-1 : Int) else g28 120 0; rw [if_neg (by omega)]; omega); (show (gs (gs g28 114 0 x157.toInt) 121 0 x163.toInt) 118 0 = g28 118 0; exact (by rw [gs_c _ _ _ _ (by decide), gs_c _ _ _ _ (by decide)]))), (by rw [gs_r _ _ _ (by decide), gs_r _ _ _ (by decide)]; exact hP9), (by rw [← hZ9]; show (g28 119 0 = 0 → _) ∧ (g28 119 0 ≠ 0 → _); exact ⟨fun q => absurd q (by omega), fun _ => ⟨by rw [gs_r _ _ _ (by decide), gs_r _ _ _ (by decide), (show g28 123 = u24 123 from funext fun j => hf29 123 j (by decide) (by decide) (by decide) (by decide) (by decide) (by decide) (by decide) (by decide)), (show u24 123 = (gs g7 124 0 x13.toInt) 123 from funext fun j => hf27 123 j (by decide) (by decide) (by decide) (by decide)), gs_r _ _ _ (by decide), (show g7 123 = g 123 from funext fun j => hf9 123 j (by decide) (by decide) (by decide))], by omega⟩⟩)⟩, ok1 ht hG⟩, hS.F ht⟩) hS.2.2 dX9_rules_82
          · skip
            refine ty_iconst hx hb (-1) dX9_rules_58 (by decide) (fun x219 h220 => ?_)
            refine lv_goto (tgt := 66) hx hb dX9_rules_59 (by decide) ?_
            refine put_X9_21 hx hb hA hown hE hG hS hU t_h0 wd_4_151 dX9_rules_66 (fun H locs hG hS => ?_)
            refine lv_aload_n hx hb dX9_rules_69 rfl (lv_at hl 0 rfl) ?_
            refine get_X9_19 hx hb hA hown hE hG t_h0 wd_4_149 dX9_rules_70 (fun x221 h222 => ?_)
            replace h222 : x221.toInt = g28 119 0 := by rw [h222, gs_c _ _ _ _ (by decide), gs_c _ _ _ _ (by decide)]
            refine ty_if_eq (tgt := 83) hx hb dX9_rules_73 (by decide) (fun c224 => ?_) (fun c224 => ?_)
            · skip
              refine lv_aload_n hx hb dX9_rules_83 rfl (lv_at hl 0 rfl) ?_
              refine lv_aload_n hx hb dX9_rules_84 rfl (lv_at hl 0 rfl) ?_
              refine get_X9_24 hx hb hA hown hE hG t_h0 wd_4_154 dX9_rules_85 (fun x225 h226 => ?_)
              replace h226 : x225.toInt = g28 124 0 := by rw [h226, gs_c _ _ _ _ (by decide), gs_c _ _ _ _ (by decide)]
              refine put_X9_22 hx hb hA hown hE hG hS hU t_h0 wd_4_152 dX9_rules_88 (fun H locs hG hS => ?_)
              generalize eg229 : (gs (gs (gs g28 114 0 x157.toInt) 121 0 x219.toInt) 122 0 x225.toInt) = g228 at hG
              have hf230 : ∀ c j : Nat, c ≠ 114 → c ≠ 121 → c ≠ 122 → g228 c j = g28 c j := fun c j h114 h121 h122 => by rw [← eg229, gs_c _ _ _ _ h122, gs_c _ _ _ _ h121, gs_c _ _ _ _ h114]
              have v231 : g228 114 0 = x157.toInt := by rw [← eg229, gs_c _ _ _ _ (by decide), gs_c _ _ _ _ (by decide), gs_self]
              have v232 : g228 121 0 = x219.toInt := by rw [← eg229, gs_c _ _ _ _ (by decide), gs_self]
              have v233 : g228 122 0 = x225.toInt := by rw [← eg229, gs_self]
              refine ty_iconst hx hb (0) dX9_rules_91 (by decide) (fun x234 h235 => ?_)
              refine lv_istore_n (lv' := [(1, .int x234), (0, .ref h0)]) hx hb dX9_rules_92 rfl hl (by decide) rfl (fun ls hl => ?_)
              have L_93 : ∀ (n : Nat) (v1_93 : Int32) (g236 : gh) (H : Heap) (locs : List Loc) (ls : Array Slot), (120 - v1_93.toInt : Int) < n → 0 ≤ v1_93.toInt ∧ v1_93.toInt ≤ 120 → (∀ c j : Nat, c ≠ 123 → g236 c j = g228 c j) → (g236 123 = lk_f (g 123) (pq_m T N9 31 0 (pz_nx T N9 (0, 0, 0, g 118 0, 0, -1)) (g 125)) v1_93.toInt.toNat) → ty_ok (dC, dI) vwCl Γ (TP dA Γ g236) sz X H → va_S (ty_A sz) s.heap H locs → lv_has ls 2 [(1, .int v1_93), (0, .ref h0)] → W p l e (headSpec (.code yX9_rules cX9_rules 2 (Option.some Jvm.ClassFile.FieldType.int) :: AL) ({ frames := 6, cells := 0, slots := 0, locals := 129 })).room s m ([.ref h0] : List Value).toArray below meth c H locs 0 0 (MQ below (va_Qi (fun (r : Int32) (u : gh) => (∀ c j : Nat, c ≠ 100 → c ≠ 114 → c ≠ 115 → c ≠ 116 → c ≠ 117 → c ≠ 118 → c ≠ 119 → c ≠ 120 → c ≠ 121 → c ≠ 122 → c ≠ 123 → c ≠ 124 → c ≠ 125 → u c j = g c j) ∧ ((u 114 0 = 0) ∧ ((u 122 0 = g 122 0) ∨ (0 ≤ u 122 0 ∧ u 122 0 ≤ 30)) ∧ (u 121 0 = u 121 0)) ∧ (r.toInt = pz_res (pz_Z T N9 (g 118 0)) ∧ u 121 0 = (pz_Z T N9 (g 118 0)).1.2.2.2.2.2 ∧ u 118 0 = (pz_Z T N9 (g 118 0)).1.2.2.2.1) ∧ (u 125 = pq_m T N9 31 0 (pz_nx T N9 (0, 0, 0, g 118 0, 0, -1)) (g 125)) ∧ (((pz_Z T N9 (g 118 0)).1.2.2.2.2.1 = 0 → u 123 = lk_f (g 123) (pq_m T N9 31 0 (pz_nx T N9 (0, 0, 0, g 118 0, 0, -1)) (g 125)) 120 ∧ u 122 0 = (pz_Z T N9 (g 118 0)).2) ∧ ((pz_Z T N9 (g 118 0)).1.2.2.2.2.1 ≠ 0 → u 123 = g 123 ∧ u 122 0 = g 122 0))) (okb dC dI dA sz X Γ) (ty_A sz)) ([.ref h0] : List Value).toArray s 0 0 (ty_A sz)) (F0 m 93 ls []) := by
                intro n
                induction n with
                | zero => intro v1_93 g236 H locs ls hm hi0 hf237 hb0 hG hS hl; exfalso; omega
                | succ n ih_93 =>
                  intro v1_93 g236 H locs ls hm hi0 hf237 hb0 hG hS hl
                  refine lv_iload_n hx hb dX9_rules_93 rfl (lv_at hl 0 rfl) ?_
                  refine ty_bipush hx hb (120) dX9_rules_94 (by decide) (fun x238 h239 => ?_)
                  refine ty_icmp_ge (tgt := 117) hx hb dX9_rules_96 (by decide) (fun c240 => ?_) (fun c240 => ?_)
                  · skip
                    refine lv_aload_n hx hb dX9_rules_117 rfl (lv_at hl 1 rfl) ?_
                    refine get_X9_22 hx hb hA hown hE hG t_h0 wd_4_152 dX9_rules_118 (fun x241 h242 => ?_)
                    have hk244 : g236 122 0 = g228 122 0 := hf237 122 0 (by decide)
                    have hk245 : g236 114 0 = g228 114 0 := hf237 114 0 (by decide)
                    have hk246 : g236 121 0 = g228 121 0 := hf237 121 0 (by decide)
                    exact W.iret (v := x241) hx hb hr (fun t ht hW => ⟨⟨x241, g236, rfl, ⟨(fun c j h100 h114 h115 h116 h117 h118 h119 h120 h121 h122 h123 h124 h125 => by rw [hf237 c j h123, hf230 c j h114 h121 h122, hf29 c j h115 h116 h117 h118 h119 h120 h124 h125, hf27 c j h115 h116 h117 h118, gs_c _ _ _ _ h124, hf9 c j h100 h119 h115]), (by omega), (by rw [← hZ9]; refine ⟨?_, ?_, ?_⟩; (unfold pz_res; show x241.toInt = if g28 119 0 = 0 then (c9 : Int) else -1 - g28 119 0; rw [if_pos (by omega)]; omega); (show g236 121 0 = if g28 119 0 = 0 then (-1 : Int) else g28 120 0; rw [if_pos (by omega)]; omega); (show g236 118 0 = g28 118 0; exact (by rw [hf237 118 0 (by decide), hf230 118 0 (by decide) (by decide) (by decide)]))), (by rw [(show g236 125 = g228 125 from funext fun j => hf237 125 j (by decide)), (show g228 125 = g28 125 from funext fun j => hf230 125 j (by decide) (by decide) (by decide))]; exact hP9), (by rw [← hZ9]; show (g28 119 0 = 0 → _) ∧ (g28 119 0 ≠ 0 → _); exact ⟨fun _ => ⟨by rw [hb0, show v1_93.toInt.toNat = 120 by omega], by show _ = (c9 : Int); omega⟩, fun q => absurd q (by omega)⟩)⟩, ok1 ht hG⟩, hS.F ht⟩) hS.2.2 dX9_rules_121
                  · skip
                    refine lv_aload_n hx hb dX9_rules_99 rfl (lv_at hl 1 rfl) ?_
                    refine get_X9_23 hx hb hA hown hE hG t_h0 wd_4_153 dX9_rules_100 (fun b247 (t_b247 : ty Γ b247 123) => ?_)
                    refine lv_iload_n hx hb dX9_rules_103 rfl (lv_at hl 0 rfl) ?_
                    refine lv_aload_n hx hb dX9_rules_104 rfl (lv_at hl 1 rfl) ?_
                    refine get_X9_25 hx hb hA hown hE hG t_h0 wd_4_155 dX9_rules_105 (fun b248 (t_b248 : ty Γ b248 125) => ?_)
                    refine lv_iload_n hx hb dX9_rules_108 rfl (lv_at hl 0 rfl) ?_
                    refine ald_mI hx hb hE hG 25 rfl (n := 120) rfl (lo := -2147483648) (hi := 2147483647) rfl rfl t_b248 (by omega) dX9_rules_109 (fun j250 x249 h251 h252 h253 => ?_)
                    clear h253
                    obtain rfl : j250 = v1_93.toInt.toNat := by omega
                    replace h252 : x249.toInt = g236 125 v1_93.toInt.toNat := h252
                    have hk254 : g236 125 v1_93.toInt.toNat = g228 125 v1_93.toInt.toNat := hf237 125 v1_93.toInt.toNat (by decide)
                    have hk255 : g228 125 v1_93.toInt.toNat = g28 125 v1_93.toInt.toNat := hf230 125 v1_93.toInt.toNat (by decide) (by decide) (by decide)
                    have hcp9 : g236 125 v1_93.toInt.toNat = g28 125 v1_93.toInt.toNat := by rw [hf237 125 v1_93.toInt.toNat (by decide), hf230 125 v1_93.toInt.toNat (by decide) (by decide) (by decide)]
                    refine ast_mI hx hb hE hG hS hU 23 rfl (n := 120) rfl (lo := -2147483648) (hi := 2147483647) rfl rfl rfl t_b247 (rgD _) (by omega) dX9_rules_110 (fun H locs hG hS => ?_)
                    obtain ⟨x256, h257⟩ : ∃ y : Int32, y = v1_93 + Int32.ofInt (1) := ⟨_, rfl⟩
                    try have h258 : x256.toInt = v1_93.toInt + (1) := ty_inc h257 (by decide) (by omega) (by omega)
                    refine lv_iinc (v := x256) (lv' := [(1, .int x256), (0, .ref h0)]) hx hb dX9_rules_111 hl (k := 0) rfl h257.symm (by decide) rfl (fun ls hl => ?_)
                    refine lv_goto (tgt := 93) hx hb dX9_rules_114 (by decide) ?_
                    exact ih_93 x256 (gs g236 123 v1_93.toInt.toNat x249.toInt) _ _ ls (by omega) (by omega) (fun c j h123 => by rw [gs_c _ _ _ _ h123, hf237 c j h123]) (by rw [pz_gs]; exact lk_s (by rw [← hP9]; omega) (by omega) hb0) hG hS (lv_sub hl [0, 1] rfl)
              exact L_93 ((120 - x234.toInt) + 1).toNat x234 g228 _ _ ls (by omega) (by omega) (fun c j _ => rfl) (by rw [(show g228 123 = g28 123 from funext fun j => hf230 123 j (by decide) (by decide) (by decide)), (show g28 123 = u24 123 from funext fun j => hf29 123 j (by decide) (by decide) (by decide) (by decide) (by decide) (by decide) (by decide) (by decide)), (show u24 123 = (gs g7 124 0 x13.toInt) 123 from funext fun j => hf27 123 j (by decide) (by decide) (by decide) (by decide)), gs_r _ _ _ (by decide), (show g7 123 = g 123 from funext fun j => hf9 123 j (by decide) (by decide) (by decide))]; exact lk_0 (by omega)) hG hS (lv_sub hl [0, 1] rfl)
            · skip
              refine ty_iconst hx hb (-1) dX9_rules_76 (by decide) (fun x259 h260 => ?_)
              refine lv_aload_n hx hb dX9_rules_77 rfl (lv_at hl 0 rfl) ?_
              refine get_X9_19 hx hb hA hown hE hG t_h0 wd_4_149 dX9_rules_78 (fun x261 h262 => ?_)
              replace h262 : x261.toInt = g28 119 0 := by rw [h262, gs_c _ _ _ _ (by decide), gs_c _ _ _ _ (by decide)]
              refine ty_isub hx hb dX9_rules_81 (fun x264 h265 => ?_)
              try have h266 : x264.toInt = x259.toInt - x261.toInt := ty_sub h265 (by omega) (by omega)
              have e267 : (gs (gs g28 114 0 x157.toInt) 121 0 x219.toInt) 114 0 = x157.toInt := by rw [gs_c _ _ _ _ (by decide), gs_self]
              have e268 : (gs (gs g28 114 0 x157.toInt) 121 0 x219.toInt) 121 0 = x219.toInt := by rw [gs_self]
              have hk269 : g28 122 0 = u24 122 0 := hf29 122 0 (by decide) (by decide) (by decide) (by decide) (by decide) (by decide) (by decide) (by decide)
              have hk270 : u24 122 0 = (gs g7 124 0 x13.toInt) 122 0 := hf27 122 0 (by decide) (by decide) (by decide) (by decide)
              replace hk270 : u24 122 0 = g7 122 0 := by rw [hk270, gs_c _ _ _ _ (by decide)]
              have hk271 : g7 122 0 = g 122 0 := hf9 122 0 (by decide) (by decide) (by decide)
              have e272 : (gs (gs g28 114 0 x157.toInt) 121 0 x219.toInt) 122 0 = g28 122 0 := by rw [gs_c _ _ _ _ (by decide), gs_c _ _ _ _ (by decide)]
              have e273 : (gs (gs g28 114 0 x157.toInt) 121 0 x219.toInt) 122 0 = g28 122 0 := by rw [gs_c _ _ _ _ (by decide), gs_c _ _ _ _ (by decide)]
              exact W.iret (v := x264) hx hb hr (fun t ht hW => ⟨⟨x264, (gs (gs g28 114 0 x157.toInt) 121 0 x219.toInt), rfl, ⟨(fun c j h100 h114 h115 h116 h117 h118 h119 h120 h121 h122 h123 h124 h125 => by rw [gs_c _ _ _ _ h121, gs_c _ _ _ _ h114, hf29 c j h115 h116 h117 h118 h119 h120 h124 h125, hf27 c j h115 h116 h117 h118, gs_c _ _ _ _ h124, hf9 c j h100 h119 h115]), (by omega), (by rw [← hZ9]; refine ⟨?_, ?_, ?_⟩; (unfold pz_res; show x264.toInt = if g28 119 0 = 0 then (c9 : Int) else -1 - g28 119 0; rw [if_neg (by omega)]; omega); (show (gs (gs g28 114 0 x157.toInt) 121 0 x219.toInt) 121 0 = if g28 119 0 = 0 then (-1 : Int) else g28 120 0; rw [if_neg (by omega)]; omega); (show (gs (gs g28 114 0 x157.toInt) 121 0 x219.toInt) 118 0 = g28 118 0; exact (by rw [gs_c _ _ _ _ (by decide), gs_c _ _ _ _ (by decide)]))), (by rw [gs_r _ _ _ (by decide), gs_r _ _ _ (by decide)]; exact hP9), (by rw [← hZ9]; show (g28 119 0 = 0 → _) ∧ (g28 119 0 ≠ 0 → _); exact ⟨fun q => absurd q (by omega), fun _ => ⟨by rw [gs_r _ _ _ (by decide), gs_r _ _ _ (by decide), (show g28 123 = u24 123 from funext fun j => hf29 123 j (by decide) (by decide) (by decide) (by decide) (by decide) (by decide) (by decide) (by decide)), (show u24 123 = (gs g7 124 0 x13.toInt) 123 from funext fun j => hf27 123 j (by decide) (by decide) (by decide) (by decide)), gs_r _ _ _ (by decide), (show g7 123 = g 123 from funext fun j => hf9 123 j (by decide) (by decide) (by decide))], by omega⟩⟩)⟩, ok1 ht hG⟩, hS.F ht⟩) hS.2.2 dX9_rules_82
        · skip
          refine lv_aload_n hx hb dX9_rules_38 rfl (lv_at hl 0 rfl) ?_
          refine cV (va_runV (C := RX9) (As := []) (rest := []) ⟨hx, hb, hml, hown, hA⟩ (k_X9_readStatement l dC dI dA sz X Γ hU g28 h0 t_h0 T N9  (by omega) (by omega) ((funext fun j => show g28 113 j % 256 = g 113 j % 256 by rw [hf29 113 j (by decide) (by decide) (by decide) (by decide) (by decide) (by decide) (by decide) (by decide), hf27 113 j (by decide) (by decide) (by decide) (by decide), gs_c _ _ _ _ (by decide), hf9 113 j (by decide) (by decide) (by decide)]).trans hT) (by omega)) ⟨callB_of 0 hA (al_A wd_5_88) rfl rfl rfl (hA _ wd_1_7) (hA _ wd_5_85) (by decide +kernel) ⟨Nat.le_of_ble_eq_true rfl, Nat.le_of_ble_eq_true rfl⟩, hA _ wd_5_87, hA _ ws_41⟩ ⟨bl, recv_X9 hE hG t_h0, fun U hU9 hW9 => ⟨rfl, by rw [hU9]; exact hG, hE.go hS hU9 hW9⟩⟩ rfl rfl hl.1 rfl (lv_room (Nat.le_of_ble_eq_true rfl)) dX9_rules_39 ⟨Nat.zero_le _, Nat.zero_le _⟩) hS (fun u274 H locs w275 hG hS => ?_)
          obtain ⟨hf278, w275, hq276, hq277⟩ := w275
          refine lv_goto (tgt := 24) hx hb dX9_rules_42 (by decide) ?_
          have hk279 : u274 114 0 = g28 114 0 := hf278 114 0 (by decide) (by decide) (by decide) (by decide) (by decide) (by decide) (by decide) (by decide)
          exact ih_24 u274 _ _ ls (by omega) (by omega) (by omega) (fun c j h115 h116 h117 h118 h119 h120 h124 h125 => by rw [hf278 c j h115 h116 h117 h118 h119 h120 h124 h125, hf29 c j h115 h116 h117 h118 h119 h120 h124 h125]) (by obtain ⟨c9, h1, h2, h3, h4⟩ := hq0; exact ⟨c9 + 1, by omega, by rw [hq276, h3 (by omega)]; show pz_L T N9 (31 - (c9 + 1)) ((c9 : Int) + 1) _ = _; rw [← pz_L_go (x := pz_m g28) (show pz_s (g28 117 0) ≠ 0 from fun q => absurd (pz_s0.mp q) (by omega)) (show g28 119 0 = 0 by omega), show 31 - (c9 + 1) + 1 = 31 - c9 by omega]; exact h2, fun _ => by omega, Eq.trans (pq_m_go (c := (c9 : Int)) (x := pz_m g28) (show pz_s (g28 117 0) ≠ 0 from fun q => absurd (pz_s0.mp q) (by omega)) (show g28 119 0 = 0 by omega) (by omega) (by omega) (by rw [hq276, h3 (by omega)]) (by rw [hq277, h3 (by omega)])) h4⟩) hG hS (lv_sub hl [0] rfl)
  have hk280 : u24 114 0 = (gs g7 124 0 x13.toInt) 114 0 := hf27 114 0 (by decide) (by decide) (by decide) (by decide)
  replace hk280 : u24 114 0 = g7 114 0 := by rw [hk280, gs_c _ _ _ _ (by decide)]
  have hk281 : u24 119 0 = (gs g7 124 0 x13.toInt) 119 0 := hf27 119 0 (by decide) (by decide) (by decide) (by decide)
  replace hk281 : u24 119 0 = g7 119 0 := by rw [hk281, gs_c _ _ _ _ (by decide)]
  have hk282 : u24 124 0 = (gs g7 124 0 x13.toInt) 124 0 := hf27 124 0 (by decide) (by decide) (by decide) (by decide)
  replace hk282 : u24 124 0 = x13.toInt := by rw [hk282, gs_self]
  exact L_24 ((34 - u24 124 0 - u24 119 0) + 1).toNat u24 _ _ ls (by omega) (by omega) (by omega) (fun c j _ _ _ _ _ _ _ _ => rfl) (⟨0, by decide, by show pz_L T N9 31 0 (pz_m u24) = _; rw [show pz_m u24 = (pz_nx T N9 (0, 0, 0, g 118 0, 0, -1)) by rw [hq26]; exact (show pz_nx T N9 ((gs g7 124 0 x13.toInt) 115 0, (gs g7 124 0 x13.toInt) 116 0, pz_s ((gs g7 124 0 x13.toInt) 117 0), (gs g7 124 0 x13.toInt) 118 0, (gs g7 124 0 x13.toInt) 119 0, if (gs g7 124 0 x13.toInt) 119 0 = 0 then (-1 : Int) else (gs g7 124 0 x13.toInt) 120 0) = _ by rw [show (gs g7 124 0 x13.toInt) 115 0 = 0 by omega, show (gs g7 124 0 x13.toInt) 118 0 = g 118 0 by omega, show (gs g7 124 0 x13.toInt) 119 0 = 0 by omega, if_pos rfl]; exact pz_nx_st)]; rfl, fun _ => by omega, by show pq_m T N9 31 0 (pz_m u24) (u24 125) = _; rw [show pz_m u24 = (pz_nx T N9 (0, 0, 0, g 118 0, 0, -1)) by rw [hq26]; exact (show pz_nx T N9 ((gs g7 124 0 x13.toInt) 115 0, (gs g7 124 0 x13.toInt) 116 0, pz_s ((gs g7 124 0 x13.toInt) 117 0), (gs g7 124 0 x13.toInt) 118 0, (gs g7 124 0 x13.toInt) 119 0, if (gs g7 124 0 x13.toInt) 119 0 = 0 then (-1 : Int) else (gs g7 124 0 x13.toInt) 120 0) = _ by rw [show (gs g7 124 0 x13.toInt) 115 0 = 0 by omega, show (gs g7 124 0 x13.toInt) 118 0 = g 118 0 by omega, show (gs g7 124 0 x13.toInt) 119 0 = 0 by omega, if_pos rfl]; exact pz_nx_st), (show u24 125 = (gs g7 124 0 x13.toInt) 125 from funext fun j => hf27 125 j (by decide) (by decide) (by decide) (by decide)), gs_r _ _ _ (by decide), (show g7 125 = g 125 from funext fun j => hf9 125 j (by decide) (by decide) (by decide))]⟩) hG hS (lv_sub hl [0] rfl)
