set_option maxHeartbeats 4000000 in
set_option maxRecDepth 100000 in
/-- WeekBankModel.owned:  -/
theorem k_X9_owned (l : Launch) (dC : Nat → ClassId) (dI : Nat → Nat → Nat) (dA : Nat → ClassId) (sz : Nat) (X : va_W) (Γ : ty_G) (hU : Un Γ) (g : gh) (h0 : Nat) (t_h0 : ty Γ h0 30) (p1 : Int32) : Met l yX9_owned (.code yX9_owned cX9_owned 4 (Option.some Jvm.ClassFile.FieldType.int) :: AL) ({ frames := 0, cells := 0, slots := 0, locals := 0 }) (PCx dC dI dA sz X Γ g [.ref h0, .int p1]) (va_Qi (fun (r : Int32) (u : gh) => u = g) (okb dC dI dA sz X Γ) (ty_A sz)) 0 0 (ty_A sz) := by
  refine Met.ofW (cc := cX9_owned) (maxL := 4) (ret := (Option.some Jvm.ClassFile.FieldType.int)) (by decide) rfl ?_
  intro p e s m args below meth c s₁ B hml hv
  obtain ⟨rfl, hG, hE⟩ := hv
  have hx := B.exec
  have hb := B.bytes
  have hr := B.returns
  have hts := atoms_spec B.pre
  have hA : ∀ w ∈ AL, w.before _ s = true := fun w h => hts w (List.mem_cons_of_mem _ h)
  have hown : s.vm.findClass RX9 = some m.cls := findClass_of_methodNamed B.named
  have hlocks := B.notSynchronized
  have hS : va_S (ty_A sz) s.heap s.heap [] := va_S.rf
  have hl := lv_entry ([.ref h0, .int p1]) (n := 4) (Nat.le_of_ble_eq_true rfl)
  rw [lg_entry_eq]
  generalize (lg_sl ([.ref h0, .int p1]) ++ List.replicate (4 - (lg_sl ([.ref h0, .int p1])).length) Slot.unset).toArray = ls at hl ⊢
  have hl : lv_has ls 4 [(0, .ref h0), (1, .int p1)] := hl
  refine ty_iconst hx hb (0) dX9_owned_0 (by decide) (fun x1 h2 => ?_)
  refine lv_istore_n (lv' := [(2, .int x1), (0, .ref h0), (1, .int p1)]) hx hb dX9_owned_1 rfl hl (by decide) rfl (fun ls hl => ?_)
  refine ty_iconst hx hb (0) dX9_owned_2 (by decide) (fun x3 h4 => ?_)
  refine lv_istore_n (lv' := [(3, .int x3), (2, .int x1), (0, .ref h0), (1, .int p1)]) hx hb dX9_owned_3 rfl hl (by decide) rfl (fun ls hl => ?_)
  have L_4 : ∀ (n : Nat) (v3_4 : Int32) (v2_4 : Int32) (H : Heap) (locs : List Loc) (ls : Array Slot), (318 - v3_4.toInt : Int) < n → 0 ≤ v3_4.toInt ∧ v3_4.toInt ≤ 318 → ty_ok (dC, dI) vwCl Γ (TP dA Γ g) sz X H → va_S (ty_A sz) s.heap H locs → lv_has ls 4 [(3, .int v3_4), (2, .int v2_4), (0, .ref h0), (1, .int p1)] → W p l e (headSpec (.code yX9_owned cX9_owned 4 (Option.some Jvm.ClassFile.FieldType.int) :: AL) ({ frames := 0, cells := 0, slots := 0, locals := 0 })).room s m ([.ref h0, .int p1] : List Value).toArray below meth c H locs 0 0 (MQ below (va_Qi (fun (r : Int32) (u : gh) => u = g) (okb dC dI dA sz X Γ) (ty_A sz)) ([.ref h0, .int p1] : List Value).toArray s 0 0 (ty_A sz)) (F0 m 4 ls []) := by
    intro n
    induction n with
    | zero => intro v3_4 v2_4 H locs ls hm hi0 hG hS hl; exfalso; omega
    | succ n ih_4 =>
      intro v3_4 v2_4 H locs ls hm hi0 hG hS hl
      refine lv_iload_n hx hb dX9_owned_4 rfl (lv_at hl 0 rfl) ?_
      refine ty_sipush hx hb (318) dX9_owned_5 (by decide) (fun x6 h7 => ?_)
      refine ty_icmp_ge (tgt := 30) hx hb dX9_owned_8 (by decide) (fun c8 => ?_) (fun c8 => ?_)
      · skip
        refine lv_iload_n hx hb dX9_owned_30 rfl (lv_at hl 1 rfl) ?_
        exact W.iret (v := v2_4) hx hb hr (fun t ht hW => ⟨⟨v2_4, g, rfl, rfl, ok1 ht hG⟩, hS.F ht⟩) hS.2.2 dX9_owned_31
      · skip
        refine lv_aload_n hx hb dX9_owned_11 rfl (lv_at hl 2 rfl) ?_
        refine get_X9_9 hx hb hA hown hE hG t_h0 wd_4_139 dX9_owned_12 (fun b9 (t_b9 : ty Γ b9 109) => ?_)
        refine lv_iload_n hx hb dX9_owned_15 rfl (lv_at hl 0 rfl) ?_
        refine ald_mI hx hb hE hG 9 rfl (n := 318) rfl (lo := -2147483648) (hi := 2147483647) rfl rfl t_b9 (by omega) dX9_owned_16 (fun j11 x10 h12 h13 h14 => ?_)
        clear h14
        refine lv_iload_n hx hb dX9_owned_17 rfl (lv_at hl 3 rfl) ?_
        refine ty_icmp_ne (tgt := 24) hx hb dX9_owned_18 (by decide) (fun c15 => ?_) (fun c15 => ?_)
        · skip
          obtain ⟨x16, h17⟩ : ∃ y : Int32, y = v3_4 + Int32.ofInt (1) := ⟨_, rfl⟩
          try have h18 : x16.toInt = v3_4.toInt + (1) := ty_inc h17 (by decide) (by omega) (by omega)
          refine lv_iinc (v := x16) (lv' := [(3, .int x16), (2, .int v2_4), (0, .ref h0), (1, .int p1)]) hx hb dX9_owned_24 hl (k := 0) rfl h17.symm (by decide) rfl (fun ls hl => ?_)
          refine lv_goto (tgt := 4) hx hb dX9_owned_27 (by decide) ?_
          exact ih_4 x16 v2_4 _ _ ls (by omega) (by omega) hG hS (lv_sub hl [0, 1, 2, 3] rfl)
        · skip
          obtain ⟨x19, h20⟩ : ∃ y : Int32, y = v2_4 + Int32.ofInt (1) := ⟨_, rfl⟩
          try have h21 : x19.toInt = v2_4.toInt + (1) := ty_inc h20 (by decide) (by omega) (by omega)
          refine lv_iinc (v := x19) (lv' := [(2, .int x19), (3, .int v3_4), (0, .ref h0), (1, .int p1)]) hx hb dX9_owned_21 hl (k := 1) rfl h20.symm (by decide) rfl (fun ls hl => ?_)
          obtain ⟨x22, h23⟩ : ∃ y : Int32, y = v3_4 + Int32.ofInt (1) := ⟨_, rfl⟩
          try have h24 : x22.toInt = v3_4.toInt + (1) := ty_inc h23 (by decide) (by omega) (by omega)
          refine lv_iinc (v := x22) (lv' := [(3, .int x22), (2, .int x19), (0, .ref h0), (1, .int p1)]) hx hb dX9_owned_24 hl (k := 1) rfl h23.symm (by decide) rfl (fun ls hl => ?_)
          refine lv_goto (tgt := 4) hx hb dX9_owned_27 (by decide) ?_
          exact ih_4 x22 x19 _ _ ls (by omega) (by omega) hG hS (lv_sub hl [0, 1, 2, 3] rfl)
  exact L_4 ((318 - x3.toInt) + 1).toNat x3 x1 _ _ ls (by omega) (by omega) hG hS (lv_sub hl [0, 1, 2, 3] rfl)

set_option maxHeartbeats 4000000 in
set_option maxRecDepth 100000 in
/-- WeekBankModel.dies:  -/
theorem k_X9_dies (l : Launch) (dC : Nat → ClassId) (dI : Nat → Nat → Nat) (dA : Nat → ClassId) (sz : Nat) (X : va_W) (Γ : ty_G) (hU : Un Γ) (g : gh) (h0 : Nat) (t_h0 : ty Γ h0 30) (p1 : Int32) (p2 : Int32) (p3 : Int32) (m4 : 0 ≤ g 104 0 ∧ g 104 0 ≤ 10) (m26 : 0 ≤ g 126 0 ∧ g 126 0 ≤ 200) (m22 : 0 ≤ g 122 0 ∧ g 122 0 ≤ 30) (hIJ : IJ g) : Met l yX9_dies (.code yX9_dies cX9_dies 7 (Option.some Jvm.ClassFile.FieldType.int) :: AL) ({ frames := 1, cells := 0, slots := 0, locals := 22 }) (PCx dC dI dA sz X Γ g [.ref h0, .int p1, .int p2, .int p3]) (va_Qi (fun (r : Int32) (u : gh) => (∀ c j : Nat, c ≠ 100 → c ≠ 106 → c ≠ 108 → c ≠ 109 → c ≠ 132 → c ≠ 135 → u c j = g c j) ∧ (IJ u)) (okb dC dI dA sz X Γ) (ty_A sz)) 0 0 (ty_A sz) := by
  refine Met.ofW (cc := cX9_dies) (maxL := 7) (ret := (Option.some Jvm.ClassFile.FieldType.int)) (by decide) rfl ?_
  intro p e s m args below meth c s₁ B hml hv
  obtain ⟨rfl, hG, hE⟩ := hv
  have hx := B.exec
  have hb := B.bytes
  have hr := B.returns
  have hts := atoms_spec B.pre
  have hA : ∀ w ∈ AL, w.before _ s = true := fun w h => hts w (List.mem_cons_of_mem _ h)
  have hown : s.vm.findClass RX9 = some m.cls := findClass_of_methodNamed B.named
  have hlocks := B.notSynchronized
  have hS : va_S (ty_A sz) s.heap s.heap [] := va_S.rf
  have hl := lv_entry ([.ref h0, .int p1, .int p2, .int p3]) (n := 7) (Nat.le_of_ble_eq_true rfl)
  rw [lg_entry_eq]
  generalize (lg_sl ([.ref h0, .int p1, .int p2, .int p3]) ++ List.replicate (7 - (lg_sl ([.ref h0, .int p1, .int p2, .int p3])).length) Slot.unset).toArray = ls at hl ⊢
  have hl : lv_has ls 7 [(0, .ref h0), (1, .int p1), (2, .int p2), (3, .int p3)] := hl
  refine lv_aload_n hx hb dX9_dies_0 rfl (lv_at hl 0 rfl) ?_
  refine ty_iconst hx hb (0) dX9_dies_1 (by decide) (fun x1 h2 => ?_)
  refine put_X9_0 hx hb hA hown hE hG hS hU t_h0 wd_4_130 dX9_dies_2 (fun H locs hG hS => ?_)
  refine lv_aload_n hx hb dX9_dies_5 rfl (lv_at hl 0 rfl) ?_
  refine lv_iload_n hx hb dX9_dies_6 rfl (lv_at hl 1 rfl) ?_
  have e3 : (gs g 100 0 x1.toInt) 104 0 = g 104 0 := by simp [gs]
  have e4 : (gs g 100 0 x1.toInt) 104 0 = g 104 0 := by simp [gs]
  refine cI (va_runV (C := RX9) (As := [.int p1]) (rest := []) ⟨hx, hb, hml, hown, hA⟩ (k_X9_isAlive l dC dI dA sz X Γ hU (gs g 100 0 x1.toInt) h0 t_h0 p1   (by omega)) ⟨callB_of 1 hA (al_A wd_5_54) rfl rfl rfl (hA _ wd_1_7) (hA _ wd_5_51) (by decide +kernel) ⟨Nat.le_of_ble_eq_true rfl, Nat.le_of_ble_eq_true rfl⟩, hA _ wd_5_53, hA _ ws_37⟩ ⟨bl, recv_X9 hE hG t_h0, fun U hU9 hW9 => ⟨rfl, by rw [hU9]; exact hG, hE.go hS hU9 hW9⟩⟩ rfl rfl hl.1 rfl (lv_room (Nat.le_of_ble_eq_true rfl)) dX9_dies_7 ⟨Nat.zero_le _, Nat.zero_le _⟩) hS (fun x7 u5 H locs w6 hG hS => ?_)
  obtain ⟨eu8, w6⟩ := w6
  rw [eu8] at hG
  refine ty_if_eq (tgt := 26) hx hb dX9_dies_10 (by decide) (fun c9 => ?_) (fun c9 => ?_)
  · skip
    refine ty_iconst hx hb (-1) dX9_dies_26 (by decide) (fun x10 h11 => ?_)
    exact W.iret (v := x10) hx hb hr (fun t ht hW => ⟨⟨x10, (gs g 100 0 x1.toInt), rfl, ⟨(fun c j h100 h106 h108 h109 h132 h135 => by rw [gs_c _ _ _ _ h100]), (by (repeat (first | with_reducible assumption | (refine IJ_c (by decide) (by decide) (by decide) ?_) | (refine IJ_take (by omega) (by omega) ?_) | (refine IJ_how (by omega) ?_) | (refine IJ_by (by omega) ?_))))⟩, ok1 ht hG⟩, hS.F ht⟩) hS.2.2 dX9_dies_27
  · skip
    refine lv_aload_n hx hb dX9_dies_13 rfl (lv_at hl 0 rfl) ?_
    refine lv_iload_n hx hb dX9_dies_14 rfl (lv_at hl 2 rfl) ?_
    have e12 : (gs g 100 0 x1.toInt) 104 0 = g 104 0 := by simp [gs]
    have e13 : (gs g 100 0 x1.toInt) 104 0 = g 104 0 := by simp [gs]
    refine cI (va_runV (C := RX9) (As := [.int p2]) (rest := []) ⟨hx, hb, hml, hown, hA⟩ (k_X9_isAlive l dC dI dA sz X Γ hU (gs g 100 0 x1.toInt) h0 t_h0 p2   (by omega)) ⟨callB_of 1 hA (al_A wd_5_54) rfl rfl rfl (hA _ wd_1_7) (hA _ wd_5_51) (by decide +kernel) ⟨Nat.le_of_ble_eq_true rfl, Nat.le_of_ble_eq_true rfl⟩, hA _ wd_5_53, hA _ ws_37⟩ ⟨bl, recv_X9 hE hG t_h0, fun U hU9 hW9 => ⟨rfl, by rw [hU9]; exact hG, hE.go hS hU9 hW9⟩⟩ rfl rfl hl.1 rfl (lv_room (Nat.le_of_ble_eq_true rfl)) dX9_dies_15 ⟨Nat.zero_le _, Nat.zero_le _⟩) hS (fun x16 u14 H locs w15 hG hS => ?_)
    obtain ⟨eu17, w15⟩ := w15
    rw [eu17] at hG
    refine ty_if_eq (tgt := 26) hx hb dX9_dies_18 (by decide) (fun c18 => ?_) (fun c18 => ?_)
    · skip
      refine ty_iconst hx hb (-1) dX9_dies_26 (by decide) (fun x19 h20 => ?_)
      exact W.iret (v := x19) hx hb hr (fun t ht hW => ⟨⟨x19, (gs g 100 0 x1.toInt), rfl, ⟨(fun c j h100 h106 h108 h109 h132 h135 => by rw [gs_c _ _ _ _ h100]), (by (repeat (first | with_reducible assumption | (refine IJ_c (by decide) (by decide) (by decide) ?_) | (refine IJ_take (by omega) (by omega) ?_) | (refine IJ_how (by omega) ?_) | (refine IJ_by (by omega) ?_))))⟩, ok1 ht hG⟩, hS.F ht⟩) hS.2.2 dX9_dies_27
    · skip
      refine lv_iload_n hx hb dX9_dies_21 rfl (lv_at hl 1 rfl) ?_
      refine lv_iload_n hx hb dX9_dies_22 rfl (lv_at hl 2 rfl) ?_
      refine ty_icmp_ne (tgt := 28) hx hb dX9_dies_23 (by decide) (fun c21 => ?_) (fun c21 => ?_)
      · skip
        refine lv_iload_n hx hb dX9_dies_28 rfl (lv_at hl 3 rfl) ?_
        refine ty_if_ne (tgt := 39) hx hb dX9_dies_29 (by decide) (fun c22 => ?_) (fun c22 => ?_)
        · skip
          refine ty_iconst hx hb (1) dX9_dies_39 (by decide) (fun x23 h24 => ?_)
          refine lv_goto (tgt := 44) hx hb dX9_dies_40 (by decide) ?_
          refine lv_istore (lv' := [(4, .int x23), (0, .ref h0), (1, .int p1), (2, .int p2), (3, .int p3)]) hx hb dX9_dies_44 hl (by decide) rfl (fun ls hl => ?_)
          refine ty_iconst hx hb (0) dX9_dies_46 (by decide) (fun x25 h26 => ?_)
          refine lv_istore (lv' := [(5, .int x25), (4, .int x23), (0, .ref h0), (1, .int p1), (2, .int p2), (3, .int p3)]) hx hb dX9_dies_47 hl (by decide) rfl (fun ls hl => ?_)
          refine ty_iconst hx hb (0) dX9_dies_49 (by decide) (fun x27 h28 => ?_)
          refine lv_istore (lv' := [(6, .int x27), (5, .int x25), (4, .int x23), (0, .ref h0), (1, .int p1), (2, .int p2), (3, .int p3)]) hx hb dX9_dies_50 hl (by decide) rfl (fun ls hl => ?_)
          have L_52 : ∀ (n : Nat) (v6_52 : Int32) (v5_52 : Int32) (g29 : gh) (H : Heap) (locs : List Loc) (ls : Array Slot), (318 - v6_52.toInt : Int) < n → 0 ≤ v6_52.toInt ∧ v6_52.toInt ≤ 318 → (∀ c j : Nat, c ≠ 109 → g29 c j = (gs g 100 0 x1.toInt) c j) → ty_ok (dC, dI) vwCl Γ (TP dA Γ g29) sz X H → va_S (ty_A sz) s.heap H locs → lv_has ls 7 [(6, .int v6_52), (5, .int v5_52), (4, .int x23), (0, .ref h0), (1, .int p1), (2, .int p2), (3, .int p3)] → W p l e (headSpec (.code yX9_dies cX9_dies 7 (Option.some Jvm.ClassFile.FieldType.int) :: AL) ({ frames := 1, cells := 0, slots := 0, locals := 22 })).room s m ([.ref h0, .int p1, .int p2, .int p3] : List Value).toArray below meth c H locs 0 0 (MQ below (va_Qi (fun (r : Int32) (u : gh) => (∀ c j : Nat, c ≠ 100 → c ≠ 106 → c ≠ 108 → c ≠ 109 → c ≠ 132 → c ≠ 135 → u c j = g c j) ∧ (IJ u)) (okb dC dI dA sz X Γ) (ty_A sz)) ([.ref h0, .int p1, .int p2, .int p3] : List Value).toArray s 0 0 (ty_A sz)) (F0 m 52 ls []) := by
            intro n
            induction n with
            | zero => intro v6_52 v5_52 g29 H locs ls hm hi0 hf30 hG hS hl; exfalso; omega
            | succ n ih_52 =>
              intro v6_52 v5_52 g29 H locs ls hm hi0 hf30 hG hS hl
              have hj31 : IJ g29 := IJ_cg (hf30 126 0 (by decide)) (fun j => hf30 132 j (by decide)) (fun j => hf30 134 j (by decide)) (by (repeat (first | with_reducible assumption | (refine IJ_c (by decide) (by decide) (by decide) ?_) | (refine IJ_take (by omega) (by omega) ?_) | (refine IJ_how (by omega) ?_) | (refine IJ_by (by omega) ?_))))
              refine lv_iload hx hb dX9_dies_52 (lv_at hl 0 rfl) ?_
              refine ty_sipush hx hb (318) dX9_dies_54 (by decide) (fun x32 h33 => ?_)
              refine ty_icmp_ge (tgt := 105) hx hb dX9_dies_57 (by decide) (fun c34 => ?_) (fun c34 => ?_)
              · skip
                refine lv_iload hx hb dX9_dies_105 (lv_at hl 2 rfl) ?_
                refine ty_if_eq (tgt := 125) hx hb dX9_dies_107 (by decide) (fun c35 => ?_) (fun c35 => ?_)
                · exfalso; omega
                · skip
                  refine lv_aload_n hx hb dX9_dies_110 rfl (lv_at hl 3 rfl) ?_
                  refine get_X9_6 hx hb hA hown hE hG t_h0 wd_4_136 dX9_dies_111 (fun b36 (t_b36 : ty Γ b36 106) => ?_)
                  refine lv_iload_n hx hb dX9_dies_114 rfl (lv_at hl 5 rfl) ?_
                  refine lv_dup2_11 hx hb dX9_dies_115 rfl rfl ?_
                  refine ald_mI hx hb hE hG 6 rfl (n := 10) rfl (lo := -2147483648) (hi := 2147483647) rfl rfl t_b36 (by omega) dX9_dies_116 (fun j38 x37 h39 h40 h41 => ?_)
                  clear h41
                  refine lv_aload_n hx hb dX9_dies_117 rfl (lv_at hl 3 rfl) ?_
                  refine get_X9_6 hx hb hA hown hE hG t_h0 wd_4_136 dX9_dies_118 (fun b42 (t_b42 : ty Γ b42 106) => ?_)
                  refine lv_iload_n hx hb dX9_dies_121 rfl (lv_at hl 4 rfl) ?_
                  refine ald_mI hx hb hE hG 6 rfl (n := 10) rfl (lo := -2147483648) (hi := 2147483647) rfl rfl t_b42 (by omega) dX9_dies_122 (fun j44 x43 h45 h46 h47 => ?_)
                  clear h47
                  refine ty_iadd hx hb dX9_dies_123 (fun x48 h49 => ?_)
                  refine ast_mI hx hb hE hG hS hU 6 rfl (n := 10) rfl (lo := -2147483648) (hi := 2147483647) rfl rfl rfl t_b36 (rgD _) (by omega) dX9_dies_124 (fun H locs hG hS => ?_)
                  refine lv_aload_n hx hb dX9_dies_125 rfl (lv_at hl 3 rfl) ?_
                  refine get_X9_6 hx hb hA hown hE hG t_h0 wd_4_136 dX9_dies_126 (fun b51 (t_b51 : ty Γ b51 106) => ?_)
                  refine lv_iload_n hx hb dX9_dies_129 rfl (lv_at hl 4 rfl) ?_
                  refine ty_iconst hx hb (0) dX9_dies_130 (by decide) (fun x52 h53 => ?_)
                  refine ast_mI hx hb hE hG hS hU 6 rfl (n := 10) rfl (lo := -2147483648) (hi := 2147483647) rfl rfl rfl t_b51 (rgD _) (by omega) dX9_dies_131 (fun H locs hG hS => ?_)
                  refine lv_aload_n hx hb dX9_dies_132 rfl (lv_at hl 3 rfl) ?_
                  refine get_X9_8 hx hb hA hown hE hG t_h0 wd_4_138 dX9_dies_133 (fun b54 (t_b54 : ty Γ b54 108) => ?_)
                  refine lv_iload_n hx hb dX9_dies_136 rfl (lv_at hl 4 rfl) ?_
                  refine ty_iconst hx hb (1) dX9_dies_137 (by decide) (fun x55 h56 => ?_)
                  refine ast_mZ hx hb hE hG hS hU 8 rfl (n := 10) rfl (lo := 0) (hi := 1) rfl rfl rfl t_b54 (by omega) (by omega) (by omega) dX9_dies_138 (fun H locs hG hS => ?_)
                  generalize eg58 : (gs (gs (gs g29 106 p2.toInt.toNat x48.toInt) 106 p1.toInt.toNat x52.toInt) 108 p1.toInt.toNat x55.toInt) = g57 at hG
                  have hf59 : ∀ c j : Nat, c ≠ 106 → c ≠ 108 → g57 c j = g29 c j := fun c j h106 h108 => by rw [← eg58, gs_c _ _ _ _ h108, gs_c _ _ _ _ h106, gs_c _ _ _ _ h106]
                  have v60 : g57 106 p1.toInt.toNat = x52.toInt := by rw [← eg58, gs_c _ _ _ _ (by decide), gs_self]
                  have v61 : g57 108 p1.toInt.toNat = x55.toInt := by rw [← eg58, gs_self]
                  have hw62 : g57 108 = gs g29 108 p1.toInt.toNat x55.toInt 108 := funext fun j => by rw [← eg58]; exact gs_in (by rw [gs_c _ _ _ _ (by decide), gs_c _ _ _ _ (by decide)])
                  have hj63 : IJ g57 := IJ_cg (hf59 126 0 (by decide) (by decide)) (fun j => hf59 132 j (by decide) (by decide)) (fun j => hf59 134 j (by decide) (by decide)) (by (repeat (first | with_reducible assumption | (refine IJ_c (by decide) (by decide) (by decide) ?_) | (refine IJ_take (by omega) (by omega) ?_) | (refine IJ_how (by omega) ?_) | (refine IJ_by (by omega) ?_))))
                  refine lv_aload_n hx hb dX9_dies_139 rfl (lv_at hl 3 rfl) ?_
                  refine get_X9_35 hx hb hA hown hE hG t_h0 wd_4_165 dX9_dies_140 (fun b64 (t_b64 : ty Γ b64 135) => ?_)
                  refine ty_iconst hx hb (4) dX9_dies_143 (by decide) (fun x65 h66 => ?_)
                  refine ty_sipush hx hb (200) dX9_dies_144 (by decide) (fun x67 h68 => ?_)
                  refine lv_iload_n hx hb dX9_dies_147 rfl (lv_at hl 4 rfl) ?_
                  refine ty_iadd hx hb dX9_dies_148 (fun x69 h70 => ?_)
                  try have h71 : x69.toInt = x67.toInt + p1.toInt := ty_add h70 (by omega) (by omega)
                  refine ty_imul hx hb dX9_dies_149 (fun x72 h73 => ?_)
                  try have h74 : x72.toInt = 4 * x69.toInt := ty_mull h73 (by omega) (by omega) (by omega)
                  refine ty_iconst hx hb (3) dX9_dies_150 (by decide) (fun x75 h76 => ?_)
                  refine ty_iadd hx hb dX9_dies_151 (fun x77 h78 => ?_)
                  try have h79 : x77.toInt = x72.toInt + x75.toInt := ty_add h78 (by omega) (by omega)
                  refine ty_iconst hx hb (0) dX9_dies_152 (by decide) (fun x80 h81 => ?_)
                  refine ast_mI hx hb hE hG hS hU 35 rfl (n := 840) rfl (lo := -2147483648) (hi := 2147483647) rfl rfl rfl t_b64 (rgD _) (by omega) dX9_dies_153 (fun H locs hG hS => ?_)
                  refine ty_iconst hx hb (0) dX9_dies_154 (by decide) (fun x82 h83 => ?_)
                  refine lv_istore (lv' := [(6, .int x82), (5, .int v5_52), (4, .int x23), (0, .ref h0), (1, .int p1), (2, .int p2), (3, .int p3)]) hx hb dX9_dies_155 hl (by decide) rfl (fun ls hl => ?_)
                  have hk85 : g57 126 0 = g29 126 0 := hf59 126 0 (by decide) (by decide)
                  have hk86 : g29 126 0 = (gs g 100 0 x1.toInt) 126 0 := hf30 126 0 (by decide)
                  have hk86 : g29 126 0 = g 126 0 := by rw [hk86]; simp [gs]
                  have e87 : (gs g57 135 x77.toInt.toNat x80.toInt) 126 0 = g57 126 0 := by simp [gs]
                  have L_157 : ∀ (n : Nat) (v6_157 : Int32) (g84 : gh) (H : Heap) (locs : List Loc) (ls : Array Slot), (g84 126 0 - v6_157.toInt : Int) < n → 0 ≤ v6_157.toInt ∧ v6_157.toInt ≤ g84 126 0 → (∀ c j : Nat, c ≠ 132 → g84 c j = (gs g57 135 x77.toInt.toNat x80.toInt) c j) → (IJ g84) → ty_ok (dC, dI) vwCl Γ (TP dA Γ g84) sz X H → va_S (ty_A sz) s.heap H locs → lv_has ls 7 [(6, .int v6_157), (5, .int v5_52), (4, .int x23), (0, .ref h0), (1, .int p1), (2, .int p2), (3, .int p3)] → W p l e (headSpec (.code yX9_dies cX9_dies 7 (Option.some Jvm.ClassFile.FieldType.int) :: AL) ({ frames := 1, cells := 0, slots := 0, locals := 22 })).room s m ([.ref h0, .int p1, .int p2, .int p3] : List Value).toArray below meth c H locs 0 0 (MQ below (va_Qi (fun (r : Int32) (u : gh) => (∀ c j : Nat, c ≠ 100 → c ≠ 106 → c ≠ 108 → c ≠ 109 → c ≠ 132 → c ≠ 135 → u c j = g c j) ∧ (IJ u)) (okb dC dI dA sz X Γ) (ty_A sz)) ([.ref h0, .int p1, .int p2, .int p3] : List Value).toArray s 0 0 (ty_A sz)) (F0 m 157 ls []) := by
                    intro n
                    induction n with
                    | zero => intro v6_157 g84 H locs ls hm hi0 hf88 hq0 hG hS hl; exfalso; omega
                    | succ n ih_157 =>
                      intro v6_157 g84 H locs ls hm hi0 hf88 hq0 hG hS hl
                      have hk89 : g84 126 0 = (gs g57 135 x77.toInt.toNat x80.toInt) 126 0 := hf88 126 0 (by decide)
                      have hk89 : g84 126 0 = g57 126 0 := by rw [hk89]; simp [gs]
                      refine lv_iload hx hb dX9_dies_157 (lv_at hl 0 rfl) ?_
                      refine lv_aload_n hx hb dX9_dies_159 rfl (lv_at hl 3 rfl) ?_
                      refine get_X9_26 hx hb hA hown hE hG t_h0 wd_4_156 dX9_dies_160 (fun x90 h91 => ?_)
                      refine ty_icmp_ge (tgt := 201) hx hb dX9_dies_163 (by decide) (fun c93 => ?_) (fun c93 => ?_)
                      · skip
                        refine lv_iload hx hb dX9_dies_201 (lv_at hl 1 rfl) ?_
                        exact W.iret (v := v5_52) hx hb hr (fun t ht hW => ⟨⟨v5_52, g84, rfl, ⟨(fun c j h100 h106 h108 h109 h132 h135 => by rw [hf88 c j h132, gs_c _ _ _ _ h135, hf59 c j h106 h108, hf30 c j h109, gs_c _ _ _ _ h100]), (by (repeat (first | with_reducible assumption | (refine IJ_c (by decide) (by decide) (by decide) ?_) | (refine IJ_take (by omega) (by omega) ?_) | (refine IJ_how (by omega) ?_) | (refine IJ_by (by omega) ?_))))⟩, ok1 ht hG⟩, hS.F ht⟩) hS.2.2 dX9_dies_203
                      · skip
                        refine lv_aload_n hx hb dX9_dies_166 rfl (lv_at hl 3 rfl) ?_
                        refine get_X9_27 hx hb hA hown hE hG t_h0 wd_4_157 dX9_dies_167 (fun b94 (t_b94 : ty Γ b94 127) => ?_)
                        refine lv_iload hx hb dX9_dies_170 (lv_at hl 0 rfl) ?_
                        refine ald_mI hx hb hE hG 27 rfl (n := 200) rfl (lo := 0) (hi := 9) rfl rfl t_b94 (by omega) dX9_dies_172 (fun j96 x95 h97 h98 h99 => ?_)
                        refine lv_iload_n hx hb dX9_dies_173 rfl (lv_at hl 4 rfl) ?_
                        refine ty_icmp_ne (tgt := 195) hx hb dX9_dies_174 (by decide) (fun c100 => ?_) (fun c100 => ?_)
                        · skip
                          obtain ⟨x101, h102⟩ : ∃ y : Int32, y = v6_157 + Int32.ofInt (1) := ⟨_, rfl⟩
                          try have h103 : x101.toInt = v6_157.toInt + (1) := ty_inc h102 (by decide) (by omega) (by omega)
                          refine lv_iinc (v := x101) (lv' := [(6, .int x101), (5, .int v5_52), (4, .int x23), (0, .ref h0), (1, .int p1), (2, .int p2), (3, .int p3)]) hx hb dX9_dies_195 hl (k := 0) rfl h102.symm (by decide) rfl (fun ls hl => ?_)
                          refine lv_goto (tgt := 157) hx hb dX9_dies_198 (by decide) ?_
                          exact ih_157 x101 g84 _ _ ls (by omega) (by omega) (fun c j h132 => by rw [hf88 c j h132]) (by (repeat (first | with_reducible assumption | (refine IJ_c (by decide) (by decide) (by decide) ?_) | (refine IJ_take (by omega) (by omega) ?_) | (refine IJ_how (by omega) ?_) | (refine IJ_by (by omega) ?_)))) hG hS (lv_sub hl [0, 1, 2, 3, 4, 5, 6] rfl)
                        · skip
                          refine lv_aload_n hx hb dX9_dies_177 rfl (lv_at hl 3 rfl) ?_
                          refine get_X9_32 hx hb hA hown hE hG t_h0 wd_4_162 dX9_dies_178 (fun b104 (t_b104 : ty Γ b104 132) => ?_)
                          refine lv_iload hx hb dX9_dies_181 (lv_at hl 0 rfl) ?_
                          refine ald_mI hx hb hE hG 32 rfl (n := 200) rfl (lo := -2147483648) (hi := 2147483647) rfl rfl t_b104 (by omega) dX9_dies_183 (fun j106 x105 h107 h108 h109 => ?_)
                          clear h109
                          refine ty_if_ne (tgt := 195) hx hb dX9_dies_184 (by decide) (fun c110 => ?_) (fun c110 => ?_)
                          · skip
                            obtain ⟨x111, h112⟩ : ∃ y : Int32, y = v6_157 + Int32.ofInt (1) := ⟨_, rfl⟩
                            try have h113 : x111.toInt = v6_157.toInt + (1) := ty_inc h112 (by decide) (by omega) (by omega)
                            refine lv_iinc (v := x111) (lv' := [(6, .int x111), (5, .int v5_52), (4, .int x23), (0, .ref h0), (1, .int p1), (2, .int p2), (3, .int p3)]) hx hb dX9_dies_195 hl (k := 0) rfl h112.symm (by decide) rfl (fun ls hl => ?_)
                            refine lv_goto (tgt := 157) hx hb dX9_dies_198 (by decide) ?_
                            exact ih_157 x111 g84 _ _ ls (by omega) (by omega) (fun c j h132 => by rw [hf88 c j h132]) (by (repeat (first | with_reducible assumption | (refine IJ_c (by decide) (by decide) (by decide) ?_) | (refine IJ_take (by omega) (by omega) ?_) | (refine IJ_how (by omega) ?_) | (refine IJ_by (by omega) ?_)))) hG hS (lv_sub hl [0, 1, 2, 3, 4, 5, 6] rfl)
                          · skip
                            refine lv_aload_n hx hb dX9_dies_187 rfl (lv_at hl 3 rfl) ?_
                            refine get_X9_32 hx hb hA hown hE hG t_h0 wd_4_162 dX9_dies_188 (fun b114 (t_b114 : ty Γ b114 132) => ?_)
                            refine lv_iload hx hb dX9_dies_191 (lv_at hl 0 rfl) ?_
                            refine ty_iconst hx hb (4) dX9_dies_193 (by decide) (fun x115 h116 => ?_)
                            refine ast_mI hx hb hE hG hS hU 32 rfl (n := 200) rfl (lo := -2147483648) (hi := 2147483647) rfl rfl rfl t_b114 (rgD _) (by omega) dX9_dies_194 (fun H locs hG hS => ?_)
                            obtain ⟨x117, h118⟩ : ∃ y : Int32, y = v6_157 + Int32.ofInt (1) := ⟨_, rfl⟩
                            try have h119 : x117.toInt = v6_157.toInt + (1) := ty_inc h118 (by decide) (by omega) (by omega)
                            refine lv_iinc (v := x117) (lv' := [(6, .int x117), (5, .int v5_52), (4, .int x23), (0, .ref h0), (1, .int p1), (2, .int p2), (3, .int p3)]) hx hb dX9_dies_195 hl (k := 0) rfl h118.symm (by decide) rfl (fun ls hl => ?_)
                            refine lv_goto (tgt := 157) hx hb dX9_dies_198 (by decide) ?_
                            have e120 : (gs g84 132 v6_157.toInt.toNat x115.toInt) 126 0 = g84 126 0 := by simp [gs]
                            exact ih_157 x117 (gs g84 132 v6_157.toInt.toNat x115.toInt) _ _ ls (by omega) (by omega) (fun c j h132 => by rw [gs_c _ _ _ _ h132, hf88 c j h132]) (by (repeat (first | with_reducible assumption | (refine IJ_c (by decide) (by decide) (by decide) ?_) | (refine IJ_take (by omega) (by omega) ?_) | (refine IJ_how (by omega) ?_) | (refine IJ_by (by omega) ?_)))) hG hS (lv_sub hl [0, 1, 2, 3, 4, 5, 6] rfl)
                  have e121 : (gs g57 135 x77.toInt.toNat x80.toInt) 126 0 = g57 126 0 := by simp [gs]
                  exact L_157 (((gs g57 135 x77.toInt.toNat x80.toInt) 126 0 - x82.toInt) + 1).toNat x82 (gs g57 135 x77.toInt.toNat x80.toInt) _ _ ls (by omega) (by omega) (fun c j _ => rfl) (by (repeat (first | with_reducible assumption | (refine IJ_c (by decide) (by decide) (by decide) ?_) | (refine IJ_take (by omega) (by omega) ?_) | (refine IJ_how (by omega) ?_) | (refine IJ_by (by omega) ?_)))) hG hS (lv_sub hl [0, 1, 2, 3, 4, 5, 6] rfl)
              · skip
                refine lv_aload_n hx hb dX9_dies_60 rfl (lv_at hl 3 rfl) ?_
                refine get_X9_9 hx hb hA hown hE hG t_h0 wd_4_139 dX9_dies_61 (fun b122 (t_b122 : ty Γ b122 109) => ?_)
                refine lv_iload hx hb dX9_dies_64 (lv_at hl 0 rfl) ?_
                refine ald_mI hx hb hE hG 9 rfl (n := 318) rfl (lo := -2147483648) (hi := 2147483647) rfl rfl t_b122 (by omega) dX9_dies_66 (fun j124 x123 h125 h126 h127 => ?_)
                clear h127
                refine lv_iload_n hx hb dX9_dies_67 rfl (lv_at hl 4 rfl) ?_
                refine ty_icmp_eq (tgt := 74) hx hb dX9_dies_68 (by decide) (fun c128 => ?_) (fun c128 => ?_)
                · skip
                  refine lv_aload_n hx hb dX9_dies_74 rfl (lv_at hl 3 rfl) ?_
                  refine get_X9_9 hx hb hA hown hE hG t_h0 wd_4_139 dX9_dies_75 (fun b129 (t_b129 : ty Γ b129 109) => ?_)
                  refine lv_iload hx hb dX9_dies_78 (lv_at hl 0 rfl) ?_
                  refine lv_iload hx hb dX9_dies_80 (lv_at hl 2 rfl) ?_
                  refine ty_if_eq (tgt := 89) hx hb dX9_dies_82 (by decide) (fun c130 => ?_) (fun c130 => ?_)
                  · exfalso; omega
                  · skip
                    refine lv_iload_n hx hb dX9_dies_85 rfl (lv_at hl 5 rfl) ?_
                    refine lv_goto (tgt := 90) hx hb dX9_dies_86 (by decide) ?_
                    refine ast_mI hx hb hE hG hS hU 9 rfl (n := 318) rfl (lo := -2147483648) (hi := 2147483647) rfl rfl rfl t_b129 (rgD _) (by omega) dX9_dies_90 (fun H locs hG hS => ?_)
                    refine lv_iload hx hb dX9_dies_91 (lv_at hl 2 rfl) ?_
                    refine ty_if_eq (tgt := 99) hx hb dX9_dies_93 (by decide) (fun c131 => ?_) (fun c131 => ?_)
                    · exfalso; omega
                    · skip
                      obtain ⟨x132, h133⟩ : ∃ y : Int32, y = v5_52 + Int32.ofInt (1) := ⟨_, rfl⟩
                      try have h134 : x132.toInt = v5_52.toInt + (1) := ty_inc h133 (by decide) (by omega) (by omega)
                      refine lv_iinc (v := x132) (lv' := [(5, .int x132), (6, .int v6_52), (4, .int x23), (0, .ref h0), (1, .int p1), (2, .int p2), (3, .int p3)]) hx hb dX9_dies_96 hl (k := 1) rfl h133.symm (by decide) rfl (fun ls hl => ?_)
                      obtain ⟨x135, h136⟩ : ∃ y : Int32, y = v6_52 + Int32.ofInt (1) := ⟨_, rfl⟩
                      try have h137 : x135.toInt = v6_52.toInt + (1) := ty_inc h136 (by decide) (by omega) (by omega)
                      refine lv_iinc (v := x135) (lv' := [(6, .int x135), (5, .int x132), (4, .int x23), (0, .ref h0), (1, .int p1), (2, .int p2), (3, .int p3)]) hx hb dX9_dies_99 hl (k := 1) rfl h136.symm (by decide) rfl (fun ls hl => ?_)
                      refine lv_goto (tgt := 52) hx hb dX9_dies_102 (by decide) ?_
                      exact ih_52 x135 x132 (gs g29 109 v6_52.toInt.toNat p2.toInt) _ _ ls (by omega) (by omega) (fun c j h109 => by rw [gs_c _ _ _ _ h109, hf30 c j h109]) hG hS (lv_sub hl [0, 1, 2, 3, 4, 5, 6] rfl)
                · skip
                  refine lv_goto (tgt := 99) hx hb dX9_dies_71 (by decide) ?_
                  obtain ⟨x138, h139⟩ : ∃ y : Int32, y = v6_52 + Int32.ofInt (1) := ⟨_, rfl⟩
                  try have h140 : x138.toInt = v6_52.toInt + (1) := ty_inc h139 (by decide) (by omega) (by omega)
                  refine lv_iinc (v := x138) (lv' := [(6, .int x138), (5, .int v5_52), (4, .int x23), (0, .ref h0), (1, .int p1), (2, .int p2), (3, .int p3)]) hx hb dX9_dies_99 hl (k := 0) rfl h139.symm (by decide) rfl (fun ls hl => ?_)
                  refine lv_goto (tgt := 52) hx hb dX9_dies_102 (by decide) ?_
                  exact ih_52 x138 v5_52 g29 _ _ ls (by omega) (by omega) (fun c j h109 => by rw [hf30 c j h109]) hG hS (lv_sub hl [0, 1, 2, 3, 4, 5, 6] rfl)
          exact L_52 ((318 - x27.toInt) + 1).toNat x27 x25 (gs g 100 0 x1.toInt) _ _ ls (by omega) (by omega) (fun c j _ => rfl) hG hS (lv_sub hl [0, 1, 2, 3, 4, 5, 6] rfl)
        · skip
          refine lv_aload_n hx hb dX9_dies_32 rfl (lv_at hl 0 rfl) ?_
          have e141 : (gs g 100 0 x1.toInt) 122 0 = g 122 0 := by simp [gs]
          refine cI (va_runV (C := RX9) (As := []) (rest := []) ⟨hx, hb, hml, hown, hA⟩ (k_X9_isBound l dC dI dA sz X Γ hU (gs g 100 0 x1.toInt) h0 t_h0   (by omega)) ⟨callB_of 0 hA (al_A wd_5_209) rfl rfl rfl (hA _ wd_1_7) (hA _ wd_5_206) (by decide +kernel) ⟨Nat.le_of_ble_eq_true rfl, Nat.le_of_ble_eq_true rfl⟩, hA _ wd_5_208, hA _ ws_56⟩ ⟨bl, recv_X9 hE hG t_h0, fun U hU9 hW9 => ⟨rfl, by rw [hU9]; exact hG, hE.go hS hU9 hW9⟩⟩ rfl rfl hl.1 rfl (lv_room (Nat.le_of_ble_eq_true rfl)) dX9_dies_33 ⟨Nat.zero_le _, Nat.zero_le _⟩) hS (fun x144 u142 H locs w143 hG hS => ?_)
          obtain ⟨eu145, w143⟩ := w143
          rw [eu145] at hG
          refine ty_if_eq (tgt := 43) hx hb dX9_dies_36 (by decide) (fun c146 => ?_) (fun c146 => ?_)
          · skip
            refine ty_iconst hx hb (0) dX9_dies_43 (by decide) (fun x147 h148 => ?_)
            refine lv_istore (lv' := [(4, .int x147), (0, .ref h0), (1, .int p1), (2, .int p2), (3, .int p3)]) hx hb dX9_dies_44 hl (by decide) rfl (fun ls hl => ?_)
            refine ty_iconst hx hb (0) dX9_dies_46 (by decide) (fun x149 h150 => ?_)
            refine lv_istore (lv' := [(5, .int x149), (4, .int x147), (0, .ref h0), (1, .int p1), (2, .int p2), (3, .int p3)]) hx hb dX9_dies_47 hl (by decide) rfl (fun ls hl => ?_)
            refine ty_iconst hx hb (0) dX9_dies_49 (by decide) (fun x151 h152 => ?_)
            refine lv_istore (lv' := [(6, .int x151), (5, .int x149), (4, .int x147), (0, .ref h0), (1, .int p1), (2, .int p2), (3, .int p3)]) hx hb dX9_dies_50 hl (by decide) rfl (fun ls hl => ?_)
            have L_52 : ∀ (n : Nat) (v6_52 : Int32) (v5_52 : Int32) (g153 : gh) (H : Heap) (locs : List Loc) (ls : Array Slot), (318 - v6_52.toInt : Int) < n → 0 ≤ v6_52.toInt ∧ v6_52.toInt ≤ 318 → (∀ c j : Nat, c ≠ 109 → g153 c j = (gs g 100 0 x1.toInt) c j) → ty_ok (dC, dI) vwCl Γ (TP dA Γ g153) sz X H → va_S (ty_A sz) s.heap H locs → lv_has ls 7 [(6, .int v6_52), (5, .int v5_52), (4, .int x147), (0, .ref h0), (1, .int p1), (2, .int p2), (3, .int p3)] → W p l e (headSpec (.code yX9_dies cX9_dies 7 (Option.some Jvm.ClassFile.FieldType.int) :: AL) ({ frames := 1, cells := 0, slots := 0, locals := 22 })).room s m ([.ref h0, .int p1, .int p2, .int p3] : List Value).toArray below meth c H locs 0 0 (MQ below (va_Qi (fun (r : Int32) (u : gh) => (∀ c j : Nat, c ≠ 100 → c ≠ 106 → c ≠ 108 → c ≠ 109 → c ≠ 132 → c ≠ 135 → u c j = g c j) ∧ (IJ u)) (okb dC dI dA sz X Γ) (ty_A sz)) ([.ref h0, .int p1, .int p2, .int p3] : List Value).toArray s 0 0 (ty_A sz)) (F0 m 52 ls []) := by
              intro n
              induction n with
              | zero => intro v6_52 v5_52 g153 H locs ls hm hi0 hf154 hG hS hl; exfalso; omega
              | succ n ih_52 =>
                intro v6_52 v5_52 g153 H locs ls hm hi0 hf154 hG hS hl
                have hj155 : IJ g153 := IJ_cg (hf154 126 0 (by decide)) (fun j => hf154 132 j (by decide)) (fun j => hf154 134 j (by decide)) (by (repeat (first | with_reducible assumption | (refine IJ_c (by decide) (by decide) (by decide) ?_) | (refine IJ_take (by omega) (by omega) ?_) | (refine IJ_how (by omega) ?_) | (refine IJ_by (by omega) ?_))))
                refine lv_iload hx hb dX9_dies_52 (lv_at hl 0 rfl) ?_
                refine ty_sipush hx hb (318) dX9_dies_54 (by decide) (fun x156 h157 => ?_)
                refine ty_icmp_ge (tgt := 105) hx hb dX9_dies_57 (by decide) (fun c158 => ?_) (fun c158 => ?_)
                · skip
                  refine lv_iload hx hb dX9_dies_105 (lv_at hl 2 rfl) ?_
                  refine ty_if_eq (tgt := 125) hx hb dX9_dies_107 (by decide) (fun c159 => ?_) (fun c159 => ?_)
                  · skip
                    refine lv_aload_n hx hb dX9_dies_125 rfl (lv_at hl 3 rfl) ?_
                    refine get_X9_6 hx hb hA hown hE hG t_h0 wd_4_136 dX9_dies_126 (fun b160 (t_b160 : ty Γ b160 106) => ?_)
                    refine lv_iload_n hx hb dX9_dies_129 rfl (lv_at hl 4 rfl) ?_
                    refine ty_iconst hx hb (0) dX9_dies_130 (by decide) (fun x161 h162 => ?_)
                    refine ast_mI hx hb hE hG hS hU 6 rfl (n := 10) rfl (lo := -2147483648) (hi := 2147483647) rfl rfl rfl t_b160 (rgD _) (by omega) dX9_dies_131 (fun H locs hG hS => ?_)
                    refine lv_aload_n hx hb dX9_dies_132 rfl (lv_at hl 3 rfl) ?_
                    refine get_X9_8 hx hb hA hown hE hG t_h0 wd_4_138 dX9_dies_133 (fun b163 (t_b163 : ty Γ b163 108) => ?_)
                    refine lv_iload_n hx hb dX9_dies_136 rfl (lv_at hl 4 rfl) ?_
                    refine ty_iconst hx hb (1) dX9_dies_137 (by decide) (fun x164 h165 => ?_)
                    refine ast_mZ hx hb hE hG hS hU 8 rfl (n := 10) rfl (lo := 0) (hi := 1) rfl rfl rfl t_b163 (by omega) (by omega) (by omega) dX9_dies_138 (fun H locs hG hS => ?_)
                    refine lv_aload_n hx hb dX9_dies_139 rfl (lv_at hl 3 rfl) ?_
                    refine get_X9_35 hx hb hA hown hE hG t_h0 wd_4_165 dX9_dies_140 (fun b166 (t_b166 : ty Γ b166 135) => ?_)
                    refine ty_iconst hx hb (4) dX9_dies_143 (by decide) (fun x167 h168 => ?_)
                    refine ty_sipush hx hb (200) dX9_dies_144 (by decide) (fun x169 h170 => ?_)
                    refine lv_iload_n hx hb dX9_dies_147 rfl (lv_at hl 4 rfl) ?_
                    refine ty_iadd hx hb dX9_dies_148 (fun x171 h172 => ?_)
                    try have h173 : x171.toInt = x169.toInt + p1.toInt := ty_add h172 (by omega) (by omega)
                    refine ty_imul hx hb dX9_dies_149 (fun x174 h175 => ?_)
                    try have h176 : x174.toInt = 4 * x171.toInt := ty_mull h175 (by omega) (by omega) (by omega)
                    refine ty_iconst hx hb (3) dX9_dies_150 (by decide) (fun x177 h178 => ?_)
                    refine ty_iadd hx hb dX9_dies_151 (fun x179 h180 => ?_)
                    try have h181 : x179.toInt = x174.toInt + x177.toInt := ty_add h180 (by omega) (by omega)
                    refine ty_iconst hx hb (0) dX9_dies_152 (by decide) (fun x182 h183 => ?_)
                    refine ast_mI hx hb hE hG hS hU 35 rfl (n := 840) rfl (lo := -2147483648) (hi := 2147483647) rfl rfl rfl t_b166 (rgD _) (by omega) dX9_dies_153 (fun H locs hG hS => ?_)
                    generalize eg185 : (gs (gs (gs g153 106 p1.toInt.toNat x161.toInt) 108 p1.toInt.toNat x164.toInt) 135 x179.toInt.toNat x182.toInt) = g184 at hG
                    have hf186 : ∀ c j : Nat, c ≠ 106 → c ≠ 108 → c ≠ 135 → g184 c j = g153 c j := fun c j h106 h108 h135 => by rw [← eg185, gs_c _ _ _ _ h135, gs_c _ _ _ _ h108, gs_c _ _ _ _ h106]
                    have v187 : g184 106 p1.toInt.toNat = x161.toInt := by rw [← eg185, gs_c _ _ _ _ (by decide), gs_c _ _ _ _ (by decide), gs_self]
                    have hw188 : g184 106 = gs g153 106 p1.toInt.toNat x161.toInt 106 := funext fun j => by rw [← eg185, gs_c _ _ _ _ (by decide), gs_c _ _ _ _ (by decide)]
                    have v189 : g184 108 p1.toInt.toNat = x164.toInt := by rw [← eg185, gs_c _ _ _ _ (by decide), gs_self]
                    have hw190 : g184 108 = gs g153 108 p1.toInt.toNat x164.toInt 108 := funext fun j => by rw [← eg185, gs_c _ _ _ _ (by decide)]; exact gs_in (by rw [gs_c _ _ _ _ (by decide)])
                    have v191 : g184 135 x179.toInt.toNat = x182.toInt := by rw [← eg185, gs_self]
                    have hw192 : g184 135 = gs g153 135 x179.toInt.toNat x182.toInt 135 := funext fun j => by rw [← eg185]; exact gs_in (by rw [gs_c _ _ _ _ (by decide), gs_c _ _ _ _ (by decide)])
                    have hj193 : IJ g184 := IJ_cg (hf186 126 0 (by decide) (by decide) (by decide)) (fun j => hf186 132 j (by decide) (by decide) (by decide)) (fun j => hf186 134 j (by decide) (by decide) (by decide)) (by (repeat (first | with_reducible assumption | (refine IJ_c (by decide) (by decide) (by decide) ?_) | (refine IJ_take (by omega) (by omega) ?_) | (refine IJ_how (by omega) ?_) | (refine IJ_by (by omega) ?_))))
                    refine ty_iconst hx hb (0) dX9_dies_154 (by decide) (fun x194 h195 => ?_)
                    refine lv_istore (lv' := [(6, .int x194), (5, .int v5_52), (4, .int x147), (0, .ref h0), (1, .int p1), (2, .int p2), (3, .int p3)]) hx hb dX9_dies_155 hl (by decide) rfl (fun ls hl => ?_)
                    have L_157 : ∀ (n : Nat) (v6_157 : Int32) (g196 : gh) (H : Heap) (locs : List Loc) (ls : Array Slot), (g196 126 0 - v6_157.toInt : Int) < n → 0 ≤ v6_157.toInt ∧ v6_157.toInt ≤ g196 126 0 → (∀ c j : Nat, c ≠ 132 → g196 c j = g184 c j) → (IJ g196) → ty_ok (dC, dI) vwCl Γ (TP dA Γ g196) sz X H → va_S (ty_A sz) s.heap H locs → lv_has ls 7 [(6, .int v6_157), (5, .int v5_52), (4, .int x147), (0, .ref h0), (1, .int p1), (2, .int p2), (3, .int p3)] → W p l e (headSpec (.code yX9_dies cX9_dies 7 (Option.some Jvm.ClassFile.FieldType.int) :: AL) ({ frames := 1, cells := 0, slots := 0, locals := 22 })).room s m ([.ref h0, .int p1, .int p2, .int p3] : List Value).toArray below meth c H locs 0 0 (MQ below (va_Qi (fun (r : Int32) (u : gh) => (∀ c j : Nat, c ≠ 100 → c ≠ 106 → c ≠ 108 → c ≠ 109 → c ≠ 132 → c ≠ 135 → u c j = g c j) ∧ (IJ u)) (okb dC dI dA sz X Γ) (ty_A sz)) ([.ref h0, .int p1, .int p2, .int p3] : List Value).toArray s 0 0 (ty_A sz)) (F0 m 157 ls []) := by
                      intro n
                      induction n with
                      | zero => intro v6_157 g196 H locs ls hm hi0 hf197 hq0 hG hS hl; exfalso; omega
                      | succ n ih_157 =>
                        intro v6_157 g196 H locs ls hm hi0 hf197 hq0 hG hS hl
                        have hk198 : g196 126 0 = g184 126 0 := hf197 126 0 (by decide)
                        have hk199 : g184 126 0 = g153 126 0 := hf186 126 0 (by decide) (by decide) (by decide)
                        have hk200 : g153 126 0 = (gs g 100 0 x1.toInt) 126 0 := hf154 126 0 (by decide)
                        have hk200 : g153 126 0 = g 126 0 := by rw [hk200]; simp [gs]
                        refine lv_iload hx hb dX9_dies_157 (lv_at hl 0 rfl) ?_
                        refine lv_aload_n hx hb dX9_dies_159 rfl (lv_at hl 3 rfl) ?_
                        refine get_X9_26 hx hb hA hown hE hG t_h0 wd_4_156 dX9_dies_160 (fun x201 h202 => ?_)
                        refine ty_icmp_ge (tgt := 201) hx hb dX9_dies_163 (by decide) (fun c204 => ?_) (fun c204 => ?_)
                        · skip
                          refine lv_iload hx hb dX9_dies_201 (lv_at hl 1 rfl) ?_
                          exact W.iret (v := v5_52) hx hb hr (fun t ht hW => ⟨⟨v5_52, g196, rfl, ⟨(fun c j h100 h106 h108 h109 h132 h135 => by rw [hf197 c j h132, hf186 c j h106 h108 h135, hf154 c j h109, gs_c _ _ _ _ h100]), (by (repeat (first | with_reducible assumption | (refine IJ_c (by decide) (by decide) (by decide) ?_) | (refine IJ_take (by omega) (by omega) ?_) | (refine IJ_how (by omega) ?_) | (refine IJ_by (by omega) ?_))))⟩, ok1 ht hG⟩, hS.F ht⟩) hS.2.2 dX9_dies_203
                        · skip
                          refine lv_aload_n hx hb dX9_dies_166 rfl (lv_at hl 3 rfl) ?_
                          refine get_X9_27 hx hb hA hown hE hG t_h0 wd_4_157 dX9_dies_167 (fun b205 (t_b205 : ty Γ b205 127) => ?_)
                          refine lv_iload hx hb dX9_dies_170 (lv_at hl 0 rfl) ?_
                          refine ald_mI hx hb hE hG 27 rfl (n := 200) rfl (lo := 0) (hi := 9) rfl rfl t_b205 (by omega) dX9_dies_172 (fun j207 x206 h208 h209 h210 => ?_)
                          refine lv_iload_n hx hb dX9_dies_173 rfl (lv_at hl 4 rfl) ?_
                          refine ty_icmp_ne (tgt := 195) hx hb dX9_dies_174 (by decide) (fun c211 => ?_) (fun c211 => ?_)
                          · skip
                            obtain ⟨x212, h213⟩ : ∃ y : Int32, y = v6_157 + Int32.ofInt (1) := ⟨_, rfl⟩
                            try have h214 : x212.toInt = v6_157.toInt + (1) := ty_inc h213 (by decide) (by omega) (by omega)
                            refine lv_iinc (v := x212) (lv' := [(6, .int x212), (5, .int v5_52), (4, .int x147), (0, .ref h0), (1, .int p1), (2, .int p2), (3, .int p3)]) hx hb dX9_dies_195 hl (k := 0) rfl h213.symm (by decide) rfl (fun ls hl => ?_)
                            refine lv_goto (tgt := 157) hx hb dX9_dies_198 (by decide) ?_
                            exact ih_157 x212 g196 _ _ ls (by omega) (by omega) (fun c j h132 => by rw [hf197 c j h132]) (by (repeat (first | with_reducible assumption | (refine IJ_c (by decide) (by decide) (by decide) ?_) | (refine IJ_take (by omega) (by omega) ?_) | (refine IJ_how (by omega) ?_) | (refine IJ_by (by omega) ?_)))) hG hS (lv_sub hl [0, 1, 2, 3, 4, 5, 6] rfl)
                          · skip
                            refine lv_aload_n hx hb dX9_dies_177 rfl (lv_at hl 3 rfl) ?_
                            refine get_X9_32 hx hb hA hown hE hG t_h0 wd_4_162 dX9_dies_178 (fun b215 (t_b215 : ty Γ b215 132) => ?_)
                            refine lv_iload hx hb dX9_dies_181 (lv_at hl 0 rfl) ?_
                            refine ald_mI hx hb hE hG 32 rfl (n := 200) rfl (lo := -2147483648) (hi := 2147483647) rfl rfl t_b215 (by omega) dX9_dies_183 (fun j217 x216 h218 h219 h220 => ?_)
                            clear h220
                            refine ty_if_ne (tgt := 195) hx hb dX9_dies_184 (by decide) (fun c221 => ?_) (fun c221 => ?_)
                            · skip
                              obtain ⟨x222, h223⟩ : ∃ y : Int32, y = v6_157 + Int32.ofInt (1) := ⟨_, rfl⟩
                              try have h224 : x222.toInt = v6_157.toInt + (1) := ty_inc h223 (by decide) (by omega) (by omega)
                              refine lv_iinc (v := x222) (lv' := [(6, .int x222), (5, .int v5_52), (4, .int x147), (0, .ref h0), (1, .int p1), (2, .int p2), (3, .int p3)]) hx hb dX9_dies_195 hl (k := 0) rfl h223.symm (by decide) rfl (fun ls hl => ?_)
                              refine lv_goto (tgt := 157) hx hb dX9_dies_198 (by decide) ?_
                              exact ih_157 x222 g196 _ _ ls (by omega) (by omega) (fun c j h132 => by rw [hf197 c j h132]) (by (repeat (first | with_reducible assumption | (refine IJ_c (by decide) (by decide) (by decide) ?_) | (refine IJ_take (by omega) (by omega) ?_) | (refine IJ_how (by omega) ?_) | (refine IJ_by (by omega) ?_)))) hG hS (lv_sub hl [0, 1, 2, 3, 4, 5, 6] rfl)
                            · skip
                              refine lv_aload_n hx hb dX9_dies_187 rfl (lv_at hl 3 rfl) ?_
                              refine get_X9_32 hx hb hA hown hE hG t_h0 wd_4_162 dX9_dies_188 (fun b225 (t_b225 : ty Γ b225 132) => ?_)
                              refine lv_iload hx hb dX9_dies_191 (lv_at hl 0 rfl) ?_
                              refine ty_iconst hx hb (4) dX9_dies_193 (by decide) (fun x226 h227 => ?_)
                              refine ast_mI hx hb hE hG hS hU 32 rfl (n := 200) rfl (lo := -2147483648) (hi := 2147483647) rfl rfl rfl t_b225 (rgD _) (by omega) dX9_dies_194 (fun H locs hG hS => ?_)
                              obtain ⟨x228, h229⟩ : ∃ y : Int32, y = v6_157 + Int32.ofInt (1) := ⟨_, rfl⟩
                              try have h230 : x228.toInt = v6_157.toInt + (1) := ty_inc h229 (by decide) (by omega) (by omega)
                              refine lv_iinc (v := x228) (lv' := [(6, .int x228), (5, .int v5_52), (4, .int x147), (0, .ref h0), (1, .int p1), (2, .int p2), (3, .int p3)]) hx hb dX9_dies_195 hl (k := 0) rfl h229.symm (by decide) rfl (fun ls hl => ?_)
                              refine lv_goto (tgt := 157) hx hb dX9_dies_198 (by decide) ?_
                              have e231 : (gs g196 132 v6_157.toInt.toNat x226.toInt) 126 0 = g196 126 0 := by simp [gs]
                              exact ih_157 x228 (gs g196 132 v6_157.toInt.toNat x226.toInt) _ _ ls (by omega) (by omega) (fun c j h132 => by rw [gs_c _ _ _ _ h132, hf197 c j h132]) (by (repeat (first | with_reducible assumption | (refine IJ_c (by decide) (by decide) (by decide) ?_) | (refine IJ_take (by omega) (by omega) ?_) | (refine IJ_how (by omega) ?_) | (refine IJ_by (by omega) ?_)))) hG hS (lv_sub hl [0, 1, 2, 3, 4, 5, 6] rfl)
                    have hk232 : g184 126 0 = g153 126 0 := hf186 126 0 (by decide) (by decide) (by decide)
                    have hk233 : g153 126 0 = (gs g 100 0 x1.toInt) 126 0 := hf154 126 0 (by decide)
                    have hk233 : g153 126 0 = g 126 0 := by rw [hk233]; simp [gs]
                    exact L_157 ((g184 126 0 - x194.toInt) + 1).toNat x194 g184 _ _ ls (by omega) (by omega) (fun c j _ => rfl) (by (repeat (first | with_reducible assumption | (refine IJ_c (by decide) (by decide) (by decide) ?_) | (refine IJ_take (by omega) (by omega) ?_) | (refine IJ_how (by omega) ?_) | (refine IJ_by (by omega) ?_)))) hG hS (lv_sub hl [0, 1, 2, 3, 4, 5, 6] rfl)
                  · exfalso; omega
                · skip
                  refine lv_aload_n hx hb dX9_dies_60 rfl (lv_at hl 3 rfl) ?_
                  refine get_X9_9 hx hb hA hown hE hG t_h0 wd_4_139 dX9_dies_61 (fun b234 (t_b234 : ty Γ b234 109) => ?_)
                  refine lv_iload hx hb dX9_dies_64 (lv_at hl 0 rfl) ?_
                  refine ald_mI hx hb hE hG 9 rfl (n := 318) rfl (lo := -2147483648) (hi := 2147483647) rfl rfl t_b234 (by omega) dX9_dies_66 (fun j236 x235 h237 h238 h239 => ?_)
                  clear h239
                  refine lv_iload_n hx hb dX9_dies_67 rfl (lv_at hl 4 rfl) ?_
                  refine ty_icmp_eq (tgt := 74) hx hb dX9_dies_68 (by decide) (fun c240 => ?_) (fun c240 => ?_)
                  · skip
                    refine lv_aload_n hx hb dX9_dies_74 rfl (lv_at hl 3 rfl) ?_
                    refine get_X9_9 hx hb hA hown hE hG t_h0 wd_4_139 dX9_dies_75 (fun b241 (t_b241 : ty Γ b241 109) => ?_)
                    refine lv_iload hx hb dX9_dies_78 (lv_at hl 0 rfl) ?_
                    refine lv_iload hx hb dX9_dies_80 (lv_at hl 2 rfl) ?_
                    refine ty_if_eq (tgt := 89) hx hb dX9_dies_82 (by decide) (fun c242 => ?_) (fun c242 => ?_)
                    · skip
                      refine ty_iconst hx hb (-1) dX9_dies_89 (by decide) (fun x243 h244 => ?_)
                      refine ast_mI hx hb hE hG hS hU 9 rfl (n := 318) rfl (lo := -2147483648) (hi := 2147483647) rfl rfl rfl t_b241 (rgD _) (by omega) dX9_dies_90 (fun H locs hG hS => ?_)
                      refine lv_iload hx hb dX9_dies_91 (lv_at hl 2 rfl) ?_
                      refine ty_if_eq (tgt := 99) hx hb dX9_dies_93 (by decide) (fun c245 => ?_) (fun c245 => ?_)
                      · skip
                        obtain ⟨x246, h247⟩ : ∃ y : Int32, y = v6_52 + Int32.ofInt (1) := ⟨_, rfl⟩
                        try have h248 : x246.toInt = v6_52.toInt + (1) := ty_inc h247 (by decide) (by omega) (by omega)
                        refine lv_iinc (v := x246) (lv' := [(6, .int x246), (5, .int v5_52), (4, .int x147), (0, .ref h0), (1, .int p1), (2, .int p2), (3, .int p3)]) hx hb dX9_dies_99 hl (k := 0) rfl h247.symm (by decide) rfl (fun ls hl => ?_)
                        refine lv_goto (tgt := 52) hx hb dX9_dies_102 (by decide) ?_
                        exact ih_52 x246 v5_52 (gs g153 109 v6_52.toInt.toNat x243.toInt) _ _ ls (by omega) (by omega) (fun c j h109 => by rw [gs_c _ _ _ _ h109, hf154 c j h109]) hG hS (lv_sub hl [0, 1, 2, 3, 4, 5, 6] rfl)
                      · exfalso; omega
                    · exfalso; omega
                  · skip
                    refine lv_goto (tgt := 99) hx hb dX9_dies_71 (by decide) ?_
                    obtain ⟨x249, h250⟩ : ∃ y : Int32, y = v6_52 + Int32.ofInt (1) := ⟨_, rfl⟩
                    try have h251 : x249.toInt = v6_52.toInt + (1) := ty_inc h250 (by decide) (by omega) (by omega)
                    refine lv_iinc (v := x249) (lv' := [(6, .int x249), (5, .int v5_52), (4, .int x147), (0, .ref h0), (1, .int p1), (2, .int p2), (3, .int p3)]) hx hb dX9_dies_99 hl (k := 0) rfl h250.symm (by decide) rfl (fun ls hl => ?_)
                    refine lv_goto (tgt := 52) hx hb dX9_dies_102 (by decide) ?_
                    exact ih_52 x249 v5_52 g153 _ _ ls (by omega) (by omega) (fun c j h109 => by rw [hf154 c j h109]) hG hS (lv_sub hl [0, 1, 2, 3, 4, 5, 6] rfl)
            exact L_52 ((318 - x151.toInt) + 1).toNat x151 x149 (gs g 100 0 x1.toInt) _ _ ls (by omega) (by omega) (fun c j _ => rfl) hG hS (lv_sub hl [0, 1, 2, 3, 4, 5, 6] rfl)
          · skip
            refine ty_iconst hx hb (1) dX9_dies_39 (by decide) (fun x252 h253 => ?_)
            refine lv_goto (tgt := 44) hx hb dX9_dies_40 (by decide) ?_
            refine lv_istore (lv' := [(4, .int x252), (0, .ref h0), (1, .int p1), (2, .int p2), (3, .int p3)]) hx hb dX9_dies_44 hl (by decide) rfl (fun ls hl => ?_)
            refine ty_iconst hx hb (0) dX9_dies_46 (by decide) (fun x254 h255 => ?_)
            refine lv_istore (lv' := [(5, .int x254), (4, .int x252), (0, .ref h0), (1, .int p1), (2, .int p2), (3, .int p3)]) hx hb dX9_dies_47 hl (by decide) rfl (fun ls hl => ?_)
            refine ty_iconst hx hb (0) dX9_dies_49 (by decide) (fun x256 h257 => ?_)
            refine lv_istore (lv' := [(6, .int x256), (5, .int x254), (4, .int x252), (0, .ref h0), (1, .int p1), (2, .int p2), (3, .int p3)]) hx hb dX9_dies_50 hl (by decide) rfl (fun ls hl => ?_)
            have L_52 : ∀ (n : Nat) (v6_52 : Int32) (v5_52 : Int32) (g258 : gh) (H : Heap) (locs : List Loc) (ls : Array Slot), (318 - v6_52.toInt : Int) < n → 0 ≤ v6_52.toInt ∧ v6_52.toInt ≤ 318 → (∀ c j : Nat, c ≠ 109 → g258 c j = (gs g 100 0 x1.toInt) c j) → ty_ok (dC, dI) vwCl Γ (TP dA Γ g258) sz X H → va_S (ty_A sz) s.heap H locs → lv_has ls 7 [(6, .int v6_52), (5, .int v5_52), (4, .int x252), (0, .ref h0), (1, .int p1), (2, .int p2), (3, .int p3)] → W p l e (headSpec (.code yX9_dies cX9_dies 7 (Option.some Jvm.ClassFile.FieldType.int) :: AL) ({ frames := 1, cells := 0, slots := 0, locals := 22 })).room s m ([.ref h0, .int p1, .int p2, .int p3] : List Value).toArray below meth c H locs 0 0 (MQ below (va_Qi (fun (r : Int32) (u : gh) => (∀ c j : Nat, c ≠ 100 → c ≠ 106 → c ≠ 108 → c ≠ 109 → c ≠ 132 → c ≠ 135 → u c j = g c j) ∧ (IJ u)) (okb dC dI dA sz X Γ) (ty_A sz)) ([.ref h0, .int p1, .int p2, .int p3] : List Value).toArray s 0 0 (ty_A sz)) (F0 m 52 ls []) := by
              intro n
              induction n with
              | zero => intro v6_52 v5_52 g258 H locs ls hm hi0 hf259 hG hS hl; exfalso; omega
              | succ n ih_52 =>
                intro v6_52 v5_52 g258 H locs ls hm hi0 hf259 hG hS hl
                have hj260 : IJ g258 := IJ_cg (hf259 126 0 (by decide)) (fun j => hf259 132 j (by decide)) (fun j => hf259 134 j (by decide)) (by (repeat (first | with_reducible assumption | (refine IJ_c (by decide) (by decide) (by decide) ?_) | (refine IJ_take (by omega) (by omega) ?_) | (refine IJ_how (by omega) ?_) | (refine IJ_by (by omega) ?_))))
                refine lv_iload hx hb dX9_dies_52 (lv_at hl 0 rfl) ?_
                refine ty_sipush hx hb (318) dX9_dies_54 (by decide) (fun x261 h262 => ?_)
                refine ty_icmp_ge (tgt := 105) hx hb dX9_dies_57 (by decide) (fun c263 => ?_) (fun c263 => ?_)
                · skip
                  refine lv_iload hx hb dX9_dies_105 (lv_at hl 2 rfl) ?_
                  refine ty_if_eq (tgt := 125) hx hb dX9_dies_107 (by decide) (fun c264 => ?_) (fun c264 => ?_)
                  · exfalso; omega
                  · skip
                    refine lv_aload_n hx hb dX9_dies_110 rfl (lv_at hl 3 rfl) ?_
                    refine get_X9_6 hx hb hA hown hE hG t_h0 wd_4_136 dX9_dies_111 (fun b265 (t_b265 : ty Γ b265 106) => ?_)
                    refine lv_iload_n hx hb dX9_dies_114 rfl (lv_at hl 5 rfl) ?_
                    refine lv_dup2_11 hx hb dX9_dies_115 rfl rfl ?_
                    refine ald_mI hx hb hE hG 6 rfl (n := 10) rfl (lo := -2147483648) (hi := 2147483647) rfl rfl t_b265 (by omega) dX9_dies_116 (fun j267 x266 h268 h269 h270 => ?_)
                    clear h270
                    refine lv_aload_n hx hb dX9_dies_117 rfl (lv_at hl 3 rfl) ?_
                    refine get_X9_6 hx hb hA hown hE hG t_h0 wd_4_136 dX9_dies_118 (fun b271 (t_b271 : ty Γ b271 106) => ?_)
                    refine lv_iload_n hx hb dX9_dies_121 rfl (lv_at hl 4 rfl) ?_
                    refine ald_mI hx hb hE hG 6 rfl (n := 10) rfl (lo := -2147483648) (hi := 2147483647) rfl rfl t_b271 (by omega) dX9_dies_122 (fun j273 x272 h274 h275 h276 => ?_)
                    clear h276
                    refine ty_iadd hx hb dX9_dies_123 (fun x277 h278 => ?_)
                    refine ast_mI hx hb hE hG hS hU 6 rfl (n := 10) rfl (lo := -2147483648) (hi := 2147483647) rfl rfl rfl t_b265 (rgD _) (by omega) dX9_dies_124 (fun H locs hG hS => ?_)
                    refine lv_aload_n hx hb dX9_dies_125 rfl (lv_at hl 3 rfl) ?_
                    refine get_X9_6 hx hb hA hown hE hG t_h0 wd_4_136 dX9_dies_126 (fun b280 (t_b280 : ty Γ b280 106) => ?_)
                    refine lv_iload_n hx hb dX9_dies_129 rfl (lv_at hl 4 rfl) ?_
                    refine ty_iconst hx hb (0) dX9_dies_130 (by decide) (fun x281 h282 => ?_)
                    refine ast_mI hx hb hE hG hS hU 6 rfl (n := 10) rfl (lo := -2147483648) (hi := 2147483647) rfl rfl rfl t_b280 (rgD _) (by omega) dX9_dies_131 (fun H locs hG hS => ?_)
                    refine lv_aload_n hx hb dX9_dies_132 rfl (lv_at hl 3 rfl) ?_
                    refine get_X9_8 hx hb hA hown hE hG t_h0 wd_4_138 dX9_dies_133 (fun b283 (t_b283 : ty Γ b283 108) => ?_)
                    refine lv_iload_n hx hb dX9_dies_136 rfl (lv_at hl 4 rfl) ?_
                    refine ty_iconst hx hb (1) dX9_dies_137 (by decide) (fun x284 h285 => ?_)
                    refine ast_mZ hx hb hE hG hS hU 8 rfl (n := 10) rfl (lo := 0) (hi := 1) rfl rfl rfl t_b283 (by omega) (by omega) (by omega) dX9_dies_138 (fun H locs hG hS => ?_)
                    generalize eg287 : (gs (gs (gs g258 106 p2.toInt.toNat x277.toInt) 106 p1.toInt.toNat x281.toInt) 108 p1.toInt.toNat x284.toInt) = g286 at hG
                    have hf288 : ∀ c j : Nat, c ≠ 106 → c ≠ 108 → g286 c j = g258 c j := fun c j h106 h108 => by rw [← eg287, gs_c _ _ _ _ h108, gs_c _ _ _ _ h106, gs_c _ _ _ _ h106]
                    have v289 : g286 106 p1.toInt.toNat = x281.toInt := by rw [← eg287, gs_c _ _ _ _ (by decide), gs_self]
                    have v290 : g286 108 p1.toInt.toNat = x284.toInt := by rw [← eg287, gs_self]
                    have hw291 : g286 108 = gs g258 108 p1.toInt.toNat x284.toInt 108 := funext fun j => by rw [← eg287]; exact gs_in (by rw [gs_c _ _ _ _ (by decide), gs_c _ _ _ _ (by decide)])
                    have hj292 : IJ g286 := IJ_cg (hf288 126 0 (by decide) (by decide)) (fun j => hf288 132 j (by decide) (by decide)) (fun j => hf288 134 j (by decide) (by decide)) (by (repeat (first | with_reducible assumption | (refine IJ_c (by decide) (by decide) (by decide) ?_) | (refine IJ_take (by omega) (by omega) ?_) | (refine IJ_how (by omega) ?_) | (refine IJ_by (by omega) ?_))))
                    refine lv_aload_n hx hb dX9_dies_139 rfl (lv_at hl 3 rfl) ?_
                    refine get_X9_35 hx hb hA hown hE hG t_h0 wd_4_165 dX9_dies_140 (fun b293 (t_b293 : ty Γ b293 135) => ?_)
                    refine ty_iconst hx hb (4) dX9_dies_143 (by decide) (fun x294 h295 => ?_)
                    refine ty_sipush hx hb (200) dX9_dies_144 (by decide) (fun x296 h297 => ?_)
                    refine lv_iload_n hx hb dX9_dies_147 rfl (lv_at hl 4 rfl) ?_
                    refine ty_iadd hx hb dX9_dies_148 (fun x298 h299 => ?_)
                    try have h300 : x298.toInt = x296.toInt + p1.toInt := ty_add h299 (by omega) (by omega)
                    refine ty_imul hx hb dX9_dies_149 (fun x301 h302 => ?_)
                    try have h303 : x301.toInt = 4 * x298.toInt := ty_mull h302 (by omega) (by omega) (by omega)
                    refine ty_iconst hx hb (3) dX9_dies_150 (by decide) (fun x304 h305 => ?_)
                    refine ty_iadd hx hb dX9_dies_151 (fun x306 h307 => ?_)
                    try have h308 : x306.toInt = x301.toInt + x304.toInt := ty_add h307 (by omega) (by omega)
                    refine ty_iconst hx hb (0) dX9_dies_152 (by decide) (fun x309 h310 => ?_)
                    refine ast_mI hx hb hE hG hS hU 35 rfl (n := 840) rfl (lo := -2147483648) (hi := 2147483647) rfl rfl rfl t_b293 (rgD _) (by omega) dX9_dies_153 (fun H locs hG hS => ?_)
                    refine ty_iconst hx hb (0) dX9_dies_154 (by decide) (fun x311 h312 => ?_)
                    refine lv_istore (lv' := [(6, .int x311), (5, .int v5_52), (4, .int x252), (0, .ref h0), (1, .int p1), (2, .int p2), (3, .int p3)]) hx hb dX9_dies_155 hl (by decide) rfl (fun ls hl => ?_)
                    have hk314 : g286 126 0 = g258 126 0 := hf288 126 0 (by decide) (by decide)
                    have hk315 : g258 126 0 = (gs g 100 0 x1.toInt) 126 0 := hf259 126 0 (by decide)
                    have hk315 : g258 126 0 = g 126 0 := by rw [hk315]; simp [gs]
                    have e316 : (gs g286 135 x306.toInt.toNat x309.toInt) 126 0 = g286 126 0 := by simp [gs]
                    have L_157 : ∀ (n : Nat) (v6_157 : Int32) (g313 : gh) (H : Heap) (locs : List Loc) (ls : Array Slot), (g313 126 0 - v6_157.toInt : Int) < n → 0 ≤ v6_157.toInt ∧ v6_157.toInt ≤ g313 126 0 → (∀ c j : Nat, c ≠ 132 → g313 c j = (gs g286 135 x306.toInt.toNat x309.toInt) c j) → (IJ g313) → ty_ok (dC, dI) vwCl Γ (TP dA Γ g313) sz X H → va_S (ty_A sz) s.heap H locs → lv_has ls 7 [(6, .int v6_157), (5, .int v5_52), (4, .int x252), (0, .ref h0), (1, .int p1), (2, .int p2), (3, .int p3)] → W p l e (headSpec (.code yX9_dies cX9_dies 7 (Option.some Jvm.ClassFile.FieldType.int) :: AL) ({ frames := 1, cells := 0, slots := 0, locals := 22 })).room s m ([.ref h0, .int p1, .int p2, .int p3] : List Value).toArray below meth c H locs 0 0 (MQ below (va_Qi (fun (r : Int32) (u : gh) => (∀ c j : Nat, c ≠ 100 → c ≠ 106 → c ≠ 108 → c ≠ 109 → c ≠ 132 → c ≠ 135 → u c j = g c j) ∧ (IJ u)) (okb dC dI dA sz X Γ) (ty_A sz)) ([.ref h0, .int p1, .int p2, .int p3] : List Value).toArray s 0 0 (ty_A sz)) (F0 m 157 ls []) := by
                      intro n
                      induction n with
                      | zero => intro v6_157 g313 H locs ls hm hi0 hf317 hq0 hG hS hl; exfalso; omega
                      | succ n ih_157 =>
                        intro v6_157 g313 H locs ls hm hi0 hf317 hq0 hG hS hl
                        have hk318 : g313 126 0 = (gs g286 135 x306.toInt.toNat x309.toInt) 126 0 := hf317 126 0 (by decide)
                        have hk318 : g313 126 0 = g286 126 0 := by rw [hk318]; simp [gs]
                        refine lv_iload hx hb dX9_dies_157 (lv_at hl 0 rfl) ?_
                        refine lv_aload_n hx hb dX9_dies_159 rfl (lv_at hl 3 rfl) ?_
                        refine get_X9_26 hx hb hA hown hE hG t_h0 wd_4_156 dX9_dies_160 (fun x319 h320 => ?_)
                        refine ty_icmp_ge (tgt := 201) hx hb dX9_dies_163 (by decide) (fun c322 => ?_) (fun c322 => ?_)
                        · skip
                          refine lv_iload hx hb dX9_dies_201 (lv_at hl 1 rfl) ?_
                          exact W.iret (v := v5_52) hx hb hr (fun t ht hW => ⟨⟨v5_52, g313, rfl, ⟨(fun c j h100 h106 h108 h109 h132 h135 => by rw [hf317 c j h132, gs_c _ _ _ _ h135, hf288 c j h106 h108, hf259 c j h109, gs_c _ _ _ _ h100]), (by (repeat (first | with_reducible assumption | (refine IJ_c (by decide) (by decide) (by decide) ?_) | (refine IJ_take (by omega) (by omega) ?_) | (refine IJ_how (by omega) ?_) | (refine IJ_by (by omega) ?_))))⟩, ok1 ht hG⟩, hS.F ht⟩) hS.2.2 dX9_dies_203
                        · skip
                          refine lv_aload_n hx hb dX9_dies_166 rfl (lv_at hl 3 rfl) ?_
                          refine get_X9_27 hx hb hA hown hE hG t_h0 wd_4_157 dX9_dies_167 (fun b323 (t_b323 : ty Γ b323 127) => ?_)
                          refine lv_iload hx hb dX9_dies_170 (lv_at hl 0 rfl) ?_
                          refine ald_mI hx hb hE hG 27 rfl (n := 200) rfl (lo := 0) (hi := 9) rfl rfl t_b323 (by omega) dX9_dies_172 (fun j325 x324 h326 h327 h328 => ?_)
                          refine lv_iload_n hx hb dX9_dies_173 rfl (lv_at hl 4 rfl) ?_
                          refine ty_icmp_ne (tgt := 195) hx hb dX9_dies_174 (by decide) (fun c329 => ?_) (fun c329 => ?_)
                          · skip
                            obtain ⟨x330, h331⟩ : ∃ y : Int32, y = v6_157 + Int32.ofInt (1) := ⟨_, rfl⟩
                            try have h332 : x330.toInt = v6_157.toInt + (1) := ty_inc h331 (by decide) (by omega) (by omega)
                            refine lv_iinc (v := x330) (lv' := [(6, .int x330), (5, .int v5_52), (4, .int x252), (0, .ref h0), (1, .int p1), (2, .int p2), (3, .int p3)]) hx hb dX9_dies_195 hl (k := 0) rfl h331.symm (by decide) rfl (fun ls hl => ?_)
                            refine lv_goto (tgt := 157) hx hb dX9_dies_198 (by decide) ?_
                            exact ih_157 x330 g313 _ _ ls (by omega) (by omega) (fun c j h132 => by rw [hf317 c j h132]) (by (repeat (first | with_reducible assumption | (refine IJ_c (by decide) (by decide) (by decide) ?_) | (refine IJ_take (by omega) (by omega) ?_) | (refine IJ_how (by omega) ?_) | (refine IJ_by (by omega) ?_)))) hG hS (lv_sub hl [0, 1, 2, 3, 4, 5, 6] rfl)
                          · skip
                            refine lv_aload_n hx hb dX9_dies_177 rfl (lv_at hl 3 rfl) ?_
                            refine get_X9_32 hx hb hA hown hE hG t_h0 wd_4_162 dX9_dies_178 (fun b333 (t_b333 : ty Γ b333 132) => ?_)
                            refine lv_iload hx hb dX9_dies_181 (lv_at hl 0 rfl) ?_
                            refine ald_mI hx hb hE hG 32 rfl (n := 200) rfl (lo := -2147483648) (hi := 2147483647) rfl rfl t_b333 (by omega) dX9_dies_183 (fun j335 x334 h336 h337 h338 => ?_)
                            clear h338
                            refine ty_if_ne (tgt := 195) hx hb dX9_dies_184 (by decide) (fun c339 => ?_) (fun c339 => ?_)
                            · skip
                              obtain ⟨x340, h341⟩ : ∃ y : Int32, y = v6_157 + Int32.ofInt (1) := ⟨_, rfl⟩
                              try have h342 : x340.toInt = v6_157.toInt + (1) := ty_inc h341 (by decide) (by omega) (by omega)
                              refine lv_iinc (v := x340) (lv' := [(6, .int x340), (5, .int v5_52), (4, .int x252), (0, .ref h0), (1, .int p1), (2, .int p2), (3, .int p3)]) hx hb dX9_dies_195 hl (k := 0) rfl h341.symm (by decide) rfl (fun ls hl => ?_)
                              refine lv_goto (tgt := 157) hx hb dX9_dies_198 (by decide) ?_
                              exact ih_157 x340 g313 _ _ ls (by omega) (by omega) (fun c j h132 => by rw [hf317 c j h132]) (by (repeat (first | with_reducible assumption | (refine IJ_c (by decide) (by decide) (by decide) ?_) | (refine IJ_take (by omega) (by omega) ?_) | (refine IJ_how (by omega) ?_) | (refine IJ_by (by omega) ?_)))) hG hS (lv_sub hl [0, 1, 2, 3, 4, 5, 6] rfl)
                            · skip
                              refine lv_aload_n hx hb dX9_dies_187 rfl (lv_at hl 3 rfl) ?_
                              refine get_X9_32 hx hb hA hown hE hG t_h0 wd_4_162 dX9_dies_188 (fun b343 (t_b343 : ty Γ b343 132) => ?_)
                              refine lv_iload hx hb dX9_dies_191 (lv_at hl 0 rfl) ?_
                              refine ty_iconst hx hb (4) dX9_dies_193 (by decide) (fun x344 h345 => ?_)
                              refine ast_mI hx hb hE hG hS hU 32 rfl (n := 200) rfl (lo := -2147483648) (hi := 2147483647) rfl rfl rfl t_b343 (rgD _) (by omega) dX9_dies_194 (fun H locs hG hS => ?_)
                              obtain ⟨x346, h347⟩ : ∃ y : Int32, y = v6_157 + Int32.ofInt (1) := ⟨_, rfl⟩
                              try have h348 : x346.toInt = v6_157.toInt + (1) := ty_inc h347 (by decide) (by omega) (by omega)
                              refine lv_iinc (v := x346) (lv' := [(6, .int x346), (5, .int v5_52), (4, .int x252), (0, .ref h0), (1, .int p1), (2, .int p2), (3, .int p3)]) hx hb dX9_dies_195 hl (k := 0) rfl h347.symm (by decide) rfl (fun ls hl => ?_)
                              refine lv_goto (tgt := 157) hx hb dX9_dies_198 (by decide) ?_
                              have e349 : (gs g313 132 v6_157.toInt.toNat x344.toInt) 126 0 = g313 126 0 := by simp [gs]
                              exact ih_157 x346 (gs g313 132 v6_157.toInt.toNat x344.toInt) _ _ ls (by omega) (by omega) (fun c j h132 => by rw [gs_c _ _ _ _ h132, hf317 c j h132]) (by (repeat (first | with_reducible assumption | (refine IJ_c (by decide) (by decide) (by decide) ?_) | (refine IJ_take (by omega) (by omega) ?_) | (refine IJ_how (by omega) ?_) | (refine IJ_by (by omega) ?_)))) hG hS (lv_sub hl [0, 1, 2, 3, 4, 5, 6] rfl)
                    have e350 : (gs g286 135 x306.toInt.toNat x309.toInt) 126 0 = g286 126 0 := by simp [gs]
                    exact L_157 (((gs g286 135 x306.toInt.toNat x309.toInt) 126 0 - x311.toInt) + 1).toNat x311 (gs g286 135 x306.toInt.toNat x309.toInt) _ _ ls (by omega) (by omega) (fun c j _ => rfl) (by (repeat (first | with_reducible assumption | (refine IJ_c (by decide) (by decide) (by decide) ?_) | (refine IJ_take (by omega) (by omega) ?_) | (refine IJ_how (by omega) ?_) | (refine IJ_by (by omega) ?_)))) hG hS (lv_sub hl [0, 1, 2, 3, 4, 5, 6] rfl)
                · skip
                  refine lv_aload_n hx hb dX9_dies_60 rfl (lv_at hl 3 rfl) ?_
                  refine get_X9_9 hx hb hA hown hE hG t_h0 wd_4_139 dX9_dies_61 (fun b351 (t_b351 : ty Γ b351 109) => ?_)
                  refine lv_iload hx hb dX9_dies_64 (lv_at hl 0 rfl) ?_
                  refine ald_mI hx hb hE hG 9 rfl (n := 318) rfl (lo := -2147483648) (hi := 2147483647) rfl rfl t_b351 (by omega) dX9_dies_66 (fun j353 x352 h354 h355 h356 => ?_)
                  clear h356
                  refine lv_iload_n hx hb dX9_dies_67 rfl (lv_at hl 4 rfl) ?_
                  refine ty_icmp_eq (tgt := 74) hx hb dX9_dies_68 (by decide) (fun c357 => ?_) (fun c357 => ?_)
                  · skip
                    refine lv_aload_n hx hb dX9_dies_74 rfl (lv_at hl 3 rfl) ?_
                    refine get_X9_9 hx hb hA hown hE hG t_h0 wd_4_139 dX9_dies_75 (fun b358 (t_b358 : ty Γ b358 109) => ?_)
                    refine lv_iload hx hb dX9_dies_78 (lv_at hl 0 rfl) ?_
                    refine lv_iload hx hb dX9_dies_80 (lv_at hl 2 rfl) ?_
                    refine ty_if_eq (tgt := 89) hx hb dX9_dies_82 (by decide) (fun c359 => ?_) (fun c359 => ?_)
                    · exfalso; omega
                    · skip
                      refine lv_iload_n hx hb dX9_dies_85 rfl (lv_at hl 5 rfl) ?_
                      refine lv_goto (tgt := 90) hx hb dX9_dies_86 (by decide) ?_
                      refine ast_mI hx hb hE hG hS hU 9 rfl (n := 318) rfl (lo := -2147483648) (hi := 2147483647) rfl rfl rfl t_b358 (rgD _) (by omega) dX9_dies_90 (fun H locs hG hS => ?_)
                      refine lv_iload hx hb dX9_dies_91 (lv_at hl 2 rfl) ?_
                      refine ty_if_eq (tgt := 99) hx hb dX9_dies_93 (by decide) (fun c360 => ?_) (fun c360 => ?_)
                      · exfalso; omega
                      · skip
                        obtain ⟨x361, h362⟩ : ∃ y : Int32, y = v5_52 + Int32.ofInt (1) := ⟨_, rfl⟩
                        try have h363 : x361.toInt = v5_52.toInt + (1) := ty_inc h362 (by decide) (by omega) (by omega)
                        refine lv_iinc (v := x361) (lv' := [(5, .int x361), (6, .int v6_52), (4, .int x252), (0, .ref h0), (1, .int p1), (2, .int p2), (3, .int p3)]) hx hb dX9_dies_96 hl (k := 1) rfl h362.symm (by decide) rfl (fun ls hl => ?_)
                        obtain ⟨x364, h365⟩ : ∃ y : Int32, y = v6_52 + Int32.ofInt (1) := ⟨_, rfl⟩
                        try have h366 : x364.toInt = v6_52.toInt + (1) := ty_inc h365 (by decide) (by omega) (by omega)
                        refine lv_iinc (v := x364) (lv' := [(6, .int x364), (5, .int x361), (4, .int x252), (0, .ref h0), (1, .int p1), (2, .int p2), (3, .int p3)]) hx hb dX9_dies_99 hl (k := 1) rfl h365.symm (by decide) rfl (fun ls hl => ?_)
                        refine lv_goto (tgt := 52) hx hb dX9_dies_102 (by decide) ?_
                        exact ih_52 x364 x361 (gs g258 109 v6_52.toInt.toNat p2.toInt) _ _ ls (by omega) (by omega) (fun c j h109 => by rw [gs_c _ _ _ _ h109, hf259 c j h109]) hG hS (lv_sub hl [0, 1, 2, 3, 4, 5, 6] rfl)
                  · skip
                    refine lv_goto (tgt := 99) hx hb dX9_dies_71 (by decide) ?_
                    obtain ⟨x367, h368⟩ : ∃ y : Int32, y = v6_52 + Int32.ofInt (1) := ⟨_, rfl⟩
                    try have h369 : x367.toInt = v6_52.toInt + (1) := ty_inc h368 (by decide) (by omega) (by omega)
                    refine lv_iinc (v := x367) (lv' := [(6, .int x367), (5, .int v5_52), (4, .int x252), (0, .ref h0), (1, .int p1), (2, .int p2), (3, .int p3)]) hx hb dX9_dies_99 hl (k := 0) rfl h368.symm (by decide) rfl (fun ls hl => ?_)
                    refine lv_goto (tgt := 52) hx hb dX9_dies_102 (by decide) ?_
                    exact ih_52 x367 v5_52 g258 _ _ ls (by omega) (by omega) (fun c j h109 => by rw [hf259 c j h109]) hG hS (lv_sub hl [0, 1, 2, 3, 4, 5, 6] rfl)
            exact L_52 ((318 - x256.toInt) + 1).toNat x256 x254 (gs g 100 0 x1.toInt) _ _ ls (by omega) (by omega) (fun c j _ => rfl) hG hS (lv_sub hl [0, 1, 2, 3, 4, 5, 6] rfl)
      · skip
        refine ty_iconst hx hb (-1) dX9_dies_26 (by decide) (fun x370 h371 => ?_)
        exact W.iret (v := x370) hx hb hr (fun t ht hW => ⟨⟨x370, (gs g 100 0 x1.toInt), rfl, ⟨(fun c j h100 h106 h108 h109 h132 h135 => by rw [gs_c _ _ _ _ h100]), (by (repeat (first | with_reducible assumption | (refine IJ_c (by decide) (by decide) (by decide) ?_) | (refine IJ_take (by omega) (by omega) ?_) | (refine IJ_how (by omega) ?_) | (refine IJ_by (by omega) ?_))))⟩, ok1 ht hG⟩, hS.F ht⟩) hS.2.2 dX9_dies_27

set_option maxHeartbeats 4000000 in
set_option maxRecDepth 100000 in
/-- WeekBankModel.weeksThatStay:  -/
theorem k_X9_weeksThatStay (l : Launch) (dC : Nat → ClassId) (dI : Nat → Nat → Nat) (dA : Nat → ClassId) (sz : Nat) (X : va_W) (Γ : ty_G) (hU : Un Γ) (g : gh) (h0 : Nat) (t_h0 : ty Γ h0 30) (m4 : 0 ≤ g 104 0 ∧ g 104 0 ≤ 10) : Met l yX9_weeksThatStay (.code yX9_weeksThatStay cX9_weeksThatStay 3 (Option.some Jvm.ClassFile.FieldType.int) :: AL) ({ frames := 1, cells := 0, slots := 0, locals := 23 }) (PCx dC dI dA sz X Γ g [.ref h0]) (va_Qi (fun (r : Int32) (u : gh) => u = g) (okb dC dI dA sz X Γ) (ty_A sz)) 0 0 (ty_A sz) := by
  refine Met.ofW (cc := cX9_weeksThatStay) (maxL := 3) (ret := (Option.some Jvm.ClassFile.FieldType.int)) (by decide) rfl ?_
  intro p e s m args below meth c s₁ B hml hv
  obtain ⟨rfl, hG, hE⟩ := hv
  have hx := B.exec
  have hb := B.bytes
  have hr := B.returns
  have hts := atoms_spec B.pre
  have hA : ∀ w ∈ AL, w.before _ s = true := fun w h => hts w (List.mem_cons_of_mem _ h)
  have hown : s.vm.findClass RX9 = some m.cls := findClass_of_methodNamed B.named
  have hlocks := B.notSynchronized
  have hS : va_S (ty_A sz) s.heap s.heap [] := va_S.rf
  have hl := lv_entry ([.ref h0]) (n := 3) (Nat.le_of_ble_eq_true rfl)
  rw [lg_entry_eq]
  generalize (lg_sl ([.ref h0]) ++ List.replicate (3 - (lg_sl ([.ref h0])).length) Slot.unset).toArray = ls at hl ⊢
  have hl : lv_has ls 3 [(0, .ref h0)] := hl
  refine ty_iconst hx hb (0) dX9_weeksThatStay_0 (by decide) (fun x1 h2 => ?_)
  refine lv_istore_n (lv' := [(1, .int x1), (0, .ref h0)]) hx hb dX9_weeksThatStay_1 rfl hl (by decide) rfl (fun ls hl => ?_)
  refine ty_iconst hx hb (0) dX9_weeksThatStay_2 (by decide) (fun x3 h4 => ?_)
  refine lv_istore_n (lv' := [(2, .int x3), (1, .int x1), (0, .ref h0)]) hx hb dX9_weeksThatStay_3 rfl hl (by decide) rfl (fun ls hl => ?_)
  have L_4 : ∀ (n : Nat) (v2_4 : Int32) (v1_4 : Int32) (H : Heap) (locs : List Loc) (ls : Array Slot), (g 104 0 - v2_4.toInt : Int) < n → 0 ≤ v2_4.toInt ∧ v2_4.toInt ≤ g 104 0 → ty_ok (dC, dI) vwCl Γ (TP dA Γ g) sz X H → va_S (ty_A sz) s.heap H locs → lv_has ls 3 [(2, .int v2_4), (1, .int v1_4), (0, .ref h0)] → W p l e (headSpec (.code yX9_weeksThatStay cX9_weeksThatStay 3 (Option.some Jvm.ClassFile.FieldType.int) :: AL) ({ frames := 1, cells := 0, slots := 0, locals := 23 })).room s m ([.ref h0] : List Value).toArray below meth c H locs 0 0 (MQ below (va_Qi (fun (r : Int32) (u : gh) => u = g) (okb dC dI dA sz X Γ) (ty_A sz)) ([.ref h0] : List Value).toArray s 0 0 (ty_A sz)) (F0 m 4 ls []) := by
    intro n
    induction n with
    | zero => intro v2_4 v1_4 H locs ls hm hi0 hG hS hl; exfalso; omega
    | succ n ih_4 =>
      intro v2_4 v1_4 H locs ls hm hi0 hG hS hl
      refine lv_iload_n hx hb dX9_weeksThatStay_4 rfl (lv_at hl 0 rfl) ?_
      refine lv_aload_n hx hb dX9_weeksThatStay_5 rfl (lv_at hl 2 rfl) ?_
      refine get_X9_4 hx hb hA hown hE hG t_h0 wd_4_134 dX9_weeksThatStay_6 (fun x6 h7 => ?_)
      refine ty_icmp_ge (tgt := 35) hx hb dX9_weeksThatStay_9 (by decide) (fun c9 => ?_) (fun c9 => ?_)
      · skip
        refine lv_iload_n hx hb dX9_weeksThatStay_35 rfl (lv_at hl 1 rfl) ?_
        exact W.iret (v := v1_4) hx hb hr (fun t ht hW => ⟨⟨v1_4, g, rfl, rfl, ok1 ht hG⟩, hS.F ht⟩) hS.2.2 dX9_weeksThatStay_36
      · skip
        refine lv_aload_n hx hb dX9_weeksThatStay_12 rfl (lv_at hl 2 rfl) ?_
        refine get_X9_46 hx hb hA hown hE hG t_h0 wd_4_176 dX9_weeksThatStay_13 (fun b10 (t_b10 : ty Γ b10 146) => ?_)
        refine lv_iload_n hx hb dX9_weeksThatStay_16 rfl (lv_at hl 0 rfl) ?_
        refine ald_mZ hx hb hE hG 46 rfl (n := 10) rfl (lo := 0) (hi := 1) rfl rfl t_b10 (by omega) dX9_weeksThatStay_17 (fun j12 x11 h13 h14 h15 => ?_)
        refine ty_if_eq (tgt := 29) hx hb dX9_weeksThatStay_18 (by decide) (fun c16 => ?_) (fun c16 => ?_)
        · skip
          obtain ⟨x17, h18⟩ : ∃ y : Int32, y = v2_4 + Int32.ofInt (1) := ⟨_, rfl⟩
          try have h19 : x17.toInt = v2_4.toInt + (1) := ty_inc h18 (by decide) (by omega) (by omega)
          refine lv_iinc (v := x17) (lv' := [(2, .int x17), (1, .int v1_4), (0, .ref h0)]) hx hb dX9_weeksThatStay_29 hl (k := 0) rfl h18.symm (by decide) rfl (fun ls hl => ?_)
          refine lv_goto (tgt := 4) hx hb dX9_weeksThatStay_32 (by decide) ?_
          exact ih_4 x17 v1_4 _ _ ls (by omega) (by omega) hG hS (lv_sub hl [0, 1, 2] rfl)
        · skip
          refine lv_iload_n hx hb dX9_weeksThatStay_21 rfl (lv_at hl 1 rfl) ?_
          refine lv_aload_n hx hb dX9_weeksThatStay_22 rfl (lv_at hl 2 rfl) ?_
          refine lv_iload_n hx hb dX9_weeksThatStay_23 rfl (lv_at hl 0 rfl) ?_
          refine cI (va_runV (C := RX9) (As := [.int v2_4]) (rest := [.int v1_4]) ⟨hx, hb, hml, hown, hA⟩ (k_X9_owned l dC dI dA sz X Γ hU g h0 t_h0 v2_4   ) ⟨callB_of 1 hA (al_A wd_5_218) rfl rfl rfl (hA _ wd_1_7) (hA _ wd_5_215) (by decide +kernel) ⟨Nat.le_of_ble_eq_true rfl, Nat.le_of_ble_eq_true rfl⟩, hA _ wd_5_217, hA _ ws_57⟩ ⟨bl, recv_X9 hE hG t_h0, fun U hU9 hW9 => ⟨rfl, by rw [hU9]; exact hG, hE.go hS hU9 hW9⟩⟩ rfl rfl hl.1 rfl (lv_room (Nat.le_of_ble_eq_true rfl)) dX9_weeksThatStay_24 ⟨Nat.zero_le _, Nat.zero_le _⟩) hS (fun x22 u20 H locs w21 hG hS => ?_)
          have eu23 := w21
          rw [eu23] at hG
          refine ty_iadd hx hb dX9_weeksThatStay_27 (fun x24 h25 => ?_)
          try have h26 : x24.toInt = v1_4.toInt + x22.toInt := ty_add h25 (by omega) (by omega)
          refine lv_istore_n (lv' := [(1, .int x24), (2, .int v2_4), (0, .ref h0)]) hx hb dX9_weeksThatStay_28 rfl hl (by decide) rfl (fun ls hl => ?_)
          obtain ⟨x27, h28⟩ : ∃ y : Int32, y = v2_4 + Int32.ofInt (1) := ⟨_, rfl⟩
          try have h29 : x27.toInt = v2_4.toInt + (1) := ty_inc h28 (by decide) (by omega) (by omega)
          refine lv_iinc (v := x27) (lv' := [(2, .int x27), (1, .int x24), (0, .ref h0)]) hx hb dX9_weeksThatStay_29 hl (k := 1) rfl h28.symm (by decide) rfl (fun ls hl => ?_)
          refine lv_goto (tgt := 4) hx hb dX9_weeksThatStay_32 (by decide) ?_
          exact ih_4 x27 x24 _ _ ls (by omega) (by omega) hG hS (lv_sub hl [0, 1, 2] rfl)
  exact L_4 ((g 104 0 - x3.toInt) + 1).toNat x3 x1 _ _ ls (by omega) (by omega) hG hS (lv_sub hl [0, 1, 2] rfl)

set_option maxHeartbeats 4000000 in
set_option maxRecDepth 100000 in
/-- WeekBankModel.fees:  -/
theorem k_X9_fees (l : Launch) (dC : Nat → ClassId) (dI : Nat → Nat → Nat) (dA : Nat → ClassId) (sz : Nat) (X : va_W) (Γ : ty_G) (hU : Un Γ) (g : gh) (h0 : Nat) (t_h0 : ty Γ h0 30) (p1 : Int32) (p2 : Int32) (m4 : 0 ≤ g 104 0 ∧ g 104 0 ≤ 10) : Met l yX9_fees (.code yX9_fees cX9_fees 8 (Option.some Jvm.ClassFile.FieldType.int) :: AL) ({ frames := 2, cells := 0, slots := 0, locals := 45 }) (PCx dC dI dA sz X Γ g [.ref h0, .int p1, .int p2]) (va_Qi (fun (r : Int32) (u : gh) => (∀ c j : Nat, c ≠ 100 → c ≠ 146 → u c j = g c j)) (okb dC dI dA sz X Γ) (ty_A sz)) 0 0 (ty_A sz) := by
  refine Met.ofW (cc := cX9_fees) (maxL := 8) (ret := (Option.some Jvm.ClassFile.FieldType.int)) (by decide) rfl ?_
  intro p e s m args below meth c s₁ B hml hv
  obtain ⟨rfl, hG, hE⟩ := hv
  have hx := B.exec
  have hb := B.bytes
  have hr := B.returns
  have hts := atoms_spec B.pre
  have hA : ∀ w ∈ AL, w.before _ s = true := fun w h => hts w (List.mem_cons_of_mem _ h)
  have hown : s.vm.findClass RX9 = some m.cls := findClass_of_methodNamed B.named
  have hlocks := B.notSynchronized
  have hS : va_S (ty_A sz) s.heap s.heap [] := va_S.rf
  have hl := lv_entry ([.ref h0, .int p1, .int p2]) (n := 8) (Nat.le_of_ble_eq_true rfl)
  rw [lg_entry_eq]
  generalize (lg_sl ([.ref h0, .int p1, .int p2]) ++ List.replicate (8 - (lg_sl ([.ref h0, .int p1, .int p2])).length) Slot.unset).toArray = ls at hl ⊢
  have hl : lv_has ls 8 [(0, .ref h0), (1, .int p1), (2, .int p2)] := hl
  refine lv_aload_n hx hb dX9_fees_0 rfl (lv_at hl 0 rfl) ?_
  refine ty_iconst hx hb (0) dX9_fees_1 (by decide) (fun x1 h2 => ?_)
  refine put_X9_0 hx hb hA hown hE hG hS hU t_h0 wd_4_130 dX9_fees_2 (fun H locs hG hS => ?_)
  refine lv_iload_n hx hb dX9_fees_5 rfl (lv_at hl 1 rfl) ?_
  refine ty_iconst hx hb (1) dX9_fees_6 (by decide) (fun x3 h4 => ?_)
  refine ty_ldc_w hx hb (999999) hown (hA _ wd_5_214) dX9_fees_7 (by decide) (fun x5 h6 => ?_)
  refine cI (va_runS (As := [.int p1, .int x3, .int x5]) (rest := []) ⟨hx, hb, hml, hown, hA⟩ (k_X9_within l dC dI dA sz X Γ hU (gs g 100 0 x1.toInt) p1 x3 x5   ) ⟨callB_of 3 hA (al_A wd_5_38) rfl rfl rfl (hA _ wd_1_7) (hA _ wd_5_36) (by decide +kernel) ⟨Nat.le_of_ble_eq_true rfl, Nat.le_of_ble_eq_true rfl⟩, hA _ wd_5_37⟩ ⟨bl, fun U hU9 hW9 => ⟨rfl, by rw [hU9]; exact hG, hE.go hS hU9 hW9⟩⟩ rfl rfl hl.1 rfl (lv_room (Nat.le_of_ble_eq_true rfl)) dX9_fees_10 ⟨Nat.zero_le _, Nat.zero_le _⟩) hS (fun x9 u7 H locs w8 hG hS => ?_)
  obtain ⟨eu10, w8⟩ := w8
  rw [eu10] at hG
  refine ty_if_eq (tgt := 25) hx hb dX9_fees_13 (by decide) (fun c11 => ?_) (fun c11 => ?_)
  · skip
    refine ty_iconst hx hb (-1) dX9_fees_25 (by decide) (fun x12 h13 => ?_)
    exact W.iret (v := x12) hx hb hr (fun t ht hW => ⟨⟨x12, (gs g 100 0 x1.toInt), rfl, (fun c j h100 h146 => by rw [gs_c _ _ _ _ h100]), ok1 ht hG⟩, hS.F ht⟩) hS.2.2 dX9_fees_26
  · skip
    refine lv_iload_n hx hb dX9_fees_16 rfl (lv_at hl 2 rfl) ?_
    refine ty_iconst hx hb (0) dX9_fees_17 (by decide) (fun x14 h15 => ?_)
    refine ty_iconst hx hb (2) dX9_fees_18 (by decide) (fun x16 h17 => ?_)
    refine cI (va_runS (As := [.int p2, .int x14, .int x16]) (rest := []) ⟨hx, hb, hml, hown, hA⟩ (k_X9_within l dC dI dA sz X Γ hU (gs g 100 0 x1.toInt) p2 x14 x16   ) ⟨callB_of 3 hA (al_A wd_5_38) rfl rfl rfl (hA _ wd_1_7) (hA _ wd_5_36) (by decide +kernel) ⟨Nat.le_of_ble_eq_true rfl, Nat.le_of_ble_eq_true rfl⟩, hA _ wd_5_37⟩ ⟨bl, fun U hU9 hW9 => ⟨rfl, by rw [hU9]; exact hG, hE.go hS hU9 hW9⟩⟩ rfl rfl hl.1 rfl (lv_room (Nat.le_of_ble_eq_true rfl)) dX9_fees_19 ⟨Nat.zero_le _, Nat.zero_le _⟩) hS (fun x20 u18 H locs w19 hG hS => ?_)
    obtain ⟨eu21, w19⟩ := w19
    rw [eu21] at hG
    refine ty_if_ne (tgt := 27) hx hb dX9_fees_22 (by decide) (fun c22 => ?_) (fun c22 => ?_)
    · skip
      refine ty_iconst hx hb (0) dX9_fees_27 (by decide) (fun x23 h24 => ?_)
      refine lv_istore_n (lv' := [(3, .int x23), (0, .ref h0), (1, .int p1), (2, .int p2)]) hx hb dX9_fees_28 rfl hl (by decide) rfl (fun ls hl => ?_)
      have e26 : (gs g 100 0 x1.toInt) 104 0 = g 104 0 := by simp [gs]
      have L_29 : ∀ (n : Nat) (v3_29 : Int32) (g25 : gh) (H : Heap) (locs : List Loc) (ls : Array Slot), (g25 104 0 - v3_29.toInt : Int) < n → 0 ≤ v3_29.toInt ∧ v3_29.toInt ≤ g25 104 0 → (∀ c j : Nat, c ≠ 146 → g25 c j = (gs g 100 0 x1.toInt) c j) → ty_ok (dC, dI) vwCl Γ (TP dA Γ g25) sz X H → va_S (ty_A sz) s.heap H locs → lv_has ls 8 [(3, .int v3_29), (0, .ref h0), (1, .int p1), (2, .int p2)] → W p l e (headSpec (.code yX9_fees cX9_fees 8 (Option.some Jvm.ClassFile.FieldType.int) :: AL) ({ frames := 2, cells := 0, slots := 0, locals := 45 })).room s m ([.ref h0, .int p1, .int p2] : List Value).toArray below meth c H locs 0 0 (MQ below (va_Qi (fun (r : Int32) (u : gh) => (∀ c j : Nat, c ≠ 100 → c ≠ 146 → u c j = g c j)) (okb dC dI dA sz X Γ) (ty_A sz)) ([.ref h0, .int p1, .int p2] : List Value).toArray s 0 0 (ty_A sz)) (F0 m 29 ls []) := by
        intro n
        induction n with
        | zero => intro v3_29 g25 H locs ls hm hi0 hf27 hG hS hl; exfalso; omega
        | succ n ih_29 =>
          intro v3_29 g25 H locs ls hm hi0 hf27 hG hS hl
          have hk28 : g25 104 0 = (gs g 100 0 x1.toInt) 104 0 := hf27 104 0 (by decide)
          have hk28 : g25 104 0 = g 104 0 := by rw [hk28]; simp [gs]
          refine lv_iload_n hx hb dX9_fees_29 rfl (lv_at hl 0 rfl) ?_
          refine lv_aload_n hx hb dX9_fees_30 rfl (lv_at hl 1 rfl) ?_
          refine get_X9_4 hx hb hA hown hE hG t_h0 wd_4_134 dX9_fees_31 (fun x29 h30 => ?_)
          refine ty_icmp_ge (tgt := 62) hx hb dX9_fees_34 (by decide) (fun c32 => ?_) (fun c32 => ?_)
          · skip
            refine ty_iconst hx hb (0) dX9_fees_62 (by decide) (fun x33 h34 => ?_)
            refine lv_istore_n (lv' := [(3, .int x33), (0, .ref h0), (1, .int p1), (2, .int p2)]) hx hb dX9_fees_63 rfl hl (by decide) rfl (fun ls hl => ?_)
            refine ty_iconst hx hb (0) dX9_fees_64 (by decide) (fun x35 h36 => ?_)
            refine lv_istore (lv' := [(4, .int x35), (3, .int x33), (0, .ref h0), (1, .int p1), (2, .int p2)]) hx hb dX9_fees_65 hl (by decide) rfl (fun ls hl => ?_)
            refine ty_iconst hx hb (1) dX9_fees_67 (by decide) (fun x37 h38 => ?_)
            refine lv_istore (lv' := [(5, .int x37), (4, .int x35), (3, .int x33), (0, .ref h0), (1, .int p1), (2, .int p2)]) hx hb dX9_fees_68 hl (by decide) rfl (fun ls hl => ?_)
            have L_70 : ∀ (n : Nat) (v5_70 : Int32) (v4_70 : Int32) (v3_70 : Int32) (g39 : gh) (H : Heap) (locs : List Loc) (ls : Array Slot), ((cnt (g39 104 0).toNat (g39 146) 1 : Int) + v5_70.toInt : Int) < n → v5_70.toInt = 0 ∨ v5_70.toInt = 1 → (∀ c j : Nat, c ≠ 146 → g39 c j = g25 c j) → ty_ok (dC, dI) vwCl Γ (TP dA Γ g39) sz X H → va_S (ty_A sz) s.heap H locs → lv_has ls 8 [(5, .int v5_70), (4, .int v4_70), (3, .int v3_70), (0, .ref h0), (1, .int p1), (2, .int p2)] → W p l e (headSpec (.code yX9_fees cX9_fees 8 (Option.some Jvm.ClassFile.FieldType.int) :: AL) ({ frames := 2, cells := 0, slots := 0, locals := 45 })).room s m ([.ref h0, .int p1, .int p2] : List Value).toArray below meth c H locs 0 0 (MQ below (va_Qi (fun (r : Int32) (u : gh) => (∀ c j : Nat, c ≠ 100 → c ≠ 146 → u c j = g c j)) (okb dC dI dA sz X Γ) (ty_A sz)) ([.ref h0, .int p1, .int p2] : List Value).toArray s 0 0 (ty_A sz)) (F0 m 70 ls []) := by
              intro n
              induction n with
              | zero => intro v5_70 v4_70 v3_70 g39 H locs ls hm hi0 hf40 hG hS hl; exfalso; omega
              | succ n ih_70 =>
                intro v5_70 v4_70 v3_70 g39 H locs ls hm hi0 hf40 hG hS hl
                have hk41 : g39 104 0 = g25 104 0 := hf40 104 0 (by decide)
                refine lv_iload hx hb dX9_fees_70 (lv_at hl 0 rfl) ?_
                refine ty_if_eq (tgt := 169) hx hb dX9_fees_72 (by decide) (fun c42 => ?_) (fun c42 => ?_)
                · skip
                  refine ty_iconst hx hb (0) dX9_fees_169 (by decide) (fun x43 h44 => ?_)
                  refine lv_istore (lv' := [(6, .int x43), (5, .int v5_70), (4, .int v4_70), (3, .int v3_70), (0, .ref h0), (1, .int p1), (2, .int p2)]) hx hb dX9_fees_170 hl (by decide) rfl (fun ls hl => ?_)
                  refine ty_iconst hx hb (0) dX9_fees_172 (by decide) (fun x45 h46 => ?_)
                  refine lv_istore (lv' := [(7, .int x45), (6, .int x43), (5, .int v5_70), (4, .int v4_70), (3, .int v3_70), (0, .ref h0), (1, .int p1), (2, .int p2)]) hx hb dX9_fees_173 hl (by decide) rfl (fun ls hl => ?_)
                  have L_175 : ∀ (n : Nat) (v7_175 : Int32) (v6_175 : Int32) (H : Heap) (locs : List Loc) (ls : Array Slot), (g39 104 0 - v7_175.toInt : Int) < n → 0 ≤ v7_175.toInt ∧ v7_175.toInt ≤ g39 104 0 → ty_ok (dC, dI) vwCl Γ (TP dA Γ g39) sz X H → va_S (ty_A sz) s.heap H locs → lv_has ls 8 [(7, .int v7_175), (6, .int v6_175), (5, .int v5_70), (4, .int v4_70), (3, .int v3_70), (0, .ref h0), (1, .int p1), (2, .int p2)] → W p l e (headSpec (.code yX9_fees cX9_fees 8 (Option.some Jvm.ClassFile.FieldType.int) :: AL) ({ frames := 2, cells := 0, slots := 0, locals := 45 })).room s m ([.ref h0, .int p1, .int p2] : List Value).toArray below meth c H locs 0 0 (MQ below (va_Qi (fun (r : Int32) (u : gh) => (∀ c j : Nat, c ≠ 100 → c ≠ 146 → u c j = g c j)) (okb dC dI dA sz X Γ) (ty_A sz)) ([.ref h0, .int p1, .int p2] : List Value).toArray s 0 0 (ty_A sz)) (F0 m 175 ls []) := by
                    intro n
                    induction n with
                    | zero => intro v7_175 v6_175 H locs ls hm hi0 hG hS hl; exfalso; omega
                    | succ n ih_175 =>
                      intro v7_175 v6_175 H locs ls hm hi0 hG hS hl
                      refine lv_iload hx hb dX9_fees_175 (lv_at hl 0 rfl) ?_
                      refine lv_aload_n hx hb dX9_fees_177 rfl (lv_at hl 5 rfl) ?_
                      refine get_X9_4 hx hb hA hown hE hG t_h0 wd_4_134 dX9_fees_178 (fun x48 h49 => ?_)
                      refine ty_icmp_ge (tgt := 203) hx hb dX9_fees_181 (by decide) (fun c51 => ?_) (fun c51 => ?_)
                      · skip
                        refine lv_iload_n hx hb dX9_fees_203 rfl (lv_at hl 7 rfl) ?_
                        refine ty_if_ne (tgt := 212) hx hb dX9_fees_204 (by decide) (fun c52 => ?_) (fun c52 => ?_)
                        · skip
                          refine lv_iload_n hx hb dX9_fees_212 rfl (lv_at hl 7 rfl) ?_
                          refine ty_iconst hx hb (1) dX9_fees_213 (by decide) (fun x53 h54 => ?_)
                          refine ty_icmp_ne (tgt := 221) hx hb dX9_fees_214 (by decide) (fun c55 => ?_) (fun c55 => ?_)
                          · skip
                            refine lv_iload hx hb dX9_fees_221 (lv_at hl 1 rfl) ?_
                            exact W.iret (v := v6_175) hx hb hr (fun t ht hW => ⟨⟨v6_175, g39, rfl, (fun c j h100 h146 => by rw [hf40 c j h146, hf27 c j h146, gs_c _ _ _ _ h100]), ok1 ht hG⟩, hS.F ht⟩) hS.2.2 dX9_fees_223
                          · skip
                            refine lv_iload_n hx hb dX9_fees_217 rfl (lv_at hl 4 rfl) ?_
                            refine lv_goto (tgt := 223) hx hb dX9_fees_218 (by decide) ?_
                            exact W.iret (v := v3_70) hx hb hr (fun t ht hW => ⟨⟨v3_70, g39, rfl, (fun c j h100 h146 => by rw [hf40 c j h146, hf27 c j h146, gs_c _ _ _ _ h100]), ok1 ht hG⟩, hS.F ht⟩) hS.2.2 dX9_fees_223
                        · skip
                          refine lv_iload hx hb dX9_fees_207 (lv_at hl 3 rfl) ?_
                          refine lv_goto (tgt := 223) hx hb dX9_fees_209 (by decide) ?_
                          exact W.iret (v := v4_70) hx hb hr (fun t ht hW => ⟨⟨v4_70, g39, rfl, (fun c j h100 h146 => by rw [hf40 c j h146, hf27 c j h146, gs_c _ _ _ _ h100]), ok1 ht hG⟩, hS.F ht⟩) hS.2.2 dX9_fees_223
                      · skip
                        refine lv_aload_n hx hb dX9_fees_184 rfl (lv_at hl 5 rfl) ?_
                        refine get_X9_46 hx hb hA hown hE hG t_h0 wd_4_176 dX9_fees_185 (fun b56 (t_b56 : ty Γ b56 146) => ?_)
                        refine lv_iload hx hb dX9_fees_188 (lv_at hl 0 rfl) ?_
                        refine ald_mZ hx hb hE hG 46 rfl (n := 10) rfl (lo := 0) (hi := 1) rfl rfl t_b56 (by omega) dX9_fees_190 (fun j58 x57 h59 h60 h61 => ?_)
                        obtain rfl : j58 = v7_175.toInt.toNat := by omega
                        replace h60 : x57.toInt = g39 146 v7_175.toInt.toNat := h60
                        refine ty_if_eq (tgt := 197) hx hb dX9_fees_191 (by decide) (fun c62 => ?_) (fun c62 => ?_)
                        · skip
                          obtain ⟨x63, h64⟩ : ∃ y : Int32, y = v7_175 + Int32.ofInt (1) := ⟨_, rfl⟩
                          try have h65 : x63.toInt = v7_175.toInt + (1) := ty_inc h64 (by decide) (by omega) (by omega)
                          refine lv_iinc (v := x63) (lv' := [(7, .int x63), (6, .int v6_175), (5, .int v5_70), (4, .int v4_70), (3, .int v3_70), (0, .ref h0), (1, .int p1), (2, .int p2)]) hx hb dX9_fees_197 hl (k := 0) rfl h64.symm (by decide) rfl (fun ls hl => ?_)
                          refine lv_goto (tgt := 175) hx hb dX9_fees_200 (by decide) ?_
                          exact ih_175 x63 v6_175 _ _ ls (by omega) (by omega) hG hS (lv_sub hl [0, 1, 2, 3, 4, 5, 6, 7] rfl)
                        · skip
                          obtain ⟨x66, h67⟩ : ∃ y : Int32, y = v6_175 + Int32.ofInt (1) := ⟨_, rfl⟩
                          try have h68 : x66.toInt = v6_175.toInt + (1) := ty_inc h67 (by decide) (by omega) (by omega)
                          refine lv_iinc (v := x66) (lv' := [(6, .int x66), (7, .int v7_175), (5, .int v5_70), (4, .int v4_70), (3, .int v3_70), (0, .ref h0), (1, .int p1), (2, .int p2)]) hx hb dX9_fees_194 hl (k := 1) rfl h67.symm (by decide) rfl (fun ls hl => ?_)
                          obtain ⟨x69, h70⟩ : ∃ y : Int32, y = v7_175 + Int32.ofInt (1) := ⟨_, rfl⟩
                          try have h71 : x69.toInt = v7_175.toInt + (1) := ty_inc h70 (by decide) (by omega) (by omega)
                          refine lv_iinc (v := x69) (lv' := [(7, .int x69), (6, .int x66), (5, .int v5_70), (4, .int v4_70), (3, .int v3_70), (0, .ref h0), (1, .int p1), (2, .int p2)]) hx hb dX9_fees_197 hl (k := 1) rfl h70.symm (by decide) rfl (fun ls hl => ?_)
                          refine lv_goto (tgt := 175) hx hb dX9_fees_200 (by decide) ?_
                          exact ih_175 x69 x66 _ _ ls (by omega) (by omega) hG hS (lv_sub hl [0, 1, 2, 3, 4, 5, 6, 7] rfl)
                  exact L_175 ((g39 104 0 - x45.toInt) + 1).toNat x45 x43 _ _ ls (by omega) (by omega) hG hS (lv_sub hl [0, 1, 2, 3, 4, 5, 6, 7] rfl)
                · skip
                  refine lv_aload_n hx hb dX9_fees_75 rfl (lv_at hl 3 rfl) ?_
                  refine cI (va_runV (C := RX9) (As := []) (rest := []) ⟨hx, hb, hml, hown, hA⟩ (k_X9_weeksThatStay l dC dI dA sz X Γ hU g39 h0 t_h0   (by omega)) ⟨callB_of 0 hA (al_A wd_5_222) rfl rfl rfl (hA _ wd_1_7) (hA _ wd_5_219) (by decide +kernel) ⟨Nat.le_of_ble_eq_true rfl, Nat.le_of_ble_eq_true rfl⟩, hA _ wd_5_221, hA _ ws_58⟩ ⟨bl, recv_X9 hE hG t_h0, fun U hU9 hW9 => ⟨rfl, by rw [hU9]; exact hG, hE.go hS hU9 hW9⟩⟩ rfl rfl hl.1 rfl (lv_room (Nat.le_of_ble_eq_true rfl)) dX9_fees_76 ⟨Nat.zero_le _, Nat.zero_le _⟩) hS (fun x74 u72 H locs w73 hG hS => ?_)
                  have eu75 := w73
                  rw [eu75] at hG
                  refine lv_istore (lv' := [(6, .int x74), (5, .int v5_70), (4, .int v4_70), (3, .int v3_70), (0, .ref h0), (1, .int p1), (2, .int p2)]) hx hb dX9_fees_79 hl (by decide) rfl (fun ls hl => ?_)
                  refine lv_iload hx hb dX9_fees_81 (lv_at hl 0 rfl) ?_
                  refine ty_if_ne (tgt := 90) hx hb dX9_fees_83 (by decide) (fun c76 => ?_) (fun c76 => ?_)
                  · skip
                    refine lv_iload_n hx hb dX9_fees_90 rfl (lv_at hl 5 rfl) ?_
                    refine lv_iload hx hb dX9_fees_91 (lv_at hl 0 rfl) ?_
                    refine ty_iadd hx hb dX9_fees_93 (fun x77 h78 => ?_)
                    try have h79 : x77.toInt = p1.toInt + x74.toInt := ty_add h78 (by omega) (by omega)
                    refine ty_iconst hx hb (1) dX9_fees_94 (by decide) (fun x80 h81 => ?_)
                    refine ty_isub hx hb dX9_fees_95 (fun x82 h83 => ?_)
                    try have h84 : x82.toInt = x77.toInt - x80.toInt := ty_sub h83 (by omega) (by omega)
                    refine lv_iload hx hb dX9_fees_96 (lv_at hl 0 rfl) ?_
                    refine lv_idiv hx hb dX9_fees_98 (fun h0 => by have := ty_c0.mp h0; omega) ?_
                    refine lv_topi (fun x85 h86 => ?_)
                    refine lv_istore (lv' := [(4, .int x85), (6, .int x74), (5, .int v5_70), (3, .int v3_70), (0, .ref h0), (1, .int p1), (2, .int p2)]) hx hb dX9_fees_99 hl (by decide) rfl (fun ls hl => ?_)
                    refine ty_iconst hx hb (0) dX9_fees_101 (by decide) (fun x87 h88 => ?_)
                    refine lv_istore (lv' := [(5, .int x87), (4, .int x85), (6, .int x74), (3, .int v3_70), (0, .ref h0), (1, .int p1), (2, .int p2)]) hx hb dX9_fees_102 hl (by decide) rfl (fun ls hl => ?_)
                    refine ty_iconst hx hb (0) dX9_fees_104 (by decide) (fun x89 h90 => ?_)
                    refine lv_istore (lv' := [(7, .int x89), (5, .int x87), (4, .int x85), (6, .int x74), (3, .int v3_70), (0, .ref h0), (1, .int p1), (2, .int p2)]) hx hb dX9_fees_105 hl (by decide) rfl (fun ls hl => ?_)
                    have L_107 : ∀ (n : Nat) (v7_107 : Int32) (v5_107 : Int32) (g91 : gh) (H : Heap) (locs : List Loc) (ls : Array Slot), (g91 104 0 - v7_107.toInt : Int) < n → 0 ≤ v7_107.toInt ∧ v7_107.toInt ≤ g91 104 0 → v5_107.toInt = 0 ∨ v5_107.toInt = 1 → (cnt (g91 104 0).toNat (g91 146) 1 : Int) + v5_107.toInt ≤ (cnt (g39 104 0).toNat (g39 146) 1 : Int) → (∀ c j : Nat, c ≠ 146 → g91 c j = g39 c j) → ty_ok (dC, dI) vwCl Γ (TP dA Γ g91) sz X H → va_S (ty_A sz) s.heap H locs → lv_has ls 8 [(7, .int v7_107), (5, .int v5_107), (4, .int x85), (6, .int x74), (3, .int v3_70), (0, .ref h0), (1, .int p1), (2, .int p2)] → W p l e (headSpec (.code yX9_fees cX9_fees 8 (Option.some Jvm.ClassFile.FieldType.int) :: AL) ({ frames := 2, cells := 0, slots := 0, locals := 45 })).room s m ([.ref h0, .int p1, .int p2] : List Value).toArray below meth c H locs 0 0 (MQ below (va_Qi (fun (r : Int32) (u : gh) => (∀ c j : Nat, c ≠ 100 → c ≠ 146 → u c j = g c j)) (okb dC dI dA sz X Γ) (ty_A sz)) ([.ref h0, .int p1, .int p2] : List Value).toArray s 0 0 (ty_A sz)) (F0 m 107 ls []) := by
                      intro n
                      induction n with
                      | zero => intro v7_107 v5_107 g91 H locs ls hm hi0 hi1 hi2 hf92 hG hS hl; exfalso; omega
                      | succ n ih_107 =>
                        intro v7_107 v5_107 g91 H locs ls hm hi0 hi1 hi2 hf92 hG hS hl
                        have hk93 : g91 104 0 = g39 104 0 := hf92 104 0 (by decide)
                        refine lv_iload hx hb dX9_fees_107 (lv_at hl 0 rfl) ?_
                        refine lv_aload_n hx hb dX9_fees_109 rfl (lv_at hl 5 rfl) ?_
                        refine get_X9_4 hx hb hA hown hE hG t_h0 wd_4_134 dX9_fees_110 (fun x94 h95 => ?_)
                        refine ty_icmp_ge (tgt := 158) hx hb dX9_fees_113 (by decide) (fun c97 => ?_) (fun c97 => ?_)
                        · skip
                          refine lv_iload hx hb dX9_fees_158 (lv_at hl 1 rfl) ?_
                          refine ty_if_eq (tgt := 166) hx hb dX9_fees_160 (by decide) (fun c98 => ?_) (fun c98 => ?_)
                          · skip
                            refine lv_goto (tgt := 70) hx hb dX9_fees_166 (by decide) ?_
                            exact ih_70 v5_107 x85 v3_70 g91 _ _ ls (by omega) (by omega) (fun c j h146 => by rw [hf92 c j h146, hf40 c j h146]) hG hS (lv_sub hl [1, 2, 4, 5, 6, 7] rfl)
                          · skip
                            obtain ⟨x99, h100⟩ : ∃ y : Int32, y = v3_70 + Int32.ofInt (1) := ⟨_, rfl⟩
                            try have h101 : x99.toInt = v3_70.toInt + (1) := ty_inc h100 (by decide) (by omega) (by omega)
                            refine lv_iinc (v := x99) (lv' := [(3, .int x99), (7, .int v7_107), (5, .int v5_107), (4, .int x85), (6, .int x74), (0, .ref h0), (1, .int p1), (2, .int p2)]) hx hb dX9_fees_163 hl (k := 4) rfl h100.symm (by decide) rfl (fun ls hl => ?_)
                            refine lv_goto (tgt := 70) hx hb dX9_fees_166 (by decide) ?_
                            exact ih_70 v5_107 x85 x99 g91 _ _ ls (by omega) (by omega) (fun c j h146 => by rw [hf92 c j h146, hf40 c j h146]) hG hS (lv_sub hl [2, 3, 0, 5, 6, 7] rfl)
                        · skip
                          refine lv_aload_n hx hb dX9_fees_116 rfl (lv_at hl 5 rfl) ?_
                          refine get_X9_46 hx hb hA hown hE hG t_h0 wd_4_176 dX9_fees_117 (fun b102 (t_b102 : ty Γ b102 146) => ?_)
                          refine lv_iload hx hb dX9_fees_120 (lv_at hl 0 rfl) ?_
                          refine ald_mZ hx hb hE hG 46 rfl (n := 10) rfl (lo := 0) (hi := 1) rfl rfl t_b102 (by omega) dX9_fees_122 (fun j104 x103 h105 h106 h107 => ?_)
                          obtain rfl : j104 = v7_107.toInt.toNat := by omega
                          replace h106 : x103.toInt = g91 146 v7_107.toInt.toNat := h106
                          refine ty_if_eq (tgt := 152) hx hb dX9_fees_123 (by decide) (fun c108 => ?_) (fun c108 => ?_)
                          · skip
                            obtain ⟨x109, h110⟩ : ∃ y : Int32, y = v7_107 + Int32.ofInt (1) := ⟨_, rfl⟩
                            try have h111 : x109.toInt = v7_107.toInt + (1) := ty_inc h110 (by decide) (by omega) (by omega)
                            refine lv_iinc (v := x109) (lv' := [(7, .int x109), (5, .int v5_107), (4, .int x85), (6, .int x74), (3, .int v3_70), (0, .ref h0), (1, .int p1), (2, .int p2)]) hx hb dX9_fees_152 hl (k := 0) rfl h110.symm (by decide) rfl (fun ls hl => ?_)
                            refine lv_goto (tgt := 107) hx hb dX9_fees_155 (by decide) ?_
                            exact ih_107 x109 v5_107 g91 _ _ ls (by omega) (by omega) (by omega) (by omega) (fun c j h146 => by rw [hf92 c j h146]) hG hS (lv_sub hl [0, 1, 2, 3, 4, 5, 6, 7] rfl)
                          · skip
                            refine lv_aload_n hx hb dX9_fees_126 rfl (lv_at hl 5 rfl) ?_
                            refine get_X9_5 hx hb hA hown hE hG t_h0 wd_4_135 dX9_fees_127 (fun b112 (t_b112 : ty Γ b112 105) => ?_)
                            refine lv_iload hx hb dX9_fees_130 (lv_at hl 0 rfl) ?_
                            refine ald_mI hx hb hE hG 5 rfl (n := 10) rfl (lo := -2147483648) (hi := 2147483647) rfl rfl t_b112 (by omega) dX9_fees_132 (fun j114 x113 h115 h116 h117 => ?_)
                            clear h117
                            obtain rfl : j114 = v7_107.toInt.toNat := by omega
                            replace h116 : x113.toInt = g91 105 v7_107.toInt.toNat := h116
                            refine lv_iload hx hb dX9_fees_133 (lv_at hl 2 rfl) ?_
                            refine ty_icmp_lt (tgt := 141) hx hb dX9_fees_135 (by decide) (fun c118 => ?_) (fun c118 => ?_)
                            · skip
                              refine lv_aload_n hx hb dX9_fees_141 rfl (lv_at hl 5 rfl) ?_
                              refine get_X9_46 hx hb hA hown hE hG t_h0 wd_4_176 dX9_fees_142 (fun b119 (t_b119 : ty Γ b119 146) => ?_)
                              refine lv_iload hx hb dX9_fees_145 (lv_at hl 0 rfl) ?_
                              refine ty_iconst hx hb (0) dX9_fees_147 (by decide) (fun x120 h121 => ?_)
                              refine ast_mZ hx hb hE hG hS hU 46 rfl (n := 10) rfl (lo := 0) (hi := 1) rfl rfl rfl t_b119 (by omega) (by omega) (by omega) dX9_fees_148 (fun H locs hG hS => ?_)
                              refine ty_iconst hx hb (1) dX9_fees_149 (by decide) (fun x122 h123 => ?_)
                              refine lv_istore (lv' := [(5, .int x122), (7, .int v7_107), (4, .int x85), (6, .int x74), (3, .int v3_70), (0, .ref h0), (1, .int p1), (2, .int p2)]) hx hb dX9_fees_150 hl (by decide) rfl (fun ls hl => ?_)
                              have hc124 := cnt_gs g91 146 (x120.toInt) 1 (j := v7_107.toInt.toNat) (n := (g91 104 0).toNat) (by omega)
                              have hm125 : cnt ((gs g91 146 v7_107.toInt.toNat x120.toInt) 104 0).toNat ((gs g91 146 v7_107.toInt.toNat x120.toInt) 146) 1 = cnt (g91 104 0).toNat ((gs g91 146 v7_107.toInt.toNat x120.toInt) 146) 1 := by rw [gs_c _ _ _ _ (by decide)]
                              obtain ⟨x126, h127⟩ : ∃ y : Int32, y = v7_107 + Int32.ofInt (1) := ⟨_, rfl⟩
                              try have h128 : x126.toInt = v7_107.toInt + (1) := ty_inc h127 (by decide) (by omega) (by omega)
                              refine lv_iinc (v := x126) (lv' := [(7, .int x126), (5, .int x122), (4, .int x85), (6, .int x74), (3, .int v3_70), (0, .ref h0), (1, .int p1), (2, .int p2)]) hx hb dX9_fees_152 hl (k := 1) rfl h127.symm (by decide) rfl (fun ls hl => ?_)
                              refine lv_goto (tgt := 107) hx hb dX9_fees_155 (by decide) ?_
                              have e129 : (gs g91 146 v7_107.toInt.toNat x120.toInt) 104 0 = g91 104 0 := by simp [gs]
                              exact ih_107 x126 x122 (gs g91 146 v7_107.toInt.toNat x120.toInt) _ _ ls (by omega) (by omega) (by omega) (by omega) (fun c j h146 => by rw [gs_c _ _ _ _ h146, hf92 c j h146]) hG hS (lv_sub hl [0, 1, 2, 3, 4, 5, 6, 7] rfl)
                            · skip
                              refine lv_goto (tgt := 152) hx hb dX9_fees_138 (by decide) ?_
                              obtain ⟨x130, h131⟩ : ∃ y : Int32, y = v7_107 + Int32.ofInt (1) := ⟨_, rfl⟩
                              try have h132 : x130.toInt = v7_107.toInt + (1) := ty_inc h131 (by decide) (by omega) (by omega)
                              refine lv_iinc (v := x130) (lv' := [(7, .int x130), (5, .int v5_107), (4, .int x85), (6, .int x74), (3, .int v3_70), (0, .ref h0), (1, .int p1), (2, .int p2)]) hx hb dX9_fees_152 hl (k := 0) rfl h131.symm (by decide) rfl (fun ls hl => ?_)
                              refine lv_goto (tgt := 107) hx hb dX9_fees_155 (by decide) ?_
                              exact ih_107 x130 v5_107 g91 _ _ ls (by omega) (by omega) (by omega) (by omega) (fun c j h146 => by rw [hf92 c j h146]) hG hS (lv_sub hl [0, 1, 2, 3, 4, 5, 6, 7] rfl)
                    exact L_107 ((g39 104 0 - x89.toInt) + 1).toNat x89 x87 g39 _ _ ls (by omega) (by omega) (by omega) (by omega) (fun c j _ => rfl) hG hS (lv_sub hl [0, 1, 2, 3, 4, 5, 6, 7] rfl)
                  · skip
                    refine ty_iconst hx hb (0) dX9_fees_86 (by decide) (fun x133 h134 => ?_)
                    refine lv_goto (tgt := 99) hx hb dX9_fees_87 (by decide) ?_
                    refine lv_istore (lv' := [(4, .int x133), (6, .int x74), (5, .int v5_70), (3, .int v3_70), (0, .ref h0), (1, .int p1), (2, .int p2)]) hx hb dX9_fees_99 hl (by decide) rfl (fun ls hl => ?_)
                    refine ty_iconst hx hb (0) dX9_fees_101 (by decide) (fun x135 h136 => ?_)
                    refine lv_istore (lv' := [(5, .int x135), (4, .int x133), (6, .int x74), (3, .int v3_70), (0, .ref h0), (1, .int p1), (2, .int p2)]) hx hb dX9_fees_102 hl (by decide) rfl (fun ls hl => ?_)
                    refine ty_iconst hx hb (0) dX9_fees_104 (by decide) (fun x137 h138 => ?_)
                    refine lv_istore (lv' := [(7, .int x137), (5, .int x135), (4, .int x133), (6, .int x74), (3, .int v3_70), (0, .ref h0), (1, .int p1), (2, .int p2)]) hx hb dX9_fees_105 hl (by decide) rfl (fun ls hl => ?_)
                    have L_107 : ∀ (n : Nat) (v7_107 : Int32) (v5_107 : Int32) (g139 : gh) (H : Heap) (locs : List Loc) (ls : Array Slot), (g139 104 0 - v7_107.toInt : Int) < n → 0 ≤ v7_107.toInt ∧ v7_107.toInt ≤ g139 104 0 → v5_107.toInt = 0 ∨ v5_107.toInt = 1 → (cnt (g139 104 0).toNat (g139 146) 1 : Int) + v5_107.toInt ≤ (cnt (g39 104 0).toNat (g39 146) 1 : Int) → (∀ c j : Nat, c ≠ 146 → g139 c j = g39 c j) → ty_ok (dC, dI) vwCl Γ (TP dA Γ g139) sz X H → va_S (ty_A sz) s.heap H locs → lv_has ls 8 [(7, .int v7_107), (5, .int v5_107), (4, .int x133), (6, .int x74), (3, .int v3_70), (0, .ref h0), (1, .int p1), (2, .int p2)] → W p l e (headSpec (.code yX9_fees cX9_fees 8 (Option.some Jvm.ClassFile.FieldType.int) :: AL) ({ frames := 2, cells := 0, slots := 0, locals := 45 })).room s m ([.ref h0, .int p1, .int p2] : List Value).toArray below meth c H locs 0 0 (MQ below (va_Qi (fun (r : Int32) (u : gh) => (∀ c j : Nat, c ≠ 100 → c ≠ 146 → u c j = g c j)) (okb dC dI dA sz X Γ) (ty_A sz)) ([.ref h0, .int p1, .int p2] : List Value).toArray s 0 0 (ty_A sz)) (F0 m 107 ls []) := by
                      intro n
                      induction n with
                      | zero => intro v7_107 v5_107 g139 H locs ls hm hi0 hi1 hi2 hf140 hG hS hl; exfalso; omega
                      | succ n ih_107 =>
                        intro v7_107 v5_107 g139 H locs ls hm hi0 hi1 hi2 hf140 hG hS hl
                        have hk141 : g139 104 0 = g39 104 0 := hf140 104 0 (by decide)
                        refine lv_iload hx hb dX9_fees_107 (lv_at hl 0 rfl) ?_
                        refine lv_aload_n hx hb dX9_fees_109 rfl (lv_at hl 5 rfl) ?_
                        refine get_X9_4 hx hb hA hown hE hG t_h0 wd_4_134 dX9_fees_110 (fun x142 h143 => ?_)
                        refine ty_icmp_ge (tgt := 158) hx hb dX9_fees_113 (by decide) (fun c145 => ?_) (fun c145 => ?_)
                        · skip
                          refine lv_iload hx hb dX9_fees_158 (lv_at hl 1 rfl) ?_
                          refine ty_if_eq (tgt := 166) hx hb dX9_fees_160 (by decide) (fun c146 => ?_) (fun c146 => ?_)
                          · skip
                            refine lv_goto (tgt := 70) hx hb dX9_fees_166 (by decide) ?_
                            exact ih_70 v5_107 x133 v3_70 g139 _ _ ls (by omega) (by omega) (fun c j h146 => by rw [hf140 c j h146, hf40 c j h146]) hG hS (lv_sub hl [1, 2, 4, 5, 6, 7] rfl)
                          · skip
                            obtain ⟨x147, h148⟩ : ∃ y : Int32, y = v3_70 + Int32.ofInt (1) := ⟨_, rfl⟩
                            try have h149 : x147.toInt = v3_70.toInt + (1) := ty_inc h148 (by decide) (by omega) (by omega)
                            refine lv_iinc (v := x147) (lv' := [(3, .int x147), (7, .int v7_107), (5, .int v5_107), (4, .int x133), (6, .int x74), (0, .ref h0), (1, .int p1), (2, .int p2)]) hx hb dX9_fees_163 hl (k := 4) rfl h148.symm (by decide) rfl (fun ls hl => ?_)
                            refine lv_goto (tgt := 70) hx hb dX9_fees_166 (by decide) ?_
                            exact ih_70 v5_107 x133 x147 g139 _ _ ls (by omega) (by omega) (fun c j h146 => by rw [hf140 c j h146, hf40 c j h146]) hG hS (lv_sub hl [2, 3, 0, 5, 6, 7] rfl)
                        · skip
                          refine lv_aload_n hx hb dX9_fees_116 rfl (lv_at hl 5 rfl) ?_
                          refine get_X9_46 hx hb hA hown hE hG t_h0 wd_4_176 dX9_fees_117 (fun b150 (t_b150 : ty Γ b150 146) => ?_)
                          refine lv_iload hx hb dX9_fees_120 (lv_at hl 0 rfl) ?_
                          refine ald_mZ hx hb hE hG 46 rfl (n := 10) rfl (lo := 0) (hi := 1) rfl rfl t_b150 (by omega) dX9_fees_122 (fun j152 x151 h153 h154 h155 => ?_)
                          obtain rfl : j152 = v7_107.toInt.toNat := by omega
                          replace h154 : x151.toInt = g139 146 v7_107.toInt.toNat := h154
                          refine ty_if_eq (tgt := 152) hx hb dX9_fees_123 (by decide) (fun c156 => ?_) (fun c156 => ?_)
                          · skip
                            obtain ⟨x157, h158⟩ : ∃ y : Int32, y = v7_107 + Int32.ofInt (1) := ⟨_, rfl⟩
                            try have h159 : x157.toInt = v7_107.toInt + (1) := ty_inc h158 (by decide) (by omega) (by omega)
                            refine lv_iinc (v := x157) (lv' := [(7, .int x157), (5, .int v5_107), (4, .int x133), (6, .int x74), (3, .int v3_70), (0, .ref h0), (1, .int p1), (2, .int p2)]) hx hb dX9_fees_152 hl (k := 0) rfl h158.symm (by decide) rfl (fun ls hl => ?_)
                            refine lv_goto (tgt := 107) hx hb dX9_fees_155 (by decide) ?_
                            exact ih_107 x157 v5_107 g139 _ _ ls (by omega) (by omega) (by omega) (by omega) (fun c j h146 => by rw [hf140 c j h146]) hG hS (lv_sub hl [0, 1, 2, 3, 4, 5, 6, 7] rfl)
                          · skip
                            refine lv_aload_n hx hb dX9_fees_126 rfl (lv_at hl 5 rfl) ?_
                            refine get_X9_5 hx hb hA hown hE hG t_h0 wd_4_135 dX9_fees_127 (fun b160 (t_b160 : ty Γ b160 105) => ?_)
                            refine lv_iload hx hb dX9_fees_130 (lv_at hl 0 rfl) ?_
                            refine ald_mI hx hb hE hG 5 rfl (n := 10) rfl (lo := -2147483648) (hi := 2147483647) rfl rfl t_b160 (by omega) dX9_fees_132 (fun j162 x161 h163 h164 h165 => ?_)
                            clear h165
                            obtain rfl : j162 = v7_107.toInt.toNat := by omega
                            replace h164 : x161.toInt = g139 105 v7_107.toInt.toNat := h164
                            refine lv_iload hx hb dX9_fees_133 (lv_at hl 2 rfl) ?_
                            refine ty_icmp_lt (tgt := 141) hx hb dX9_fees_135 (by decide) (fun c166 => ?_) (fun c166 => ?_)
                            · skip
                              refine lv_aload_n hx hb dX9_fees_141 rfl (lv_at hl 5 rfl) ?_
                              refine get_X9_46 hx hb hA hown hE hG t_h0 wd_4_176 dX9_fees_142 (fun b167 (t_b167 : ty Γ b167 146) => ?_)
                              refine lv_iload hx hb dX9_fees_145 (lv_at hl 0 rfl) ?_
                              refine ty_iconst hx hb (0) dX9_fees_147 (by decide) (fun x168 h169 => ?_)
                              refine ast_mZ hx hb hE hG hS hU 46 rfl (n := 10) rfl (lo := 0) (hi := 1) rfl rfl rfl t_b167 (by omega) (by omega) (by omega) dX9_fees_148 (fun H locs hG hS => ?_)
                              refine ty_iconst hx hb (1) dX9_fees_149 (by decide) (fun x170 h171 => ?_)
                              refine lv_istore (lv' := [(5, .int x170), (7, .int v7_107), (4, .int x133), (6, .int x74), (3, .int v3_70), (0, .ref h0), (1, .int p1), (2, .int p2)]) hx hb dX9_fees_150 hl (by decide) rfl (fun ls hl => ?_)
                              have hc172 := cnt_gs g139 146 (x168.toInt) 1 (j := v7_107.toInt.toNat) (n := (g139 104 0).toNat) (by omega)
                              have hm173 : cnt ((gs g139 146 v7_107.toInt.toNat x168.toInt) 104 0).toNat ((gs g139 146 v7_107.toInt.toNat x168.toInt) 146) 1 = cnt (g139 104 0).toNat ((gs g139 146 v7_107.toInt.toNat x168.toInt) 146) 1 := by rw [gs_c _ _ _ _ (by decide)]
                              obtain ⟨x174, h175⟩ : ∃ y : Int32, y = v7_107 + Int32.ofInt (1) := ⟨_, rfl⟩
                              try have h176 : x174.toInt = v7_107.toInt + (1) := ty_inc h175 (by decide) (by omega) (by omega)
                              refine lv_iinc (v := x174) (lv' := [(7, .int x174), (5, .int x170), (4, .int x133), (6, .int x74), (3, .int v3_70), (0, .ref h0), (1, .int p1), (2, .int p2)]) hx hb dX9_fees_152 hl (k := 1) rfl h175.symm (by decide) rfl (fun ls hl => ?_)
                              refine lv_goto (tgt := 107) hx hb dX9_fees_155 (by decide) ?_
                              have e177 : (gs g139 146 v7_107.toInt.toNat x168.toInt) 104 0 = g139 104 0 := by simp [gs]
                              exact ih_107 x174 x170 (gs g139 146 v7_107.toInt.toNat x168.toInt) _ _ ls (by omega) (by omega) (by omega) (by omega) (fun c j h146 => by rw [gs_c _ _ _ _ h146, hf140 c j h146]) hG hS (lv_sub hl [0, 1, 2, 3, 4, 5, 6, 7] rfl)
                            · skip
                              refine lv_goto (tgt := 152) hx hb dX9_fees_138 (by decide) ?_
                              obtain ⟨x178, h179⟩ : ∃ y : Int32, y = v7_107 + Int32.ofInt (1) := ⟨_, rfl⟩
                              try have h180 : x178.toInt = v7_107.toInt + (1) := ty_inc h179 (by decide) (by omega) (by omega)
                              refine lv_iinc (v := x178) (lv' := [(7, .int x178), (5, .int v5_107), (4, .int x133), (6, .int x74), (3, .int v3_70), (0, .ref h0), (1, .int p1), (2, .int p2)]) hx hb dX9_fees_152 hl (k := 0) rfl h179.symm (by decide) rfl (fun ls hl => ?_)
                              refine lv_goto (tgt := 107) hx hb dX9_fees_155 (by decide) ?_
                              exact ih_107 x178 v5_107 g139 _ _ ls (by omega) (by omega) (by omega) (by omega) (fun c j h146 => by rw [hf140 c j h146]) hG hS (lv_sub hl [0, 1, 2, 3, 4, 5, 6, 7] rfl)
                    exact L_107 ((g39 104 0 - x137.toInt) + 1).toNat x137 x135 g39 _ _ ls (by omega) (by omega) (by omega) (by omega) (fun c j _ => rfl) hG hS (lv_sub hl [0, 1, 2, 3, 4, 5, 6, 7] rfl)
            exact L_70 (((cnt (g25 104 0).toNat (g25 146) 1 : Int) + x37.toInt) + 1).toNat x37 x35 x33 g25 _ _ ls (by omega) (by omega) (fun c j _ => rfl) hG hS (lv_sub hl [0, 1, 2, 3, 4, 5] rfl)
          · skip
            refine lv_aload_n hx hb dX9_fees_37 rfl (lv_at hl 1 rfl) ?_
            refine get_X9_46 hx hb hA hown hE hG t_h0 wd_4_176 dX9_fees_38 (fun b181 (t_b181 : ty Γ b181 146) => ?_)
            refine lv_iload_n hx hb dX9_fees_41 rfl (lv_at hl 0 rfl) ?_
            refine lv_aload_n hx hb dX9_fees_42 rfl (lv_at hl 1 rfl) ?_
            refine lv_iload_n hx hb dX9_fees_43 rfl (lv_at hl 0 rfl) ?_
            refine cI (va_runV (C := RX9) (As := [.int v3_29]) (rest := [.int v3_29, .ref b181]) ⟨hx, hb, hml, hown, hA⟩ (k_X9_owned l dC dI dA sz X Γ hU g25 h0 t_h0 v3_29   ) ⟨callB_of 1 hA (al_A wd_5_218) rfl rfl rfl (hA _ wd_1_7) (hA _ wd_5_215) (by decide +kernel) ⟨Nat.le_of_ble_eq_true rfl, Nat.le_of_ble_eq_true rfl⟩, hA _ wd_5_217, hA _ ws_57⟩ ⟨bl, recv_X9 hE hG t_h0, fun U hU9 hW9 => ⟨rfl, by rw [hU9]; exact hG, hE.go hS hU9 hW9⟩⟩ rfl rfl hl.1 rfl (lv_room (Nat.le_of_ble_eq_true rfl)) dX9_fees_44 ⟨Nat.zero_le _, Nat.zero_le _⟩) hS (fun x184 u182 H locs w183 hG hS => ?_)
            have eu185 := w183
            rw [eu185] at hG
            refine ty_if_le (tgt := 54) hx hb dX9_fees_47 (by decide) (fun c186 => ?_) (fun c186 => ?_)
            · skip
              refine ty_iconst hx hb (0) dX9_fees_54 (by decide) (fun x187 h188 => ?_)
              refine ast_mZ hx hb hE hG hS hU 46 rfl (n := 10) rfl (lo := 0) (hi := 1) rfl rfl rfl t_b181 (by omega) (by omega) (by omega) dX9_fees_55 (fun H locs hG hS => ?_)
              obtain ⟨x189, h190⟩ : ∃ y : Int32, y = v3_29 + Int32.ofInt (1) := ⟨_, rfl⟩
              try have h191 : x189.toInt = v3_29.toInt + (1) := ty_inc h190 (by decide) (by omega) (by omega)
              refine lv_iinc (v := x189) (lv' := [(3, .int x189), (0, .ref h0), (1, .int p1), (2, .int p2)]) hx hb dX9_fees_56 hl (k := 0) rfl h190.symm (by decide) rfl (fun ls hl => ?_)
              refine lv_goto (tgt := 29) hx hb dX9_fees_59 (by decide) ?_
              have e192 : (gs g25 146 v3_29.toInt.toNat x187.toInt) 104 0 = g25 104 0 := by simp [gs]
              exact ih_29 x189 (gs g25 146 v3_29.toInt.toNat x187.toInt) _ _ ls (by omega) (by omega) (fun c j h146 => by rw [gs_c _ _ _ _ h146, hf27 c j h146]) hG hS (lv_sub hl [0, 1, 2, 3] rfl)
            · skip
              refine ty_iconst hx hb (1) dX9_fees_50 (by decide) (fun x193 h194 => ?_)
              refine lv_goto (tgt := 55) hx hb dX9_fees_51 (by decide) ?_
              refine ast_mZ hx hb hE hG hS hU 46 rfl (n := 10) rfl (lo := 0) (hi := 1) rfl rfl rfl t_b181 (by omega) (by omega) (by omega) dX9_fees_55 (fun H locs hG hS => ?_)
              obtain ⟨x195, h196⟩ : ∃ y : Int32, y = v3_29 + Int32.ofInt (1) := ⟨_, rfl⟩
              try have h197 : x195.toInt = v3_29.toInt + (1) := ty_inc h196 (by decide) (by omega) (by omega)
              refine lv_iinc (v := x195) (lv' := [(3, .int x195), (0, .ref h0), (1, .int p1), (2, .int p2)]) hx hb dX9_fees_56 hl (k := 0) rfl h196.symm (by decide) rfl (fun ls hl => ?_)
              refine lv_goto (tgt := 29) hx hb dX9_fees_59 (by decide) ?_
              have e198 : (gs g25 146 v3_29.toInt.toNat x193.toInt) 104 0 = g25 104 0 := by simp [gs]
              exact ih_29 x195 (gs g25 146 v3_29.toInt.toNat x193.toInt) _ _ ls (by omega) (by omega) (fun c j h146 => by rw [gs_c _ _ _ _ h146, hf27 c j h146]) hG hS (lv_sub hl [0, 1, 2, 3] rfl)
      have e199 : (gs g 100 0 x1.toInt) 104 0 = g 104 0 := by simp [gs]
      exact L_29 (((gs g 100 0 x1.toInt) 104 0 - x23.toInt) + 1).toNat x23 (gs g 100 0 x1.toInt) _ _ ls (by omega) (by omega) (fun c j _ => rfl) hG hS (lv_sub hl [0, 1, 2, 3] rfl)
    · skip
      refine ty_iconst hx hb (-1) dX9_fees_25 (by decide) (fun x200 h201 => ?_)
      exact W.iret (v := x200) hx hb hr (fun t ht hW => ⟨⟨x200, (gs g 100 0 x1.toInt), rfl, (fun c j h100 h146 => by rw [gs_c _ _ _ _ h100]), ok1 ht hG⟩, hS.F ht⟩) hS.2.2 dX9_fees_26
