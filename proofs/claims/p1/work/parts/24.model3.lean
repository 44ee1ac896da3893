set_option maxHeartbeats 4000000 in
set_option maxRecDepth 100000 in
/-- WeekBankModel.feed:  -/
theorem k_X9_feed (l : Launch) (dC : Nat → ClassId) (dI : Nat → Nat → Nat) (dA : Nat → ClassId) (sz : Nat) (X : va_W) (Γ : ty_G) (hU : Un Γ) (g : gh) (h0 : Nat) (t_h0 : ty Γ h0 30) (p1 : Int32) (p2 : Int32) (p3 : Int32) (p4 : Int32) (p5 : Int32) (g1 : 0 ≤ g 114 0 ∧ g 114 0 ≤ 300) : Met l yX9_feed (.code yX9_feed cX9_feed 8 (Option.some Jvm.ClassFile.FieldType.int) :: AL) ({ frames := 0, cells := 0, slots := 0, locals := 0 }) (PCx dC dI dA sz X Γ g [.ref h0, .int p1, .int p2, .int p3, .int p4, .int p5]) (va_Qi (fun (r : Int32) (u : gh) => (∀ c j : Nat, c ≠ 100 → c ≠ 113 → c ≠ 114 → u c j = g c j) ∧ ((g 114 0 ≤ 280 → r.toInt = g 114 0 + 20 ∧ u 114 0 = g 114 0 + 20) ∧ (280 < g 114 0 → r.toInt = -1 ∧ u 114 0 = g 114 0))) (okb dC dI dA sz X Γ) (ty_A sz)) 0 0 (ty_A sz) := by
  refine Met.ofW (cc := cX9_feed) (maxL := 8) (ret := (Option.some Jvm.ClassFile.FieldType.int)) (by decide) rfl ?_
  intro p e s m args below meth c s₁ B hml hv
  obtain ⟨rfl, hG, hE⟩ := hv
  have hx := B.exec
  have hb := B.bytes
  have hr := B.returns
  have hts := atoms_spec B.pre
  have hA : ∀ w ∈ AL, w.before _ s = true := fun w h => hts w (List.mem_cons_of_mem _ h)
  have hown : s.vm.findClass RX9 = some m.cls := findClass_of_methodNamed B.named
  have hlocks := B.notSynchronized
  have hS : va_S (ty_A sz) s.heap s.heap [] := va_S.rf
  have hl := lv_entry ([.ref h0, .int p1, .int p2, .int p3, .int p4, .int p5]) (n := 8) (Nat.le_of_ble_eq_true rfl)
  rw [lg_entry_eq]
  generalize (lg_sl ([.ref h0, .int p1, .int p2, .int p3, .int p4, .int p5]) ++ List.replicate (8 - (lg_sl ([.ref h0, .int p1, .int p2, .int p3, .int p4, .int p5])).length) Slot.unset).toArray = ls at hl ⊢
  have hl : lv_has ls 8 [(0, .ref h0), (1, .int p1), (2, .int p2), (3, .int p3), (4, .int p4), (5, .int p5)] := hl
  refine lv_aload_n hx hb dX9_feed_0 rfl (lv_at hl 0 rfl) ?_
  refine ty_iconst hx hb (0) dX9_feed_1 (by decide) (fun x1 h2 => ?_)
  refine put_X9_0 hx hb hA hown hE hG hS hU t_h0 wd_4_134 dX9_feed_2 (fun H locs hG hS => ?_)
  refine lv_aload_n hx hb dX9_feed_5 rfl (lv_at hl 0 rfl) ?_
  refine get_X9_14 hx hb hA hown hE hG t_h0 wd_4_148 dX9_feed_6 (fun x3 h4 => ?_)
  have h4 : x3.toInt = g 114 0 := by rw [h4]; simp [gs]
  refine ty_bipush hx hb (20) dX9_feed_9 (by decide) (fun x6 h7 => ?_)
  refine ty_iadd hx hb dX9_feed_11 (fun x8 h9 => ?_)
  try have h10 : x8.toInt = x3.toInt + x6.toInt := ty_add h9 (by omega) (by omega)
  refine ty_sipush hx hb (300) dX9_feed_12 (by decide) (fun x11 h12 => ?_)
  refine ty_icmp_le (tgt := 20) hx hb dX9_feed_15 (by decide) (fun c13 => ?_) (fun c13 => ?_)
  · skip
    refine ty_iconst hx hb (0) dX9_feed_20 (by decide) (fun x14 h15 => ?_)
    refine lv_istore (lv' := [(6, .int x14), (0, .ref h0), (1, .int p1), (2, .int p2), (3, .int p3), (4, .int p4), (5, .int p5)]) hx hb dX9_feed_21 hl (by decide) rfl (fun ls hl => ?_)
    have L_23 : ∀ (n : Nat) (k : Int32) (g16 : gh) (H : Heap) (locs : List Loc) (ls : Array Slot), (20 - k.toInt : Int) < n → 0 ≤ k.toInt ∧ k.toInt ≤ 20 → g16 114 0 = g 114 0 + k.toInt → (∀ c j : Nat, c ≠ 113 → c ≠ 114 → g16 c j = (gs g 100 0 x1.toInt) c j) → ty_ok (dC, dI) vwCl Γ (TP dA Γ g16) sz X H → va_S (ty_A sz) s.heap H locs → lv_has ls 8 [(6, .int k), (0, .ref h0), (1, .int p1), (2, .int p2), (3, .int p3), (4, .int p4), (5, .int p5)] → W p l e (headSpec (.code yX9_feed cX9_feed 8 (Option.some Jvm.ClassFile.FieldType.int) :: AL) ({ frames := 0, cells := 0, slots := 0, locals := 0 })).room s m ([.ref h0, .int p1, .int p2, .int p3, .int p4, .int p5] : List Value).toArray below meth c H locs 0 0 (MQ below (va_Qi (fun (r : Int32) (u : gh) => (∀ c j : Nat, c ≠ 100 → c ≠ 113 → c ≠ 114 → u c j = g c j) ∧ ((g 114 0 ≤ 280 → r.toInt = g 114 0 + 20 ∧ u 114 0 = g 114 0 + 20) ∧ (280 < g 114 0 → r.toInt = -1 ∧ u 114 0 = g 114 0))) (okb dC dI dA sz X Γ) (ty_A sz)) ([.ref h0, .int p1, .int p2, .int p3, .int p4, .int p5] : List Value).toArray s 0 0 (ty_A sz)) (F0 m 23 ls []) := by
      intro n
      induction n with
      | zero => intro k g16 H locs ls hm hi0 hi1 hf17 hG hS hl; exfalso; omega
      | succ n ih =>
        intro k g16 H locs ls hm hi0 hi1 hf17 hG hS hl
        refine lv_iload hx hb dX9_feed_23 (lv_at hl 0 rfl) ?_
        refine ty_bipush hx hb (20) dX9_feed_25 (by decide) (fun x18 h19 => ?_)
        refine ty_icmp_ge (tgt := 117) hx hb dX9_feed_27 (by decide) (fun c20 => ?_) (fun c20 => ?_)
        · skip
          refine lv_aload_n hx hb dX9_feed_117 rfl (lv_at hl 1 rfl) ?_
          refine get_X9_14 hx hb hA hown hE hG t_h0 wd_4_148 dX9_feed_118 (fun x21 h22 => ?_)
          exact W.iret (v := x21) hx hb hr (fun t ht hW => ⟨⟨x21, g16, rfl, ⟨(fun c j h100 h113 h114 => by rw [hf17 c j h113 h114, gs_c _ _ _ _ h100]), (by omega)⟩, ok1 ht hG⟩, hS.F ht⟩) hS.2.2 dX9_feed_121
        · skip
          refine lv_iload hx hb dX9_feed_30 (lv_at hl 0 rfl) ?_
          refine ty_iconst hx hb (4) dX9_feed_32 (by decide) (fun x24 h25 => ?_)
          refine ty_icmp_ge (tgt := 40) hx hb dX9_feed_33 (by decide) (fun c26 => ?_) (fun c26 => ?_)
          · skip
            refine lv_iload hx hb dX9_feed_40 (lv_at hl 0 rfl) ?_
            refine ty_bipush hx hb (8) dX9_feed_42 (by decide) (fun x27 h28 => ?_)
            refine ty_icmp_ge (tgt := 51) hx hb dX9_feed_44 (by decide) (fun c29 => ?_) (fun c29 => ?_)
            · skip
              refine lv_iload hx hb dX9_feed_51 (lv_at hl 0 rfl) ?_
              refine ty_bipush hx hb (12) dX9_feed_53 (by decide) (fun x30 h31 => ?_)
              refine ty_icmp_ge (tgt := 62) hx hb dX9_feed_55 (by decide) (fun c32 => ?_) (fun c32 => ?_)
              · skip
                refine lv_iload hx hb dX9_feed_62 (lv_at hl 0 rfl) ?_
                refine ty_bipush hx hb (16) dX9_feed_64 (by decide) (fun x33 h34 => ?_)
                refine ty_icmp_ge (tgt := 74) hx hb dX9_feed_66 (by decide) (fun c35 => ?_) (fun c35 => ?_)
                · skip
                  refine lv_iload hx hb dX9_feed_74 (lv_at hl 6 rfl) ?_
                  refine lv_istore (lv' := [(7, .int p5), (6, .int k), (0, .ref h0), (1, .int p1), (2, .int p2), (3, .int p3), (4, .int p4), (5, .int p5)]) hx hb dX9_feed_76 hl (by decide) rfl (fun ls hl => ?_)
                  refine lv_aload_n hx hb dX9_feed_78 rfl (lv_at hl 2 rfl) ?_
                  refine get_X9_13 hx hb hA hown hE hG t_h0 wd_4_147 dX9_feed_79 (fun b36 (t_b36 : ty Γ b36 113) => ?_)
                  refine lv_aload_n hx hb dX9_feed_82 rfl (lv_at hl 2 rfl) ?_
                  refine get_X9_14 hx hb hA hown hE hG t_h0 wd_4_148 dX9_feed_83 (fun x37 h38 => ?_)
                  refine lv_iload hx hb dX9_feed_86 (lv_at hl 0 rfl) ?_
                  refine ty_bipush hx hb (24) dX9_feed_88 (by decide) (fun x40 h41 => ?_)
                  refine ty_bipush hx hb (8) dX9_feed_90 (by decide) (fun x42 h43 => ?_)
                  refine lv_iload hx hb dX9_feed_92 (lv_at hl 1 rfl) ?_
                  refine ty_iconst hx hb (4) dX9_feed_94 (by decide) (fun x44 h45 => ?_)
                  refine lv_irem hx hb dX9_feed_95 (fun h0 => by have := ty_c0.mp h0; omega) ?_
                  refine lv_topi (fun x46 h47 => ?_)
                  refine ty_imul hx hb dX9_feed_96 (fun x48 h49 => ?_)
                  try have h50 : x48.toInt = 8 * x46.toInt := ty_mull h49 (by omega) (by omega) (by omega)
                  refine ty_isub hx hb dX9_feed_97 (fun x51 h52 => ?_)
                  try have h53 : x51.toInt = x40.toInt - x48.toInt := ty_sub h52 (by omega) (by omega)
                  refine lv_ishr hx hb dX9_feed_98 ?_
                  refine lv_topi (fun x54 h55 => ?_)
                  refine lv_i2b hx hb dX9_feed_99 rfl ?_
                  refine lv_topi (fun x56 h57 => ?_)
                  refine ast_mB hx hb hE hG hS hU 13 rfl (n := 300) rfl rfl t_b36 (by omega) dX9_feed_100 (fun H locs hG hS => ?_)
                  refine lv_aload_n hx hb dX9_feed_101 rfl (lv_at hl 2 rfl) ?_
                  refine lv_dup hx hb dX9_feed_102 rfl ?_
                  refine get_X9_14 hx hb hA hown hE hG t_h0 wd_4_148 dX9_feed_103 (fun x58 h59 => ?_)
                  have h59 : x58.toInt = g16 114 0 := by rw [h59]; simp [gs]
                  refine ty_iconst hx hb (1) dX9_feed_106 (by decide) (fun x61 h62 => ?_)
                  refine ty_iadd hx hb dX9_feed_107 (fun x63 h64 => ?_)
                  try have h65 : x63.toInt = x58.toInt + x61.toInt := ty_add h64 (by omega) (by omega)
                  refine put_X9_14 hx hb hA hown hE hG hS hU t_h0 wd_4_148 dX9_feed_108 (fun H locs hG hS => ?_)
                  obtain ⟨x66, h67⟩ : ∃ y : Int32, y = k + Int32.ofInt (1) := ⟨_, rfl⟩
                  try have h68 : x66.toInt = k.toInt + (1) := ty_inc h67 (by decide) (by omega) (by omega)
                  refine lv_iinc (v := x66) (lv' := [(6, .int x66), (7, .int p5), (0, .ref h0), (1, .int p1), (2, .int p2), (3, .int p3), (4, .int p4), (5, .int p5)]) hx hb dX9_feed_111 hl (k := 1) rfl h67.symm (by decide) rfl (fun ls hl => ?_)
                  refine lv_goto (tgt := 23) hx hb dX9_feed_114 (by decide) ?_
                  have e69 : (gs (gs g16 113 x37.toInt.toNat (vp_nar .byte x56).toInt) 114 0 x63.toInt) 114 0 = x63.toInt := by simp [gs]
                  exact ih x66 (gs (gs g16 113 x37.toInt.toNat (vp_nar .byte x56).toInt) 114 0 x63.toInt) _ _ ls (by omega) (by omega) (by omega) (fun c j h113 h114 => by rw [gs_c _ _ _ _ h114, gs_c _ _ _ _ h113, hf17 c j h113 h114]) hG hS (lv_sub hl [0, 2, 3, 4, 5, 6, 7] rfl)
                · skip
                  refine lv_iload hx hb dX9_feed_69 (lv_at hl 5 rfl) ?_
                  refine lv_goto (tgt := 76) hx hb dX9_feed_71 (by decide) ?_
                  refine lv_istore (lv' := [(7, .int p4), (6, .int k), (0, .ref h0), (1, .int p1), (2, .int p2), (3, .int p3), (4, .int p4), (5, .int p5)]) hx hb dX9_feed_76 hl (by decide) rfl (fun ls hl => ?_)
                  refine lv_aload_n hx hb dX9_feed_78 rfl (lv_at hl 2 rfl) ?_
                  refine get_X9_13 hx hb hA hown hE hG t_h0 wd_4_147 dX9_feed_79 (fun b70 (t_b70 : ty Γ b70 113) => ?_)
                  refine lv_aload_n hx hb dX9_feed_82 rfl (lv_at hl 2 rfl) ?_
                  refine get_X9_14 hx hb hA hown hE hG t_h0 wd_4_148 dX9_feed_83 (fun x71 h72 => ?_)
                  refine lv_iload hx hb dX9_feed_86 (lv_at hl 0 rfl) ?_
                  refine ty_bipush hx hb (24) dX9_feed_88 (by decide) (fun x74 h75 => ?_)
                  refine ty_bipush hx hb (8) dX9_feed_90 (by decide) (fun x76 h77 => ?_)
                  refine lv_iload hx hb dX9_feed_92 (lv_at hl 1 rfl) ?_
                  refine ty_iconst hx hb (4) dX9_feed_94 (by decide) (fun x78 h79 => ?_)
                  refine lv_irem hx hb dX9_feed_95 (fun h0 => by have := ty_c0.mp h0; omega) ?_
                  refine lv_topi (fun x80 h81 => ?_)
                  refine ty_imul hx hb dX9_feed_96 (fun x82 h83 => ?_)
                  try have h84 : x82.toInt = 8 * x80.toInt := ty_mull h83 (by omega) (by omega) (by omega)
                  refine ty_isub hx hb dX9_feed_97 (fun x85 h86 => ?_)
                  try have h87 : x85.toInt = x74.toInt - x82.toInt := ty_sub h86 (by omega) (by omega)
                  refine lv_ishr hx hb dX9_feed_98 ?_
                  refine lv_topi (fun x88 h89 => ?_)
                  refine lv_i2b hx hb dX9_feed_99 rfl ?_
                  refine lv_topi (fun x90 h91 => ?_)
                  refine ast_mB hx hb hE hG hS hU 13 rfl (n := 300) rfl rfl t_b70 (by omega) dX9_feed_100 (fun H locs hG hS => ?_)
                  refine lv_aload_n hx hb dX9_feed_101 rfl (lv_at hl 2 rfl) ?_
                  refine lv_dup hx hb dX9_feed_102 rfl ?_
                  refine get_X9_14 hx hb hA hown hE hG t_h0 wd_4_148 dX9_feed_103 (fun x92 h93 => ?_)
                  have h93 : x92.toInt = g16 114 0 := by rw [h93]; simp [gs]
                  refine ty_iconst hx hb (1) dX9_feed_106 (by decide) (fun x95 h96 => ?_)
                  refine ty_iadd hx hb dX9_feed_107 (fun x97 h98 => ?_)
                  try have h99 : x97.toInt = x92.toInt + x95.toInt := ty_add h98 (by omega) (by omega)
                  refine put_X9_14 hx hb hA hown hE hG hS hU t_h0 wd_4_148 dX9_feed_108 (fun H locs hG hS => ?_)
                  obtain ⟨x100, h101⟩ : ∃ y : Int32, y = k + Int32.ofInt (1) := ⟨_, rfl⟩
                  try have h102 : x100.toInt = k.toInt + (1) := ty_inc h101 (by decide) (by omega) (by omega)
                  refine lv_iinc (v := x100) (lv' := [(6, .int x100), (7, .int p4), (0, .ref h0), (1, .int p1), (2, .int p2), (3, .int p3), (4, .int p4), (5, .int p5)]) hx hb dX9_feed_111 hl (k := 1) rfl h101.symm (by decide) rfl (fun ls hl => ?_)
                  refine lv_goto (tgt := 23) hx hb dX9_feed_114 (by decide) ?_
                  have e103 : (gs (gs g16 113 x71.toInt.toNat (vp_nar .byte x90).toInt) 114 0 x97.toInt) 114 0 = x97.toInt := by simp [gs]
                  exact ih x100 (gs (gs g16 113 x71.toInt.toNat (vp_nar .byte x90).toInt) 114 0 x97.toInt) _ _ ls (by omega) (by omega) (by omega) (fun c j h113 h114 => by rw [gs_c _ _ _ _ h114, gs_c _ _ _ _ h113, hf17 c j h113 h114]) hG hS (lv_sub hl [0, 2, 3, 4, 5, 6, 7] rfl)
              · skip
                refine lv_iload_n hx hb dX9_feed_58 rfl (lv_at hl 4 rfl) ?_
                refine lv_goto (tgt := 76) hx hb dX9_feed_59 (by decide) ?_
                refine lv_istore (lv' := [(7, .int p3), (6, .int k), (0, .ref h0), (1, .int p1), (2, .int p2), (3, .int p3), (4, .int p4), (5, .int p5)]) hx hb dX9_feed_76 hl (by decide) rfl (fun ls hl => ?_)
                refine lv_aload_n hx hb dX9_feed_78 rfl (lv_at hl 2 rfl) ?_
                refine get_X9_13 hx hb hA hown hE hG t_h0 wd_4_147 dX9_feed_79 (fun b104 (t_b104 : ty Γ b104 113) => ?_)
                refine lv_aload_n hx hb dX9_feed_82 rfl (lv_at hl 2 rfl) ?_
                refine get_X9_14 hx hb hA hown hE hG t_h0 wd_4_148 dX9_feed_83 (fun x105 h106 => ?_)
                refine lv_iload hx hb dX9_feed_86 (lv_at hl 0 rfl) ?_
                refine ty_bipush hx hb (24) dX9_feed_88 (by decide) (fun x108 h109 => ?_)
                refine ty_bipush hx hb (8) dX9_feed_90 (by decide) (fun x110 h111 => ?_)
                refine lv_iload hx hb dX9_feed_92 (lv_at hl 1 rfl) ?_
                refine ty_iconst hx hb (4) dX9_feed_94 (by decide) (fun x112 h113 => ?_)
                refine lv_irem hx hb dX9_feed_95 (fun h0 => by have := ty_c0.mp h0; omega) ?_
                refine lv_topi (fun x114 h115 => ?_)
                refine ty_imul hx hb dX9_feed_96 (fun x116 h117 => ?_)
                try have h118 : x116.toInt = 8 * x114.toInt := ty_mull h117 (by omega) (by omega) (by omega)
                refine ty_isub hx hb dX9_feed_97 (fun x119 h120 => ?_)
                try have h121 : x119.toInt = x108.toInt - x116.toInt := ty_sub h120 (by omega) (by omega)
                refine lv_ishr hx hb dX9_feed_98 ?_
                refine lv_topi (fun x122 h123 => ?_)
                refine lv_i2b hx hb dX9_feed_99 rfl ?_
                refine lv_topi (fun x124 h125 => ?_)
                refine ast_mB hx hb hE hG hS hU 13 rfl (n := 300) rfl rfl t_b104 (by omega) dX9_feed_100 (fun H locs hG hS => ?_)
                refine lv_aload_n hx hb dX9_feed_101 rfl (lv_at hl 2 rfl) ?_
                refine lv_dup hx hb dX9_feed_102 rfl ?_
                refine get_X9_14 hx hb hA hown hE hG t_h0 wd_4_148 dX9_feed_103 (fun x126 h127 => ?_)
                have h127 : x126.toInt = g16 114 0 := by rw [h127]; simp [gs]
                refine ty_iconst hx hb (1) dX9_feed_106 (by decide) (fun x129 h130 => ?_)
                refine ty_iadd hx hb dX9_feed_107 (fun x131 h132 => ?_)
                try have h133 : x131.toInt = x126.toInt + x129.toInt := ty_add h132 (by omega) (by omega)
                refine put_X9_14 hx hb hA hown hE hG hS hU t_h0 wd_4_148 dX9_feed_108 (fun H locs hG hS => ?_)
                obtain ⟨x134, h135⟩ : ∃ y : Int32, y = k + Int32.ofInt (1) := ⟨_, rfl⟩
                try have h136 : x134.toInt = k.toInt + (1) := ty_inc h135 (by decide) (by omega) (by omega)
                refine lv_iinc (v := x134) (lv' := [(6, .int x134), (7, .int p3), (0, .ref h0), (1, .int p1), (2, .int p2), (3, .int p3), (4, .int p4), (5, .int p5)]) hx hb dX9_feed_111 hl (k := 1) rfl h135.symm (by decide) rfl (fun ls hl => ?_)
                refine lv_goto (tgt := 23) hx hb dX9_feed_114 (by decide) ?_
                have e137 : (gs (gs g16 113 x105.toInt.toNat (vp_nar .byte x124).toInt) 114 0 x131.toInt) 114 0 = x131.toInt := by simp [gs]
                exact ih x134 (gs (gs g16 113 x105.toInt.toNat (vp_nar .byte x124).toInt) 114 0 x131.toInt) _ _ ls (by omega) (by omega) (by omega) (fun c j h113 h114 => by rw [gs_c _ _ _ _ h114, gs_c _ _ _ _ h113, hf17 c j h113 h114]) hG hS (lv_sub hl [0, 2, 3, 4, 5, 6, 7] rfl)
            · skip
              refine lv_iload_n hx hb dX9_feed_47 rfl (lv_at hl 3 rfl) ?_
              refine lv_goto (tgt := 76) hx hb dX9_feed_48 (by decide) ?_
              refine lv_istore (lv' := [(7, .int p2), (6, .int k), (0, .ref h0), (1, .int p1), (2, .int p2), (3, .int p3), (4, .int p4), (5, .int p5)]) hx hb dX9_feed_76 hl (by decide) rfl (fun ls hl => ?_)
              refine lv_aload_n hx hb dX9_feed_78 rfl (lv_at hl 2 rfl) ?_
              refine get_X9_13 hx hb hA hown hE hG t_h0 wd_4_147 dX9_feed_79 (fun b138 (t_b138 : ty Γ b138 113) => ?_)
              refine lv_aload_n hx hb dX9_feed_82 rfl (lv_at hl 2 rfl) ?_
              refine get_X9_14 hx hb hA hown hE hG t_h0 wd_4_148 dX9_feed_83 (fun x139 h140 => ?_)
              refine lv_iload hx hb dX9_feed_86 (lv_at hl 0 rfl) ?_
              refine ty_bipush hx hb (24) dX9_feed_88 (by decide) (fun x142 h143 => ?_)
              refine ty_bipush hx hb (8) dX9_feed_90 (by decide) (fun x144 h145 => ?_)
              refine lv_iload hx hb dX9_feed_92 (lv_at hl 1 rfl) ?_
              refine ty_iconst hx hb (4) dX9_feed_94 (by decide) (fun x146 h147 => ?_)
              refine lv_irem hx hb dX9_feed_95 (fun h0 => by have := ty_c0.mp h0; omega) ?_
              refine lv_topi (fun x148 h149 => ?_)
              refine ty_imul hx hb dX9_feed_96 (fun x150 h151 => ?_)
              try have h152 : x150.toInt = 8 * x148.toInt := ty_mull h151 (by omega) (by omega) (by omega)
              refine ty_isub hx hb dX9_feed_97 (fun x153 h154 => ?_)
              try have h155 : x153.toInt = x142.toInt - x150.toInt := ty_sub h154 (by omega) (by omega)
              refine lv_ishr hx hb dX9_feed_98 ?_
              refine lv_topi (fun x156 h157 => ?_)
              refine lv_i2b hx hb dX9_feed_99 rfl ?_
              refine lv_topi (fun x158 h159 => ?_)
              refine ast_mB hx hb hE hG hS hU 13 rfl (n := 300) rfl rfl t_b138 (by omega) dX9_feed_100 (fun H locs hG hS => ?_)
              refine lv_aload_n hx hb dX9_feed_101 rfl (lv_at hl 2 rfl) ?_
              refine lv_dup hx hb dX9_feed_102 rfl ?_
              refine get_X9_14 hx hb hA hown hE hG t_h0 wd_4_148 dX9_feed_103 (fun x160 h161 => ?_)
              have h161 : x160.toInt = g16 114 0 := by rw [h161]; simp [gs]
              refine ty_iconst hx hb (1) dX9_feed_106 (by decide) (fun x163 h164 => ?_)
              refine ty_iadd hx hb dX9_feed_107 (fun x165 h166 => ?_)
              try have h167 : x165.toInt = x160.toInt + x163.toInt := ty_add h166 (by omega) (by omega)
              refine put_X9_14 hx hb hA hown hE hG hS hU t_h0 wd_4_148 dX9_feed_108 (fun H locs hG hS => ?_)
              obtain ⟨x168, h169⟩ : ∃ y : Int32, y = k + Int32.ofInt (1) := ⟨_, rfl⟩
              try have h170 : x168.toInt = k.toInt + (1) := ty_inc h169 (by decide) (by omega) (by omega)
              refine lv_iinc (v := x168) (lv' := [(6, .int x168), (7, .int p2), (0, .ref h0), (1, .int p1), (2, .int p2), (3, .int p3), (4, .int p4), (5, .int p5)]) hx hb dX9_feed_111 hl (k := 1) rfl h169.symm (by decide) rfl (fun ls hl => ?_)
              refine lv_goto (tgt := 23) hx hb dX9_feed_114 (by decide) ?_
              have e171 : (gs (gs g16 113 x139.toInt.toNat (vp_nar .byte x158).toInt) 114 0 x165.toInt) 114 0 = x165.toInt := by simp [gs]
              exact ih x168 (gs (gs g16 113 x139.toInt.toNat (vp_nar .byte x158).toInt) 114 0 x165.toInt) _ _ ls (by omega) (by omega) (by omega) (fun c j h113 h114 => by rw [gs_c _ _ _ _ h114, gs_c _ _ _ _ h113, hf17 c j h113 h114]) hG hS (lv_sub hl [0, 2, 3, 4, 5, 6, 7] rfl)
          · skip
            refine lv_iload_n hx hb dX9_feed_36 rfl (lv_at hl 2 rfl) ?_
            refine lv_goto (tgt := 76) hx hb dX9_feed_37 (by decide) ?_
            refine lv_istore (lv' := [(7, .int p1), (6, .int k), (0, .ref h0), (1, .int p1), (2, .int p2), (3, .int p3), (4, .int p4), (5, .int p5)]) hx hb dX9_feed_76 hl (by decide) rfl (fun ls hl => ?_)
            refine lv_aload_n hx hb dX9_feed_78 rfl (lv_at hl 2 rfl) ?_
            refine get_X9_13 hx hb hA hown hE hG t_h0 wd_4_147 dX9_feed_79 (fun b172 (t_b172 : ty Γ b172 113) => ?_)
            refine lv_aload_n hx hb dX9_feed_82 rfl (lv_at hl 2 rfl) ?_
            refine get_X9_14 hx hb hA hown hE hG t_h0 wd_4_148 dX9_feed_83 (fun x173 h174 => ?_)
            refine lv_iload hx hb dX9_feed_86 (lv_at hl 0 rfl) ?_
            refine ty_bipush hx hb (24) dX9_feed_88 (by decide) (fun x176 h177 => ?_)
            refine ty_bipush hx hb (8) dX9_feed_90 (by decide) (fun x178 h179 => ?_)
            refine lv_iload hx hb dX9_feed_92 (lv_at hl 1 rfl) ?_
            refine ty_iconst hx hb (4) dX9_feed_94 (by decide) (fun x180 h181 => ?_)
            refine lv_irem hx hb dX9_feed_95 (fun h0 => by have := ty_c0.mp h0; omega) ?_
            refine lv_topi (fun x182 h183 => ?_)
            refine ty_imul hx hb dX9_feed_96 (fun x184 h185 => ?_)
            try have h186 : x184.toInt = 8 * x182.toInt := ty_mull h185 (by omega) (by omega) (by omega)
            refine ty_isub hx hb dX9_feed_97 (fun x187 h188 => ?_)
            try have h189 : x187.toInt = x176.toInt - x184.toInt := ty_sub h188 (by omega) (by omega)
            refine lv_ishr hx hb dX9_feed_98 ?_
            refine lv_topi (fun x190 h191 => ?_)
            refine lv_i2b hx hb dX9_feed_99 rfl ?_
            refine lv_topi (fun x192 h193 => ?_)
            refine ast_mB hx hb hE hG hS hU 13 rfl (n := 300) rfl rfl t_b172 (by omega) dX9_feed_100 (fun H locs hG hS => ?_)
            refine lv_aload_n hx hb dX9_feed_101 rfl (lv_at hl 2 rfl) ?_
            refine lv_dup hx hb dX9_feed_102 rfl ?_
            refine get_X9_14 hx hb hA hown hE hG t_h0 wd_4_148 dX9_feed_103 (fun x194 h195 => ?_)
            have h195 : x194.toInt = g16 114 0 := by rw [h195]; simp [gs]
            refine ty_iconst hx hb (1) dX9_feed_106 (by decide) (fun x197 h198 => ?_)
            refine ty_iadd hx hb dX9_feed_107 (fun x199 h200 => ?_)
            try have h201 : x199.toInt = x194.toInt + x197.toInt := ty_add h200 (by omega) (by omega)
            refine put_X9_14 hx hb hA hown hE hG hS hU t_h0 wd_4_148 dX9_feed_108 (fun H locs hG hS => ?_)
            obtain ⟨x202, h203⟩ : ∃ y : Int32, y = k + Int32.ofInt (1) := ⟨_, rfl⟩
            try have h204 : x202.toInt = k.toInt + (1) := ty_inc h203 (by decide) (by omega) (by omega)
            refine lv_iinc (v := x202) (lv' := [(6, .int x202), (7, .int p1), (0, .ref h0), (1, .int p1), (2, .int p2), (3, .int p3), (4, .int p4), (5, .int p5)]) hx hb dX9_feed_111 hl (k := 1) rfl h203.symm (by decide) rfl (fun ls hl => ?_)
            refine lv_goto (tgt := 23) hx hb dX9_feed_114 (by decide) ?_
            have e205 : (gs (gs g16 113 x173.toInt.toNat (vp_nar .byte x192).toInt) 114 0 x199.toInt) 114 0 = x199.toInt := by simp [gs]
            exact ih x202 (gs (gs g16 113 x173.toInt.toNat (vp_nar .byte x192).toInt) 114 0 x199.toInt) _ _ ls (by omega) (by omega) (by omega) (fun c j h113 h114 => by rw [gs_c _ _ _ _ h114, gs_c _ _ _ _ h113, hf17 c j h113 h114]) hG hS (lv_sub hl [0, 2, 3, 4, 5, 6, 7] rfl)
    have e206 : (gs g 100 0 x1.toInt) 114 0 = g 114 0 := by simp [gs]
    exact L_23 ((20 - x14.toInt) + 1).toNat x14 (gs g 100 0 x1.toInt) _ _ ls (by omega) (by omega) (by omega) (fun c j _ _ => rfl) hG hS (lv_sub hl [0, 1, 2, 3, 4, 5, 6] rfl)
  · skip
    refine ty_iconst hx hb (-1) dX9_feed_18 (by decide) (fun x207 h208 => ?_)
    have e209 : (gs g 100 0 x1.toInt) 114 0 = g 114 0 := by simp [gs]
    exact W.iret (v := x207) hx hb hr (fun t ht hW => ⟨⟨x207, (gs g 100 0 x1.toInt), rfl, ⟨(fun c j h100 h113 h114 => by rw [gs_c _ _ _ _ h100]), (by omega)⟩, ok1 ht hG⟩, hS.F ht⟩) hS.2.2 dX9_feed_19

set_option maxHeartbeats 4000000 in
set_option maxRecDepth 100000 in
/-- WeekBankModel.next:  -/
theorem f_X9_next (l : Launch) (dC : Nat → ClassId) (dI : Nat → Nat → Nat) (dA : Nat → ClassId) (sz : Nat) (X : va_W) (Γ : ty_G) (hU : Un Γ) (g : gh) (h0 : Nat) (t_h0 : ty Γ h0 30) (f1 : g 114 0 = 0) (f2 : g 115 0 = 0) : Met l yX9_next (.code yX9_next cX9_next 2 (Option.none : Option Jvm.ClassFile.FieldType) :: AL) ({ frames := 0, cells := 0, slots := 0, locals := 0 }) (PCx dC dI dA sz X Γ g [.ref h0]) (va_Qv (fun (u : gh) => (∀ c j : Nat, c ≠ 116 → c ≠ 117 → u c j = g c j) ∧ ((u 117 0 = 0))) (okb dC dI dA sz X Γ) (ty_A sz)) 0 0 (ty_A sz) := by
  refine Met.ofW (cc := cX9_next) (maxL := 2) (ret := (Option.none : Option Jvm.ClassFile.FieldType)) (by decide) rfl ?_
  intro p e s m args below meth c s₁ B hml hv
  obtain ⟨rfl, hG, hE⟩ := hv
  have hx := B.exec
  have hb := B.bytes
  have hr := B.returns
  have hts := atoms_spec B.pre
  have hA : ∀ w ∈ AL, w.before _ s = true := fun w h => hts w (List.mem_cons_of_mem _ h)
  have hown : s.vm.findClass RX9 = some m.cls := findClass_of_methodNamed B.named
  have hlocks := B.notSynchronized
  have hS : va_S (ty_A sz) s.heap s.heap [] := va_S.rf
  have hl := lv_entry ([.ref h0]) (n := 2) (Nat.le_of_ble_eq_true rfl)
  rw [lg_entry_eq]
  generalize (lg_sl ([.ref h0]) ++ List.replicate (2 - (lg_sl ([.ref h0])).length) Slot.unset).toArray = ls at hl ⊢
  have hl : lv_has ls 2 [(0, .ref h0)] := hl
  refine lv_aload_n hx hb dX9_next_0 rfl (lv_at hl 0 rfl) ?_
  refine get_X9_15 hx hb hA hown hE hG t_h0 wd_4_149 dX9_next_1 (fun x1 h2 => ?_)
  refine lv_aload_n hx hb dX9_next_4 rfl (lv_at hl 0 rfl) ?_
  refine get_X9_14 hx hb hA hown hE hG t_h0 wd_4_148 dX9_next_5 (fun x4 h5 => ?_)
  refine ty_icmp_ge (tgt := 52) hx hb dX9_next_8 (by decide) (fun c7 => ?_) (fun c7 => ?_)
  · skip
    refine lv_aload_n hx hb dX9_next_52 rfl (lv_at hl 0 rfl) ?_
    refine lv_aload_n hx hb dX9_next_53 rfl (lv_at hl 0 rfl) ?_
    refine get_X9_15 hx hb hA hown hE hG t_h0 wd_4_149 dX9_next_54 (fun x8 h9 => ?_)
    refine put_X9_16 hx hb hA hown hE hG hS hU t_h0 wd_4_150 dX9_next_57 (fun H locs hG hS => ?_)
    refine lv_aload_n hx hb dX9_next_60 rfl (lv_at hl 0 rfl) ?_
    refine get_X9_15 hx hb hA hown hE hG t_h0 wd_4_149 dX9_next_61 (fun x11 h12 => ?_)
    have h12 : x11.toInt = g 115 0 := by rw [h12]; simp [gs]
    refine lv_aload_n hx hb dX9_next_64 rfl (lv_at hl 0 rfl) ?_
    refine get_X9_14 hx hb hA hown hE hG t_h0 wd_4_148 dX9_next_65 (fun x14 h15 => ?_)
    have h15 : x14.toInt = g 114 0 := by rw [h15]; simp [gs]
    refine ty_icmp_lt (tgt := 77) hx hb dX9_next_68 (by decide) (fun c17 => ?_) (fun c17 => ?_)
    · exfalso; omega
    · skip
      refine lv_aload_n hx hb dX9_next_71 rfl (lv_at hl 0 rfl) ?_
      refine ty_iconst hx hb (0) dX9_next_72 (by decide) (fun x18 h19 => ?_)
      refine put_X9_17 hx hb hA hown hE hG hS hU t_h0 wd_4_151 dX9_next_73 (fun H locs hG hS => ?_)
      have e20 : (gs (gs g 116 0 x8.toInt) 117 0 x18.toInt) 117 0 = x18.toInt := by simp [gs]
      exact W.vret hx hb hr (fun t ht hW => ⟨⟨(gs (gs g 116 0 x8.toInt) 117 0 x18.toInt), rfl, ⟨(fun c j h116 h117 => by rw [gs_c _ _ _ _ h117, gs_c _ _ _ _ h116]), (by omega)⟩, ok1 ht hG⟩, hS.F ht⟩) hS.2.2 dX9_next_76
  · exfalso; omega

set_option maxHeartbeats 4000000 in
set_option maxRecDepth 100000 in
/-- WeekBankModel.rules:  -/
theorem f_X9_rules (l : Launch) (dC : Nat → ClassId) (dI : Nat → Nat → Nat) (dA : Nat → ClassId) (sz : Nat) (X : va_W) (Γ : ty_G) (hU : Un Γ) (g : gh) (h0 : Nat) (t_h0 : ty Γ h0 30) (f1 : g 114 0 = 0) : Met l yX9_rules (.code yX9_rules cX9_rules 2 (Option.some Jvm.ClassFile.FieldType.int) :: AL) ({ frames := 1, cells := 0, slots := 0, locals := 21 }) (PCx dC dI dA sz X Γ g [.ref h0]) (va_Qi (fun (r : Int32) (u : gh) => (∀ c j : Nat, c ≠ 100 → c ≠ 114 → c ≠ 115 → c ≠ 116 → c ≠ 117 → c ≠ 119 → c ≠ 121 → c ≠ 122 → c ≠ 123 → c ≠ 124 → u c j = g c j) ∧ ((r.toInt = 0) ∧ (u 114 0 = 0) ∧ (u 121 0 = -1))) (okb dC dI dA sz X Γ) (ty_A sz)) 0 0 (ty_A sz) := by
  refine Met.ofW (cc := cX9_rules) (maxL := 2) (ret := (Option.some Jvm.ClassFile.FieldType.int)) (by decide) rfl ?_
  intro p e s m args below meth c s₁ B hml hv
  obtain ⟨rfl, hG, hE⟩ := hv
  have hx := B.exec
  have hb := B.bytes
  have hr := B.returns
  have hts := atoms_spec B.pre
  have hA : ∀ w ∈ AL, w.before _ s = true := fun w h => hts w (List.mem_cons_of_mem _ h)
  have hown : s.vm.findClass RX9 = some m.cls := findClass_of_methodNamed B.named
  have hlocks := B.notSynchronized
  have hS : va_S (ty_A sz) s.heap s.heap [] := va_S.rf
  have hl := lv_entry ([.ref h0]) (n := 2) (Nat.le_of_ble_eq_true rfl)
  rw [lg_entry_eq]
  generalize (lg_sl ([.ref h0]) ++ List.replicate (2 - (lg_sl ([.ref h0])).length) Slot.unset).toArray = ls at hl ⊢
  have hl : lv_has ls 2 [(0, .ref h0)] := hl
  refine lv_aload_n hx hb dX9_rules_0 rfl (lv_at hl 0 rfl) ?_
  refine ty_iconst hx hb (0) dX9_rules_1 (by decide) (fun x1 h2 => ?_)
  refine put_X9_0 hx hb hA hown hE hG hS hU t_h0 wd_4_134 dX9_rules_2 (fun H locs hG hS => ?_)
  refine lv_aload_n hx hb dX9_rules_5 rfl (lv_at hl 0 rfl) ?_
  refine ty_iconst hx hb (0) dX9_rules_6 (by decide) (fun x3 h4 => ?_)
  refine put_X9_19 hx hb hA hown hE hG hS hU t_h0 wd_4_153 dX9_rules_7 (fun H locs hG hS => ?_)
  refine lv_aload_n hx hb dX9_rules_10 rfl (lv_at hl 0 rfl) ?_
  refine ty_iconst hx hb (0) dX9_rules_11 (by decide) (fun x5 h6 => ?_)
  refine put_X9_15 hx hb hA hown hE hG hS hU t_h0 wd_4_149 dX9_rules_12 (fun H locs hG hS => ?_)
  refine lv_aload_n hx hb dX9_rules_15 rfl (lv_at hl 0 rfl) ?_
  refine ty_iconst hx hb (0) dX9_rules_16 (by decide) (fun x7 h8 => ?_)
  refine put_X9_24 hx hb hA hown hE hG hS hU t_h0 wd_4_158 dX9_rules_17 (fun H locs hG hS => ?_)
  refine lv_aload_n hx hb dX9_rules_20 rfl (lv_at hl 0 rfl) ?_
  have e9 : (gs (gs (gs (gs g 100 0 x1.toInt) 119 0 x3.toInt) 115 0 x5.toInt) 124 0 x7.toInt) 114 0 = g 114 0 := by simp [gs]
  have e10 : (gs (gs (gs (gs g 100 0 x1.toInt) 119 0 x3.toInt) 115 0 x5.toInt) 124 0 x7.toInt) 115 0 = x5.toInt := by simp [gs]
  refine cV (va_runV (C := RX9) (As := []) (rest := []) ⟨hx, hb, hml, hown, hA⟩ (f_X9_next l dC dI dA sz X Γ hU (gs (gs (gs (gs g 100 0 x1.toInt) 119 0 x3.toInt) 115 0 x5.toInt) 124 0 x7.toInt) h0 t_h0   (by omega) (by omega)) ⟨callB_of 0 hA (al_A wd_5_78) rfl rfl rfl (hA _ wd_1_7) (hA _ wd_5_75) (by decide +kernel) ⟨Nat.le_of_ble_eq_true rfl, Nat.le_of_ble_eq_true rfl⟩, hA _ wd_5_77, hA _ ws_39⟩ ⟨bl, recv_X9 hE hG t_h0, fun U hU9 hW9 => ⟨rfl, by rw [hU9]; exact hG, hE.go hS hU9 hW9⟩⟩ rfl rfl hl.1 rfl (lv_room (Nat.le_of_ble_eq_true rfl)) dX9_rules_21 ⟨Nat.zero_le _, Nat.zero_le _⟩) hS (fun u11 H locs w12 hG hS => ?_)
  obtain ⟨hf13, w12⟩ := w12
  refine lv_aload_n hx hb dX9_rules_24 rfl (lv_at hl 0 rfl) ?_
  refine get_X9_19 hx hb hA hown hE hG t_h0 wd_4_153 dX9_rules_25 (fun x14 h15 => ?_)
  have hk17 : u11 119 0 = (gs (gs (gs (gs g 100 0 x1.toInt) 119 0 x3.toInt) 115 0 x5.toInt) 124 0 x7.toInt) 119 0 := hf13 119 0 (by decide) (by decide)
  have hk17 : u11 119 0 = x3.toInt := by rw [hk17]; simp [gs]
  refine ty_if_ne (tgt := 45) hx hb dX9_rules_28 (by decide) (fun c18 => ?_) (fun c18 => ?_)
  · exfalso; omega
  · skip
    refine lv_aload_n hx hb dX9_rules_31 rfl (lv_at hl 0 rfl) ?_
    refine get_X9_17 hx hb hA hown hE hG t_h0 wd_4_151 dX9_rules_32 (fun x19 h20 => ?_)
    refine ty_if_eq (tgt := 45) hx hb dX9_rules_35 (by decide) (fun c22 => ?_) (fun c22 => ?_)
    · skip
      refine lv_aload_n hx hb dX9_rules_45 rfl (lv_at hl 0 rfl) ?_
      refine ty_iconst hx hb (0) dX9_rules_46 (by decide) (fun x23 h24 => ?_)
      refine put_X9_14 hx hb hA hown hE hG hS hU t_h0 wd_4_148 dX9_rules_47 (fun H locs hG hS => ?_)
      refine lv_aload_n hx hb dX9_rules_50 rfl (lv_at hl 0 rfl) ?_
      refine lv_aload_n hx hb dX9_rules_51 rfl (lv_at hl 0 rfl) ?_
      refine get_X9_19 hx hb hA hown hE hG t_h0 wd_4_153 dX9_rules_52 (fun x25 h26 => ?_)
      have h26 : x25.toInt = u11 119 0 := by rw [h26]; simp [gs]
      refine ty_if_ne (tgt := 62) hx hb dX9_rules_55 (by decide) (fun c28 => ?_) (fun c28 => ?_)
      · exfalso; omega
      · skip
        refine ty_iconst hx hb (-1) dX9_rules_58 (by decide) (fun x29 h30 => ?_)
        refine lv_goto (tgt := 66) hx hb dX9_rules_59 (by decide) ?_
        refine put_X9_21 hx hb hA hown hE hG hS hU t_h0 wd_4_155 dX9_rules_66 (fun H locs hG hS => ?_)
        refine lv_aload_n hx hb dX9_rules_69 rfl (lv_at hl 0 rfl) ?_
        refine get_X9_19 hx hb hA hown hE hG t_h0 wd_4_153 dX9_rules_70 (fun x31 h32 => ?_)
        have h32 : x31.toInt = u11 119 0 := by rw [h32]; simp [gs]
        refine ty_if_eq (tgt := 83) hx hb dX9_rules_73 (by decide) (fun c34 => ?_) (fun c34 => ?_)
        · skip
          refine lv_aload_n hx hb dX9_rules_83 rfl (lv_at hl 0 rfl) ?_
          refine lv_aload_n hx hb dX9_rules_84 rfl (lv_at hl 0 rfl) ?_
          refine get_X9_24 hx hb hA hown hE hG t_h0 wd_4_158 dX9_rules_85 (fun x35 h36 => ?_)
          have h36 : x35.toInt = u11 124 0 := by rw [h36]; simp [gs]
          have hk38 : u11 124 0 = (gs (gs (gs (gs g 100 0 x1.toInt) 119 0 x3.toInt) 115 0 x5.toInt) 124 0 x7.toInt) 124 0 := hf13 124 0 (by decide) (by decide)
          have hk38 : u11 124 0 = x7.toInt := by rw [hk38]; simp [gs]
          refine put_X9_22 hx hb hA hown hE hG hS hU t_h0 wd_4_156 dX9_rules_88 (fun H locs hG hS => ?_)
          refine ty_iconst hx hb (0) dX9_rules_91 (by decide) (fun x39 h40 => ?_)
          refine lv_istore_n (lv' := [(1, .int x39), (0, .ref h0)]) hx hb dX9_rules_92 rfl hl (by decide) rfl (fun ls hl => ?_)
          have L_93 : ∀ (n : Nat) (k : Int32) (g41 : gh) (H : Heap) (locs : List Loc) (ls : Array Slot), (120 - k.toInt : Int) < n → 0 ≤ k.toInt ∧ k.toInt ≤ 120 → (∀ c j : Nat, c ≠ 123 → g41 c j = (gs (gs (gs u11 114 0 x23.toInt) 121 0 x29.toInt) 122 0 x35.toInt) c j) → ty_ok (dC, dI) vwCl Γ (TP dA Γ g41) sz X H → va_S (ty_A sz) s.heap H locs → lv_has ls 2 [(1, .int k), (0, .ref h0)] → W p l e (headSpec (.code yX9_rules cX9_rules 2 (Option.some Jvm.ClassFile.FieldType.int) :: AL) ({ frames := 1, cells := 0, slots := 0, locals := 21 })).room s m ([.ref h0] : List Value).toArray below meth c H locs 0 0 (MQ below (va_Qi (fun (r : Int32) (u : gh) => (∀ c j : Nat, c ≠ 100 → c ≠ 114 → c ≠ 115 → c ≠ 116 → c ≠ 117 → c ≠ 119 → c ≠ 121 → c ≠ 122 → c ≠ 123 → c ≠ 124 → u c j = g c j) ∧ ((r.toInt = 0) ∧ (u 114 0 = 0) ∧ (u 121 0 = -1))) (okb dC dI dA sz X Γ) (ty_A sz)) ([.ref h0] : List Value).toArray s 0 0 (ty_A sz)) (F0 m 93 ls []) := by
            intro n
            induction n with
            | zero => intro k g41 H locs ls hm hi0 hf42 hG hS hl; exfalso; omega
            | succ n ih =>
              intro k g41 H locs ls hm hi0 hf42 hG hS hl
              refine lv_iload_n hx hb dX9_rules_93 rfl (lv_at hl 0 rfl) ?_
              refine ty_bipush hx hb (120) dX9_rules_94 (by decide) (fun x43 h44 => ?_)
              refine ty_icmp_ge (tgt := 117) hx hb dX9_rules_96 (by decide) (fun c45 => ?_) (fun c45 => ?_)
              · skip
                refine lv_aload_n hx hb dX9_rules_117 rfl (lv_at hl 1 rfl) ?_
                refine get_X9_22 hx hb hA hown hE hG t_h0 wd_4_156 dX9_rules_118 (fun x46 h47 => ?_)
                have hk49 : g41 122 0 = (gs (gs (gs u11 114 0 x23.toInt) 121 0 x29.toInt) 122 0 x35.toInt) 122 0 := hf42 122 0 (by decide)
                have hk49 : g41 122 0 = x35.toInt := by rw [hk49]; simp [gs]
                have hk50 : g41 114 0 = (gs (gs (gs u11 114 0 x23.toInt) 121 0 x29.toInt) 122 0 x35.toInt) 114 0 := hf42 114 0 (by decide)
                have hk50 : g41 114 0 = x23.toInt := by rw [hk50]; simp [gs]
                have hk51 : g41 121 0 = (gs (gs (gs u11 114 0 x23.toInt) 121 0 x29.toInt) 122 0 x35.toInt) 121 0 := hf42 121 0 (by decide)
                have hk51 : g41 121 0 = x29.toInt := by rw [hk51]; simp [gs]
                exact W.iret (v := x46) hx hb hr (fun t ht hW => ⟨⟨x46, g41, rfl, ⟨(fun c j h100 h114 h115 h116 h117 h119 h121 h122 h123 h124 => by rw [hf42 c j h123, gs_c _ _ _ _ h122, gs_c _ _ _ _ h121, gs_c _ _ _ _ h114, hf13 c j h116 h117, gs_c _ _ _ _ h124, gs_c _ _ _ _ h115, gs_c _ _ _ _ h119, gs_c _ _ _ _ h100]), (by omega)⟩, ok1 ht hG⟩, hS.F ht⟩) hS.2.2 dX9_rules_121
              · skip
                refine lv_aload_n hx hb dX9_rules_99 rfl (lv_at hl 1 rfl) ?_
                refine get_X9_23 hx hb hA hown hE hG t_h0 wd_4_157 dX9_rules_100 (fun b52 (t_b52 : ty Γ b52 123) => ?_)
                refine lv_iload_n hx hb dX9_rules_103 rfl (lv_at hl 0 rfl) ?_
                refine lv_aload_n hx hb dX9_rules_104 rfl (lv_at hl 1 rfl) ?_
                refine get_X9_25 hx hb hA hown hE hG t_h0 wd_4_159 dX9_rules_105 (fun b53 (t_b53 : ty Γ b53 125) => ?_)
                refine lv_iload_n hx hb dX9_rules_108 rfl (lv_at hl 0 rfl) ?_
                refine ald_mI hx hb hE hG 25 rfl (n := 120) rfl t_b53 (by omega) dX9_rules_109 (fun j55 x54 h56 h57 => ?_)
                refine ast_mI hx hb hE hG hS hU 23 rfl (n := 120) rfl rfl t_b52 (by omega) dX9_rules_110 (fun H locs hG hS => ?_)
                obtain ⟨x58, h59⟩ : ∃ y : Int32, y = k + Int32.ofInt (1) := ⟨_, rfl⟩
                try have h60 : x58.toInt = k.toInt + (1) := ty_inc h59 (by decide) (by omega) (by omega)
                refine lv_iinc (v := x58) (lv' := [(1, .int x58), (0, .ref h0)]) hx hb dX9_rules_111 hl (k := 0) rfl h59.symm (by decide) rfl (fun ls hl => ?_)
                refine lv_goto (tgt := 93) hx hb dX9_rules_114 (by decide) ?_
                exact ih x58 (gs g41 123 k.toInt.toNat x54.toInt) _ _ ls (by omega) (by omega) (fun c j h123 => by rw [gs_c _ _ _ _ h123, hf42 c j h123]) hG hS (lv_sub hl [0, 1] rfl)
          exact L_93 ((120 - x39.toInt) + 1).toNat x39 (gs (gs (gs u11 114 0 x23.toInt) 121 0 x29.toInt) 122 0 x35.toInt) _ _ ls (by omega) (by omega) (fun c j _ => rfl) hG hS (lv_sub hl [0, 1] rfl)
        · exfalso; omega
    · exfalso; omega

set_option maxHeartbeats 4000000 in
set_option maxRecDepth 100000 in
/-- WeekBankModel.chooses:  -/
theorem f_X9_chooses (l : Launch) (dC : Nat → ClassId) (dI : Nat → Nat → Nat) (dA : Nat → ClassId) (sz : Nat) (X : va_W) (Γ : ty_G) (hU : Un Γ) (g : gh) (h0 : Nat) (t_h0 : ty Γ h0 30) (p1 : Int32) (p2 : Int32) (p3 : Int32) (p4 : Int32) (f0 : p1.toInt = 0 ∧ p2.toInt = 0 ∧ p3.toInt = 0 ∧ p4.toInt = 0) (f1 : g 137 0 = 0) (f2 : g 141 0 = -1) : Met l yX9_chooses (.code yX9_chooses cX9_chooses 8 (Option.none : Option Jvm.ClassFile.FieldType) :: AL) ({ frames := 0, cells := 0, slots := 0, locals := 0 }) (PCx dC dI dA sz X Γ g [.ref h0, .int p1, .int p2, .int p3, .int p4]) (va_Qv (fun (u : gh) => (∀ c j : Nat, c ≠ 141 → c ≠ 142 → u c j = g c j)) (okb dC dI dA sz X Γ) (ty_A sz)) 0 0 (ty_A sz) := by
  refine Met.ofW (cc := cX9_chooses) (maxL := 8) (ret := (Option.none : Option Jvm.ClassFile.FieldType)) (by decide) rfl ?_
  intro p e s m args below meth c s₁ B hml hv
  obtain ⟨rfl, hG, hE⟩ := hv
  have hx := B.exec
  have hb := B.bytes
  have hr := B.returns
  have hts := atoms_spec B.pre
  have hA : ∀ w ∈ AL, w.before _ s = true := fun w h => hts w (List.mem_cons_of_mem _ h)
  have hown : s.vm.findClass RX9 = some m.cls := findClass_of_methodNamed B.named
  have hlocks := B.notSynchronized
  have hS : va_S (ty_A sz) s.heap s.heap [] := va_S.rf
  have hl := lv_entry ([.ref h0, .int p1, .int p2, .int p3, .int p4]) (n := 8) (Nat.le_of_ble_eq_true rfl)
  rw [lg_entry_eq]
  generalize (lg_sl ([.ref h0, .int p1, .int p2, .int p3, .int p4]) ++ List.replicate (8 - (lg_sl ([.ref h0, .int p1, .int p2, .int p3, .int p4])).length) Slot.unset).toArray = ls at hl ⊢
  have hl : lv_has ls 8 [(0, .ref h0), (1, .int p1), (2, .int p2), (3, .int p3), (4, .int p4)] := hl
  refine lv_iload_n hx hb dX9_chooses_0 rfl (lv_at hl 2 rfl) ?_
  refine lv_aload_n hx hb dX9_chooses_1 rfl (lv_at hl 0 rfl) ?_
  refine get_X9_37 hx hb hA hown hE hG t_h0 wd_4_171 dX9_chooses_2 (fun x1 h2 => ?_)
  refine ty_iadd hx hb dX9_chooses_5 (fun x4 h5 => ?_)
  try have h6 : x4.toInt = p2.toInt + x1.toInt := ty_add h5 (by omega) (by omega)
  refine lv_iload_n hx hb dX9_chooses_6 rfl (lv_at hl 1 rfl) ?_
  refine ty_isub hx hb dX9_chooses_7 (fun x7 h8 => ?_)
  try have h9 : x7.toInt = x4.toInt - p1.toInt := ty_sub h8 (by omega) (by omega)
  refine lv_istore (lv' := [(5, .int x7), (0, .ref h0), (1, .int p1), (2, .int p2), (3, .int p3), (4, .int p4)]) hx hb dX9_chooses_8 hl (by decide) rfl (fun ls hl => ?_)
  refine lv_iload hx hb dX9_chooses_10 (lv_at hl 0 rfl) ?_
  refine lv_aload_n hx hb dX9_chooses_12 rfl (lv_at hl 1 rfl) ?_
  refine get_X9_41 hx hb hA hown hE hG t_h0 wd_4_175 dX9_chooses_13 (fun x10 h11 => ?_)
  refine ty_icmp_lt (tgt := 39) hx hb dX9_chooses_16 (by decide) (fun c13 => ?_) (fun c13 => ?_)
  · exfalso; omega
  · skip
    refine lv_iload hx hb dX9_chooses_19 (lv_at hl 0 rfl) ?_
    refine lv_aload_n hx hb dX9_chooses_21 rfl (lv_at hl 1 rfl) ?_
    refine get_X9_41 hx hb hA hown hE hG t_h0 wd_4_175 dX9_chooses_22 (fun x14 h15 => ?_)
    refine ty_icmp_ne (tgt := 40) hx hb dX9_chooses_25 (by decide) (fun c17 => ?_) (fun c17 => ?_)
    · skip
      refine lv_iload_n hx hb dX9_chooses_40 rfl (lv_at hl 2 rfl) ?_
      refine lv_aload_n hx hb dX9_chooses_41 rfl (lv_at hl 1 rfl) ?_
      refine get_X9_37 hx hb hA hown hE hG t_h0 wd_4_171 dX9_chooses_42 (fun x18 h19 => ?_)
      refine ty_icmp_ne (tgt := 94) hx hb dX9_chooses_45 (by decide) (fun c21 => ?_) (fun c21 => ?_)
      · exfalso; omega
      · skip
        refine lv_aload_n hx hb dX9_chooses_48 rfl (lv_at hl 1 rfl) ?_
        refine lv_iload_n hx hb dX9_chooses_49 rfl (lv_at hl 3 rfl) ?_
        refine put_X9_41 hx hb hA hown hE hG hS hU t_h0 wd_4_175 dX9_chooses_50 (fun H locs hG hS => ?_)
        refine lv_aload_n hx hb dX9_chooses_53 rfl (lv_at hl 1 rfl) ?_
        refine lv_iload hx hb dX9_chooses_54 (lv_at hl 5 rfl) ?_
        refine lv_iload_n hx hb dX9_chooses_56 rfl (lv_at hl 4 rfl) ?_
        refine ty_isub hx hb dX9_chooses_57 (fun x22 h23 => ?_)
        try have h24 : x22.toInt = p4.toInt - p3.toInt := ty_sub h23 (by omega) (by omega)
        refine put_X9_42 hx hb hA hown hE hG hS hU t_h0 wd_4_176 dX9_chooses_58 (fun H locs hG hS => ?_)
        refine ty_iconst hx hb (0) dX9_chooses_61 (by decide) (fun x25 h26 => ?_)
        refine lv_istore (lv' := [(6, .int x25), (5, .int x7), (0, .ref h0), (1, .int p1), (2, .int p2), (3, .int p3), (4, .int p4)]) hx hb dX9_chooses_62 hl (by decide) rfl (fun ls hl => ?_)
        refine lv_iload hx hb dX9_chooses_64 (lv_at hl 0 rfl) ?_
        refine lv_aload_n hx hb dX9_chooses_66 rfl (lv_at hl 2 rfl) ?_
        refine get_X9_37 hx hb hA hown hE hG t_h0 wd_4_171 dX9_chooses_67 (fun x27 h28 => ?_)
        have h28 : x27.toInt = g 137 0 := by rw [h28]; simp [gs]
        refine ty_icmp_ge (tgt := 93) hx hb dX9_chooses_70 (by decide) (fun c30 => ?_) (fun c30 => ?_)
        · skip
          exact W.vret hx hb hr (fun t ht hW => ⟨⟨(gs (gs g 141 0 p2.toInt) 142 0 x22.toInt), rfl, (fun c j h141 h142 => by rw [gs_c _ _ _ _ h142, gs_c _ _ _ _ h141]), ok1 ht hG⟩, hS.F ht⟩) hS.2.2 dX9_chooses_93
        · exfalso; omega
    · exfalso; omega

set_option maxHeartbeats 4000000 in
set_option maxRecDepth 100000 in
/-- WeekBankModel.rings:  -/
theorem f_X9_rings (l : Launch) (dC : Nat → ClassId) (dI : Nat → Nat → Nat) (dA : Nat → ClassId) (sz : Nat) (X : va_W) (Γ : ty_G) (hU : Un Γ) (g : gh) (h0 : Nat) (t_h0 : ty Γ h0 30) (p1 : Int32) (f1 : g 126 0 = 0) : Met l yX9_rings (.code yX9_rings cX9_rings 7 (Option.some Jvm.ClassFile.FieldType.int) :: AL) ({ frames := 1, cells := 0, slots := 0, locals := 27 }) (PCx dC dI dA sz X Γ g [.ref h0, .int p1]) (va_Qi (fun (r : Int32) (u : gh) => (∀ c j : Nat, c ≠ 100 → c ≠ 137 → c ≠ 141 → c ≠ 142 → c ≠ 143 → u c j = g c j) ∧ ((2 ≤ p1.toInt ∧ p1.toInt ≤ 9 → r.toInt = 0) ∧ (¬ (2 ≤ p1.toInt ∧ p1.toInt ≤ 9) → r.toInt = -1))) (okb dC dI dA sz X Γ) (ty_A sz)) 0 0 (ty_A sz) := by
  refine Met.ofW (cc := cX9_rings) (maxL := 7) (ret := (Option.some Jvm.ClassFile.FieldType.int)) (by decide) rfl ?_
  intro p e s m args below meth c s₁ B hml hv
  obtain ⟨rfl, hG, hE⟩ := hv
  have hx := B.exec
  have hb := B.bytes
  have hr := B.returns
  have hts := atoms_spec B.pre
  have hA : ∀ w ∈ AL, w.before _ s = true := fun w h => hts w (List.mem_cons_of_mem _ h)
  have hown : s.vm.findClass RX9 = some m.cls := findClass_of_methodNamed B.named
  have hlocks := B.notSynchronized
  have hS : va_S (ty_A sz) s.heap s.heap [] := va_S.rf
  have hl := lv_entry ([.ref h0, .int p1]) (n := 7) (Nat.le_of_ble_eq_true rfl)
  rw [lg_entry_eq]
  generalize (lg_sl ([.ref h0, .int p1]) ++ List.replicate (7 - (lg_sl ([.ref h0, .int p1])).length) Slot.unset).toArray = ls at hl ⊢
  have hl : lv_has ls 7 [(0, .ref h0), (1, .int p1)] := hl
  refine lv_aload_n hx hb dX9_rings_0 rfl (lv_at hl 0 rfl) ?_
  refine ty_iconst hx hb (0) dX9_rings_1 (by decide) (fun x1 h2 => ?_)
  refine put_X9_0 hx hb hA hown hE hG hS hU t_h0 wd_4_134 dX9_rings_2 (fun H locs hG hS => ?_)
  refine lv_iload_n hx hb dX9_rings_5 rfl (lv_at hl 1 rfl) ?_
  refine ty_iconst hx hb (2) dX9_rings_6 (by decide) (fun x3 h4 => ?_)
  refine ty_bipush hx hb (9) dX9_rings_7 (by decide) (fun x5 h6 => ?_)
  refine cI (va_runS (As := [.int p1, .int x3, .int x5]) (rest := []) ⟨hx, hb, hml, hown, hA⟩ (k_X9_within l dC dI dA sz X Γ hU (gs g 100 0 x1.toInt) p1 x3 x5   ) ⟨callB_of 3 hA (al_A wd_5_42) rfl rfl rfl (hA _ wd_1_7) (hA _ wd_5_40) (by decide +kernel) ⟨Nat.le_of_ble_eq_true rfl, Nat.le_of_ble_eq_true rfl⟩, hA _ wd_5_41⟩ ⟨bl, fun U hU9 hW9 => ⟨rfl, by rw [hU9]; exact hG, hE.go hS hU9 hW9⟩⟩ rfl rfl hl.1 rfl (lv_room (Nat.le_of_ble_eq_true rfl)) dX9_rings_9 ⟨Nat.zero_le _, Nat.zero_le _⟩) hS (fun x9 u7 H locs w8 hG hS => ?_)
  obtain ⟨eu10, w8⟩ := w8
  rw [eu10] at hG
  refine ty_if_ne (tgt := 17) hx hb dX9_rings_12 (by decide) (fun c11 => ?_) (fun c11 => ?_)
  · skip
    refine lv_aload_n hx hb dX9_rings_17 rfl (lv_at hl 0 rfl) ?_
    refine ty_iconst hx hb (0) dX9_rings_18 (by decide) (fun x12 h13 => ?_)
    refine put_X9_37 hx hb hA hown hE hG hS hU t_h0 wd_4_171 dX9_rings_19 (fun H locs hG hS => ?_)
    refine lv_aload_n hx hb dX9_rings_22 rfl (lv_at hl 0 rfl) ?_
    refine lv_iload_n hx hb dX9_rings_23 rfl (lv_at hl 1 rfl) ?_
    refine put_X9_43 hx hb hA hown hE hG hS hU t_h0 wd_4_177 dX9_rings_24 (fun H locs hG hS => ?_)
    refine ty_iconst hx hb (0) dX9_rings_27 (by decide) (fun x14 h15 => ?_)
    refine lv_istore_n (lv' := [(2, .int x14), (0, .ref h0), (1, .int p1)]) hx hb dX9_rings_28 rfl hl (by decide) rfl (fun ls hl => ?_)
    refine ty_iconst hx hb (0) dX9_rings_29 (by decide) (fun x16 h17 => ?_)
    refine lv_istore_n (lv' := [(3, .int x16), (2, .int x14), (0, .ref h0), (1, .int p1)]) hx hb dX9_rings_30 rfl hl (by decide) rfl (fun ls hl => ?_)
    refine lv_iload_n hx hb dX9_rings_31 rfl (lv_at hl 0 rfl) ?_
    refine lv_aload_n hx hb dX9_rings_32 rfl (lv_at hl 2 rfl) ?_
    refine get_X9_26 hx hb hA hown hE hG t_h0 wd_4_160 dX9_rings_33 (fun x18 h19 => ?_)
    have h19 : x18.toInt = g 126 0 := by rw [h19]; simp [gs]
    refine ty_icmp_ge (tgt := 107) hx hb dX9_rings_36 (by decide) (fun c21 => ?_) (fun c21 => ?_)
    · skip
      refine lv_aload_n hx hb dX9_rings_107 rfl (lv_at hl 2 rfl) ?_
      refine ty_iconst hx hb (-1) dX9_rings_108 (by decide) (fun x22 h23 => ?_)
      refine put_X9_41 hx hb hA hown hE hG hS hU t_h0 wd_4_175 dX9_rings_109 (fun H locs hG hS => ?_)
      refine lv_aload_n hx hb dX9_rings_112 rfl (lv_at hl 2 rfl) ?_
      refine ty_iconst hx hb (-1) dX9_rings_113 (by decide) (fun x24 h25 => ?_)
      refine put_X9_42 hx hb hA hown hE hG hS hU t_h0 wd_4_176 dX9_rings_114 (fun H locs hG hS => ?_)
      refine lv_aload_n hx hb dX9_rings_117 rfl (lv_at hl 2 rfl) ?_
      refine ty_iconst hx hb (0) dX9_rings_118 (by decide) (fun x26 h27 => ?_)
      refine ty_iconst hx hb (0) dX9_rings_119 (by decide) (fun x28 h29 => ?_)
      refine ty_iconst hx hb (0) dX9_rings_120 (by decide) (fun x30 h31 => ?_)
      refine lv_iload_n hx hb dX9_rings_121 rfl (lv_at hl 1 rfl) ?_
      have e32 : (gs (gs (gs (gs (gs g 100 0 x1.toInt) 137 0 x12.toInt) 143 0 p1.toInt) 141 0 x22.toInt) 142 0 x24.toInt) 137 0 = x12.toInt := by simp [gs]
      have e33 : (gs (gs (gs (gs (gs g 100 0 x1.toInt) 137 0 x12.toInt) 143 0 p1.toInt) 141 0 x22.toInt) 142 0 x24.toInt) 141 0 = x22.toInt := by simp [gs]
      refine cV (va_runV (C := RX9) (As := [.int x26, .int x28, .int x30, .int x14]) (rest := []) ⟨hx, hb, hml, hown, hA⟩ (f_X9_chooses l dC dI dA sz X Γ hU (gs (gs (gs (gs (gs g 100 0 x1.toInt) 137 0 x12.toInt) 143 0 p1.toInt) 141 0 x22.toInt) 142 0 x24.toInt) h0 t_h0 x26 x28 x30 x14   (by omega) (by omega) (by omega)) ⟨callB_of 4 hA (al_A wd_5_156) rfl rfl rfl (hA _ wd_1_7) (hA _ wd_5_153) (by decide +kernel) ⟨Nat.le_of_ble_eq_true rfl, Nat.le_of_ble_eq_true rfl⟩, hA _ wd_5_155, hA _ ws_49⟩ ⟨bl, recv_X9 hE hG t_h0, fun U hU9 hW9 => ⟨rfl, by rw [hU9]; exact hG, hE.go hS hU9 hW9⟩⟩ rfl rfl hl.1 rfl (lv_room (Nat.le_of_ble_eq_true rfl)) dX9_rings_122 ⟨Nat.zero_le _, Nat.zero_le _⟩) hS (fun u34 H locs w35 hG hS => ?_)
      have hf36 := w35
      refine ty_iconst hx hb (0) dX9_rings_125 (by decide) (fun x37 h38 => ?_)
      refine lv_istore_n (lv' := [(3, .int x37), (2, .int x14), (0, .ref h0), (1, .int p1)]) hx hb dX9_rings_126 rfl hl (by decide) rfl (fun ls hl => ?_)
      refine ty_iconst hx hb (0) dX9_rings_127 (by decide) (fun x39 h40 => ?_)
      refine lv_istore (lv' := [(4, .int x39), (3, .int x37), (2, .int x14), (0, .ref h0), (1, .int p1)]) hx hb dX9_rings_128 hl (by decide) rfl (fun ls hl => ?_)
      refine lv_iload hx hb dX9_rings_130 (lv_at hl 0 rfl) ?_
      refine lv_aload_n hx hb dX9_rings_132 rfl (lv_at hl 3 rfl) ?_
      refine get_X9_37 hx hb hA hown hE hG t_h0 wd_4_171 dX9_rings_133 (fun x41 h42 => ?_)
      have hk44 : u34 137 0 = (gs (gs (gs (gs (gs g 100 0 x1.toInt) 137 0 x12.toInt) 143 0 p1.toInt) 141 0 x22.toInt) 142 0 x24.toInt) 137 0 := hf36 137 0 (by decide) (by decide)
      have hk44 : u34 137 0 = x12.toInt := by rw [hk44]; simp [gs]
      refine ty_icmp_ge (tgt := 216) hx hb dX9_rings_136 (by decide) (fun c45 => ?_) (fun c45 => ?_)
      · skip
        refine lv_iload_n hx hb dX9_rings_216 rfl (lv_at hl 1 rfl) ?_
        exact W.iret (v := x37) hx hb hr (fun t ht hW => ⟨⟨x37, u34, rfl, ⟨(fun c j h100 h137 h141 h142 h143 => by rw [hf36 c j h141 h142, gs_c _ _ _ _ h142, gs_c _ _ _ _ h141, gs_c _ _ _ _ h143, gs_c _ _ _ _ h137, gs_c _ _ _ _ h100]), (by omega)⟩, ok1 ht hG⟩, hS.F ht⟩) hS.2.2 dX9_rings_217
      · exfalso; omega
    · exfalso; omega
  · skip
    refine ty_iconst hx hb (-1) dX9_rings_15 (by decide) (fun x46 h47 => ?_)
    exact W.iret (v := x46) hx hb hr (fun t ht hW => ⟨⟨x46, (gs g 100 0 x1.toInt), rfl, ⟨(fun c j h100 h137 h141 h142 h143 => by rw [gs_c _ _ _ _ h100]), (by omega)⟩, ok1 ht hG⟩, hS.F ht⟩) hS.2.2 dX9_rings_16
