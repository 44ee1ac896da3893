set_option maxHeartbeats 4000000 in
set_option maxRecDepth 100000 in
/-- WeekBankModel.shut:  -/
theorem k_X9_shut (l : Launch) (dC : Nat → ClassId) (dI : Nat → Nat → Nat) (dA : Nat → ClassId) (sz : Nat) (X : va_W) (Γ : ty_G) (hU : Un Γ) (g : gh) (h0 : Nat) (t_h0 : ty Γ h0 30) (p1 : Int32) (p2 : Int32) (p3 : Int32) (m1 : 0 ≤ g 101 0 ∧ g 101 0 ≤ 6) (m26 : 0 ≤ g 126 0 ∧ g 126 0 ≤ 200) (m12 : 0 ≤ g 112 0 ∧ g 112 0 ≤ 52) (hIJ : IJ g) : Met l yX9_shut (.code yX9_shut cX9_shut 6 (Option.some Jvm.ClassFile.FieldType.int) :: AL) ({ frames := 2, cells := 0, slots := 0, locals := 44 }) (PCx dC dI dA sz X Γ g [.ref h0, .int p1, .int p2, .int p3]) (va_Qi (fun (r : Int32) (u : gh) => (∀ c j : Nat, c ≠ 100 → c ≠ 106 → c ≠ 110 → c ≠ 132 → u c j = g c j) ∧ (IJ u)) (okb dC dI dA sz X Γ) (ty_A sz)) 0 0 (ty_A sz) := by
  refine Met.ofW (cc := cX9_shut) (maxL := 6) (ret := (Option.some Jvm.ClassFile.FieldType.int)) (by decide) rfl ?_
  intro p e s m args below meth c s₁ B hml hv
  obtain ⟨rfl, hG, hE⟩ := hv
  have hx := B.exec
  have hb := B.bytes
  have hr := B.returns
  have hts := atoms_spec B.pre
  have hA : ∀ w ∈ AL, w.before _ s = true := fun w h => hts w (List.mem_cons_of_mem _ h)
  have hown : s.vm.findClass RX9 = some m.cls := findClass_of_methodNamed B.named
  have hlocks := B.notSynchronized
  have hS : va_S (ty_A sz) s.heap s.heap [] := va_S.rf
  have hl := lv_entry ([.ref h0, .int p1, .int p2, .int p3]) (n := 6) (Nat.le_of_ble_eq_true rfl)
  rw [lg_entry_eq]
  generalize (lg_sl ([.ref h0, .int p1, .int p2, .int p3]) ++ List.replicate (6 - (lg_sl ([.ref h0, .int p1, .int p2, .int p3])).length) Slot.unset).toArray = ls at hl ⊢
  have hl : lv_has ls 6 [(0, .ref h0), (1, .int p1), (2, .int p2), (3, .int p3)] := hl
  refine lv_aload_n hx hb dX9_shut_0 rfl (lv_at hl 0 rfl) ?_
  refine ty_iconst hx hb (0) dX9_shut_1 (by decide) (fun x1 h2 => ?_)
  refine put_X9_0 hx hb hA hown hE hG hS hU t_h0 wd_4_130 dX9_shut_2 (fun H locs hG hS => ?_)
  refine lv_aload_n hx hb dX9_shut_5 rfl (lv_at hl 0 rfl) ?_
  refine lv_iload_n hx hb dX9_shut_6 rfl (lv_at hl 1 rfl) ?_
  refine lv_iload_n hx hb dX9_shut_7 rfl (lv_at hl 2 rfl) ?_
  have e3 : (gs g 100 0 x1.toInt) 101 0 = g 101 0 := by simp [gs]
  refine cI (va_runV (C := RX9) (As := [.int p1, .int p2]) (rest := []) ⟨hx, hb, hml, hown, hA⟩ (k_X9_isPlace l dC dI dA sz X Γ hU (gs g 100 0 x1.toInt) h0 t_h0 p1 p2   ) ⟨callB_of 2 hA (al_A wd_5_50) rfl rfl rfl (hA _ wd_1_7) (hA _ wd_5_47) (by decide +kernel) ⟨Nat.le_of_ble_eq_true rfl, Nat.le_of_ble_eq_true rfl⟩, hA _ wd_5_49, hA _ ws_36⟩ ⟨bl, recv_X9 hE hG t_h0, fun U hU9 hW9 => ⟨rfl, by rw [hU9]; exact hG, hE.go hS hU9 hW9⟩⟩ rfl rfl hl.1 rfl (lv_room (Nat.le_of_ble_eq_true rfl)) dX9_shut_8 ⟨Nat.zero_le _, Nat.zero_le _⟩) hS (fun x6 u4 H locs w5 hG hS => ?_)
  obtain ⟨eu7, w5⟩ := w5
  rw [eu7] at hG
  refine ty_if_eq (tgt := 36) hx hb dX9_shut_11 (by decide) (fun c8 => ?_) (fun c8 => ?_)
  · skip
    refine ty_iconst hx hb (-1) dX9_shut_36 (by decide) (fun x9 h10 => ?_)
    exact W.iret (v := x9) hx hb hr (fun t ht hW => ⟨⟨x9, (gs g 100 0 x1.toInt), rfl, ⟨(fun c j h100 h106 h110 h132 => by rw [gs_c _ _ _ _ h100]), (by (repeat (first | with_reducible assumption | (refine IJ_c (by decide) (by decide) (by decide) ?_) | (refine IJ_take (by omega) (by omega) ?_) | (refine IJ_how (by omega) ?_) | (refine IJ_by (by omega) ?_))))⟩, ok1 ht hG⟩, hS.F ht⟩) hS.2.2 dX9_shut_37
  · skip
    refine lv_aload_n hx hb dX9_shut_14 rfl (lv_at hl 0 rfl) ?_
    refine lv_iload_n hx hb dX9_shut_15 rfl (lv_at hl 1 rfl) ?_
    refine lv_iload_n hx hb dX9_shut_16 rfl (lv_at hl 3 rfl) ?_
    have e11 : (gs g 100 0 x1.toInt) 101 0 = g 101 0 := by simp [gs]
    refine cI (va_runV (C := RX9) (As := [.int p1, .int p3]) (rest := []) ⟨hx, hb, hml, hown, hA⟩ (k_X9_isPlace l dC dI dA sz X Γ hU (gs g 100 0 x1.toInt) h0 t_h0 p1 p3   ) ⟨callB_of 2 hA (al_A wd_5_50) rfl rfl rfl (hA _ wd_1_7) (hA _ wd_5_47) (by decide +kernel) ⟨Nat.le_of_ble_eq_true rfl, Nat.le_of_ble_eq_true rfl⟩, hA _ wd_5_49, hA _ ws_36⟩ ⟨bl, recv_X9 hE hG t_h0, fun U hU9 hW9 => ⟨rfl, by rw [hU9]; exact hG, hE.go hS hU9 hW9⟩⟩ rfl rfl hl.1 rfl (lv_room (Nat.le_of_ble_eq_true rfl)) dX9_shut_17 ⟨Nat.zero_le _, Nat.zero_le _⟩) hS (fun x14 u12 H locs w13 hG hS => ?_)
    obtain ⟨eu15, w13⟩ := w13
    rw [eu15] at hG
    refine ty_if_eq (tgt := 36) hx hb dX9_shut_20 (by decide) (fun c16 => ?_) (fun c16 => ?_)
    · skip
      refine ty_iconst hx hb (-1) dX9_shut_36 (by decide) (fun x17 h18 => ?_)
      exact W.iret (v := x17) hx hb hr (fun t ht hW => ⟨⟨x17, (gs g 100 0 x1.toInt), rfl, ⟨(fun c j h100 h106 h110 h132 => by rw [gs_c _ _ _ _ h100]), (by (repeat (first | with_reducible assumption | (refine IJ_c (by decide) (by decide) (by decide) ?_) | (refine IJ_take (by omega) (by omega) ?_) | (refine IJ_how (by omega) ?_) | (refine IJ_by (by omega) ?_))))⟩, ok1 ht hG⟩, hS.F ht⟩) hS.2.2 dX9_shut_37
    · skip
      refine lv_iload_n hx hb dX9_shut_23 rfl (lv_at hl 2 rfl) ?_
      refine lv_iload_n hx hb dX9_shut_24 rfl (lv_at hl 3 rfl) ?_
      refine ty_icmp_gt (tgt := 36) hx hb dX9_shut_25 (by decide) (fun c19 => ?_) (fun c19 => ?_)
      · skip
        refine ty_iconst hx hb (-1) dX9_shut_36 (by decide) (fun x20 h21 => ?_)
        exact W.iret (v := x20) hx hb hr (fun t ht hW => ⟨⟨x20, (gs g 100 0 x1.toInt), rfl, ⟨(fun c j h100 h106 h110 h132 => by rw [gs_c _ _ _ _ h100]), (by (repeat (first | with_reducible assumption | (refine IJ_c (by decide) (by decide) (by decide) ?_) | (refine IJ_take (by omega) (by omega) ?_) | (refine IJ_how (by omega) ?_) | (refine IJ_by (by omega) ?_))))⟩, ok1 ht hG⟩, hS.F ht⟩) hS.2.2 dX9_shut_37
      · skip
        refine lv_iload_n hx hb dX9_shut_28 rfl (lv_at hl 2 rfl) ?_
        refine lv_aload_n hx hb dX9_shut_29 rfl (lv_at hl 0 rfl) ?_
        refine get_X9_12 hx hb hA hown hE hG t_h0 wd_4_142 dX9_shut_30 (fun x22 h23 => ?_)
        replace h23 : x22.toInt = g 112 0 := by rw [h23]; simp [gs]
        refine ty_icmp_ge (tgt := 38) hx hb dX9_shut_33 (by decide) (fun c25 => ?_) (fun c25 => ?_)
        · skip
          refine lv_iload_n hx hb dX9_shut_38 rfl (lv_at hl 2 rfl) ?_
          refine lv_istore (lv' := [(4, .int p2), (0, .ref h0), (1, .int p1), (2, .int p2), (3, .int p3)]) hx hb dX9_shut_39 hl (by decide) rfl (fun ls hl => ?_)
          have L_41 : ∀ (n : Nat) (v4_41 : Int32) (g26 : gh) (H : Heap) (locs : List Loc) (ls : Array Slot), (53 - v4_41.toInt : Int) < n → 0 ≤ v4_41.toInt ∧ v4_41.toInt ≤ 53 → (∀ c j : Nat, c ≠ 110 → g26 c j = (gs g 100 0 x1.toInt) c j) → ty_ok (dC, dI) vwCl Γ (TP dA Γ g26) sz X H → va_S (ty_A sz) s.heap H locs → lv_has ls 6 [(4, .int v4_41), (0, .ref h0), (1, .int p1), (2, .int p2), (3, .int p3)] → W p l e (headSpec (.code yX9_shut cX9_shut 6 (Option.some Jvm.ClassFile.FieldType.int) :: AL) ({ frames := 2, cells := 0, slots := 0, locals := 44 })).room s m ([.ref h0, .int p1, .int p2, .int p3] : List Value).toArray below meth c H locs 0 0 (MQ below (va_Qi (fun (r : Int32) (u : gh) => (∀ c j : Nat, c ≠ 100 → c ≠ 106 → c ≠ 110 → c ≠ 132 → u c j = g c j) ∧ (IJ u)) (okb dC dI dA sz X Γ) (ty_A sz)) ([.ref h0, .int p1, .int p2, .int p3] : List Value).toArray s 0 0 (ty_A sz)) (F0 m 41 ls []) := by
            intro n
            induction n with
            | zero => intro v4_41 g26 H locs ls hm hi0 hf27 hG hS hl; exfalso; omega
            | succ n ih_41 =>
              intro v4_41 g26 H locs ls hm hi0 hf27 hG hS hl
              have hj28 : IJ g26 := IJ_cg (hf27 126 0 (by decide)) (fun j => hf27 132 j (by decide)) (fun j => hf27 134 j (by decide)) (by (repeat (first | with_reducible assumption | (refine IJ_c (by decide) (by decide) (by decide) ?_) | (refine IJ_take (by omega) (by omega) ?_) | (refine IJ_how (by omega) ?_) | (refine IJ_by (by omega) ?_))))
              refine lv_iload hx hb dX9_shut_41 (lv_at hl 0 rfl) ?_
              refine lv_iload_n hx hb dX9_shut_43 rfl (lv_at hl 4 rfl) ?_
              refine ty_icmp_gt (tgt := 66) hx hb dX9_shut_44 (by decide) (fun c29 => ?_) (fun c29 => ?_)
              · skip
                refine ty_iconst hx hb (0) dX9_shut_66 (by decide) (fun x30 h31 => ?_)
                refine lv_istore (lv' := [(4, .int x30), (0, .ref h0), (1, .int p1), (2, .int p2), (3, .int p3)]) hx hb dX9_shut_67 hl (by decide) rfl (fun ls hl => ?_)
                refine ty_iconst hx hb (0) dX9_shut_69 (by decide) (fun x32 h33 => ?_)
                refine lv_istore (lv' := [(5, .int x32), (4, .int x30), (0, .ref h0), (1, .int p1), (2, .int p2), (3, .int p3)]) hx hb dX9_shut_70 hl (by decide) rfl (fun ls hl => ?_)
                have L_72 : ∀ (n : Nat) (v5_72 : Int32) (v4_72 : Int32) (g34 : gh) (H : Heap) (locs : List Loc) (ls : Array Slot), (g34 126 0 - v5_72.toInt : Int) < n → 0 ≤ v5_72.toInt ∧ v5_72.toInt ≤ g34 126 0 → (∀ c j : Nat, c ≠ 106 → c ≠ 132 → g34 c j = g26 c j) → (IJ g34) → ty_ok (dC, dI) vwCl Γ (TP dA Γ g34) sz X H → va_S (ty_A sz) s.heap H locs → lv_has ls 6 [(5, .int v5_72), (4, .int v4_72), (0, .ref h0), (1, .int p1), (2, .int p2), (3, .int p3)] → W p l e (headSpec (.code yX9_shut cX9_shut 6 (Option.some Jvm.ClassFile.FieldType.int) :: AL) ({ frames := 2, cells := 0, slots := 0, locals := 44 })).room s m ([.ref h0, .int p1, .int p2, .int p3] : List Value).toArray below meth c H locs 0 0 (MQ below (va_Qi (fun (r : Int32) (u : gh) => (∀ c j : Nat, c ≠ 100 → c ≠ 106 → c ≠ 110 → c ≠ 132 → u c j = g c j) ∧ (IJ u)) (okb dC dI dA sz X Γ) (ty_A sz)) ([.ref h0, .int p1, .int p2, .int p3] : List Value).toArray s 0 0 (ty_A sz)) (F0 m 72 ls []) := by
                  intro n
                  induction n with
                  | zero => intro v5_72 v4_72 g34 H locs ls hm hi0 hf35 hq0 hG hS hl; exfalso; omega
                  | succ n ih_72 =>
                    intro v5_72 v4_72 g34 H locs ls hm hi0 hf35 hq0 hG hS hl
                    have hk36 : g34 126 0 = g26 126 0 := hf35 126 0 (by decide) (by decide)
                    have hk37 : g26 126 0 = (gs g 100 0 x1.toInt) 126 0 := hf27 126 0 (by decide)
                    have hk37 : g26 126 0 = g 126 0 := by rw [hk37]; simp [gs]
                    refine lv_iload hx hb dX9_shut_72 (lv_at hl 0 rfl) ?_
                    refine lv_aload_n hx hb dX9_shut_74 rfl (lv_at hl 2 rfl) ?_
                    refine get_X9_26 hx hb hA hown hE hG t_h0 wd_4_156 dX9_shut_75 (fun x38 h39 => ?_)
                    refine ty_icmp_ge (tgt := 254) hx hb dX9_shut_78 (by decide) (fun c41 => ?_) (fun c41 => ?_)
                    · skip
                      refine lv_iload hx hb dX9_shut_254 (lv_at hl 1 rfl) ?_
                      exact W.iret (v := v4_72) hx hb hr (fun t ht hW => ⟨⟨v4_72, g34, rfl, ⟨(fun c j h100 h106 h110 h132 => by rw [hf35 c j h106 h132, hf27 c j h110, gs_c _ _ _ _ h100]), (by (repeat (first | with_reducible assumption | (refine IJ_c (by decide) (by decide) (by decide) ?_) | (refine IJ_take (by omega) (by omega) ?_) | (refine IJ_how (by omega) ?_) | (refine IJ_by (by omega) ?_))))⟩, ok1 ht hG⟩, hS.F ht⟩) hS.2.2 dX9_shut_256
                    · skip
                      refine lv_aload_n hx hb dX9_shut_81 rfl (lv_at hl 2 rfl) ?_
                      refine get_X9_30 hx hb hA hown hE hG t_h0 wd_4_160 dX9_shut_82 (fun b42 (t_b42 : ty Γ b42 130) => ?_)
                      refine lv_iload hx hb dX9_shut_85 (lv_at hl 0 rfl) ?_
                      refine ald_mI hx hb hE hG 30 rfl (n := 200) rfl (lo := -2147483648) (hi := 2147483647) rfl rfl t_b42 (by omega) dX9_shut_87 (fun j44 x43 h45 h46 h47 => ?_)
                      clear h47
                      obtain rfl : j44 = v5_72.toInt.toNat := by omega
                      replace h46 : x43.toInt = g34 130 v5_72.toInt.toNat := h46
                      refine lv_aload_n hx hb dX9_shut_88 rfl (lv_at hl 2 rfl) ?_
                      refine get_X9_11 hx hb hA hown hE hG t_h0 wd_4_141 dX9_shut_89 (fun x48 h49 => ?_)
                      have hk51 : g34 111 0 = g26 111 0 := hf35 111 0 (by decide) (by decide)
                      have hk52 : g26 111 0 = (gs g 100 0 x1.toInt) 111 0 := hf27 111 0 (by decide)
                      have hk52 : g26 111 0 = g 111 0 := by rw [hk52]; simp [gs]
                      refine ty_icmp_ne (tgt := 248) hx hb dX9_shut_92 (by decide) (fun c53 => ?_) (fun c53 => ?_)
                      · skip
                        obtain ⟨x54, h55⟩ : ∃ y : Int32, y = v5_72 + Int32.ofInt (1) := ⟨_, rfl⟩
                        try have h56 : x54.toInt = v5_72.toInt + (1) := ty_inc h55 (by decide) (by omega) (by omega)
                        refine lv_iinc (v := x54) (lv' := [(5, .int x54), (4, .int v4_72), (0, .ref h0), (1, .int p1), (2, .int p2), (3, .int p3)]) hx hb dX9_shut_248 hl (k := 0) rfl h55.symm (by decide) rfl (fun ls hl => ?_)
                        refine lv_goto (tgt := 72) hx hb dX9_shut_251 (by decide) ?_
                        exact ih_72 x54 v4_72 g34 _ _ ls (by omega) (by omega) (fun c j h106 h132 => by rw [hf35 c j h106 h132]) (by (repeat (first | with_reducible assumption | (refine IJ_c (by decide) (by decide) (by decide) ?_) | (refine IJ_take (by omega) (by omega) ?_) | (refine IJ_how (by omega) ?_) | (refine IJ_by (by omega) ?_)))) hG hS (lv_sub hl [0, 1, 2, 3, 4, 5] rfl)
                      · skip
                        refine lv_aload_n hx hb dX9_shut_95 rfl (lv_at hl 2 rfl) ?_
                        refine get_X9_28 hx hb hA hown hE hG t_h0 wd_4_158 dX9_shut_96 (fun b57 (t_b57 : ty Γ b57 128) => ?_)
                        refine lv_iload hx hb dX9_shut_99 (lv_at hl 0 rfl) ?_
                        refine ald_mI hx hb hE hG 28 rfl (n := 200) rfl (lo := 0) (hi := 5) rfl rfl t_b57 (by omega) dX9_shut_101 (fun j59 x58 h60 h61 h62 => ?_)
                        obtain rfl : j59 = v5_72.toInt.toNat := by omega
                        replace h61 : x58.toInt = g34 128 v5_72.toInt.toNat := h61
                        refine lv_iload_n hx hb dX9_shut_102 rfl (lv_at hl 3 rfl) ?_
                        refine ty_icmp_ne (tgt := 248) hx hb dX9_shut_103 (by decide) (fun c63 => ?_) (fun c63 => ?_)
                        · skip
                          obtain ⟨x64, h65⟩ : ∃ y : Int32, y = v5_72 + Int32.ofInt (1) := ⟨_, rfl⟩
                          try have h66 : x64.toInt = v5_72.toInt + (1) := ty_inc h65 (by decide) (by omega) (by omega)
                          refine lv_iinc (v := x64) (lv' := [(5, .int x64), (4, .int v4_72), (0, .ref h0), (1, .int p1), (2, .int p2), (3, .int p3)]) hx hb dX9_shut_248 hl (k := 0) rfl h65.symm (by decide) rfl (fun ls hl => ?_)
                          refine lv_goto (tgt := 72) hx hb dX9_shut_251 (by decide) ?_
                          exact ih_72 x64 v4_72 g34 _ _ ls (by omega) (by omega) (fun c j h106 h132 => by rw [hf35 c j h106 h132]) (by (repeat (first | with_reducible assumption | (refine IJ_c (by decide) (by decide) (by decide) ?_) | (refine IJ_take (by omega) (by omega) ?_) | (refine IJ_how (by omega) ?_) | (refine IJ_by (by omega) ?_)))) hG hS (lv_sub hl [0, 1, 2, 3, 4, 5] rfl)
                        · skip
                          refine lv_aload_n hx hb dX9_shut_106 rfl (lv_at hl 2 rfl) ?_
                          refine get_X9_29 hx hb hA hown hE hG t_h0 wd_4_159 dX9_shut_107 (fun b67 (t_b67 : ty Γ b67 129) => ?_)
                          refine lv_iload hx hb dX9_shut_110 (lv_at hl 0 rfl) ?_
                          refine ald_mI hx hb hE hG 29 rfl (n := 200) rfl (lo := -2147483648) (hi := 2147483647) rfl rfl t_b67 (by omega) dX9_shut_112 (fun j69 x68 h70 h71 h72 => ?_)
                          clear h72
                          obtain rfl : j69 = v5_72.toInt.toNat := by omega
                          replace h71 : x68.toInt = g34 129 v5_72.toInt.toNat := h71
                          refine lv_iload_n hx hb dX9_shut_113 rfl (lv_at hl 4 rfl) ?_
                          refine lv_iload_n hx hb dX9_shut_114 rfl (lv_at hl 5 rfl) ?_
                          refine cI (va_runS (As := [.int x68, .int p2, .int p3]) (rest := []) ⟨hx, hb, hml, hown, hA⟩ (k_X9_within l dC dI dA sz X Γ hU g34 x68 p2 p3   ) ⟨callB_of 3 hA (al_A wd_5_38) rfl rfl rfl (hA _ wd_1_7) (hA _ wd_5_36) (by decide +kernel) ⟨Nat.le_of_ble_eq_true rfl, Nat.le_of_ble_eq_true rfl⟩, hA _ wd_5_37⟩ ⟨bl, fun U hU9 hW9 => ⟨rfl, by rw [hU9]; exact hG, hE.go hS hU9 hW9⟩⟩ rfl rfl hl.1 rfl (lv_room (Nat.le_of_ble_eq_true rfl)) dX9_shut_115 ⟨Nat.zero_le _, Nat.zero_le _⟩) hS (fun x75 u73 H locs w74 hG hS => ?_)
                          obtain ⟨eu76, w74⟩ := w74
                          rw [eu76] at hG
                          refine ty_if_eq (tgt := 248) hx hb dX9_shut_118 (by decide) (fun c77 => ?_) (fun c77 => ?_)
                          · skip
                            obtain ⟨x78, h79⟩ : ∃ y : Int32, y = v5_72 + Int32.ofInt (1) := ⟨_, rfl⟩
                            try have h80 : x78.toInt = v5_72.toInt + (1) := ty_inc h79 (by decide) (by omega) (by omega)
                            refine lv_iinc (v := x78) (lv' := [(5, .int x78), (4, .int v4_72), (0, .ref h0), (1, .int p1), (2, .int p2), (3, .int p3)]) hx hb dX9_shut_248 hl (k := 0) rfl h79.symm (by decide) rfl (fun ls hl => ?_)
                            refine lv_goto (tgt := 72) hx hb dX9_shut_251 (by decide) ?_
                            exact ih_72 x78 v4_72 g34 _ _ ls (by omega) (by omega) (fun c j h106 h132 => by rw [hf35 c j h106 h132]) (by (repeat (first | with_reducible assumption | (refine IJ_c (by decide) (by decide) (by decide) ?_) | (refine IJ_take (by omega) (by omega) ?_) | (refine IJ_how (by omega) ?_) | (refine IJ_by (by omega) ?_)))) hG hS (lv_sub hl [0, 1, 2, 3, 4, 5] rfl)
                          · skip
                            refine lv_aload_n hx hb dX9_shut_121 rfl (lv_at hl 2 rfl) ?_
                            refine get_X9_32 hx hb hA hown hE hG t_h0 wd_4_162 dX9_shut_122 (fun b81 (t_b81 : ty Γ b81 132) => ?_)
                            refine lv_iload hx hb dX9_shut_125 (lv_at hl 0 rfl) ?_
                            refine ald_mI hx hb hE hG 32 rfl (n := 200) rfl (lo := -2147483648) (hi := 2147483647) rfl rfl t_b81 (by omega) dX9_shut_127 (fun j83 x82 h84 h85 h86 => ?_)
                            clear h86
                            obtain rfl : j83 = v5_72.toInt.toNat := by omega
                            replace h85 : x82.toInt = g34 132 v5_72.toInt.toNat := h85
                            refine ty_iconst hx hb (4) dX9_shut_128 (by decide) (fun x87 h88 => ?_)
                            refine ty_icmp_lt (tgt := 135) hx hb dX9_shut_129 (by decide) (fun c89 => ?_) (fun c89 => ?_)
                            · skip
                              obtain ⟨x90, h91⟩ : ∃ y : Int32, y = v4_72 + Int32.ofInt (1) := ⟨_, rfl⟩
                              try have h92 : x90.toInt = v4_72.toInt + (1) := ty_inc h91 (by decide) (by omega) (by omega)
                              refine lv_iinc (v := x90) (lv' := [(4, .int x90), (5, .int v5_72), (0, .ref h0), (1, .int p1), (2, .int p2), (3, .int p3)]) hx hb dX9_shut_135 hl (k := 1) rfl h91.symm (by decide) rfl (fun ls hl => ?_)
                              refine lv_aload_n hx hb dX9_shut_138 rfl (lv_at hl 2 rfl) ?_
                              refine get_X9_32 hx hb hA hown hE hG t_h0 wd_4_162 dX9_shut_139 (fun b93 (t_b93 : ty Γ b93 132) => ?_)
                              refine lv_iload hx hb dX9_shut_142 (lv_at hl 1 rfl) ?_
                              refine ald_mI hx hb hE hG 32 rfl (n := 200) rfl (lo := -2147483648) (hi := 2147483647) rfl rfl t_b93 (by omega) dX9_shut_144 (fun j95 x94 h96 h97 h98 => ?_)
                              clear h98
                              obtain rfl : j95 = v5_72.toInt.toNat := by omega
                              replace h97 : x94.toInt = g34 132 v5_72.toInt.toNat := h97
                              refine ty_iconst hx hb (2) dX9_shut_145 (by decide) (fun x99 h100 => ?_)
                              refine ty_icmp_ne (tgt := 185) hx hb dX9_shut_146 (by decide) (fun c101 => ?_) (fun c101 => ?_)
                              · skip
                                refine lv_aload_n hx hb dX9_shut_185 rfl (lv_at hl 2 rfl) ?_
                                refine get_X9_32 hx hb hA hown hE hG t_h0 wd_4_162 dX9_shut_186 (fun b102 (t_b102 : ty Γ b102 132) => ?_)
                                refine lv_iload hx hb dX9_shut_189 (lv_at hl 1 rfl) ?_
                                refine ald_mI hx hb hE hG 32 rfl (n := 200) rfl (lo := -2147483648) (hi := 2147483647) rfl rfl t_b102 (by omega) dX9_shut_191 (fun j104 x103 h105 h106 h107 => ?_)
                                clear h107
                                obtain rfl : j104 = v5_72.toInt.toNat := by omega
                                replace h106 : x103.toInt = g34 132 v5_72.toInt.toNat := h106
                                refine ty_iconst hx hb (1) dX9_shut_192 (by decide) (fun x108 h109 => ?_)
                                refine ty_icmp_eq (tgt := 207) hx hb dX9_shut_193 (by decide) (fun c110 => ?_) (fun c110 => ?_)
                                · skip
                                  refine lv_aload_n hx hb dX9_shut_207 rfl (lv_at hl 2 rfl) ?_
                                  refine get_X9_6 hx hb hA hown hE hG t_h0 wd_4_136 dX9_shut_208 (fun b111 (t_b111 : ty Γ b111 106) => ?_)
                                  refine lv_aload_n hx hb dX9_shut_211 rfl (lv_at hl 2 rfl) ?_
                                  refine get_X9_34 hx hb hA hown hE hG t_h0 wd_4_164 dX9_shut_212 (fun b112 (t_b112 : ty Γ b112 134) => ?_)
                                  refine lv_iload hx hb dX9_shut_215 (lv_at hl 1 rfl) ?_
                                  refine ald_mI hx hb hE hG 34 rfl (n := 200) rfl (lo := -1) (hi := 9) rfl rfl t_b112 (by omega) dX9_shut_217 (fun j114 x113 h115 h116 h117 => ?_)
                                  obtain rfl : j114 = v5_72.toInt.toNat := by omega
                                  replace h116 : x113.toInt = g34 134 v5_72.toInt.toNat := h116
                                  have hJ := hq0.1 v5_72.toInt.toNat
                                  refine lv_dup2_11 hx hb dX9_shut_218 rfl rfl ?_
                                  refine ald_mI hx hb hE hG 6 rfl (n := 10) rfl (lo := -2147483648) (hi := 2147483647) rfl rfl t_b111 (by omega) dX9_shut_219 (fun j119 x118 h120 h121 h122 => ?_)
                                  clear h122
                                  obtain rfl : j119 = x113.toInt.toNat := by omega
                                  replace h121 : x118.toInt = g34 106 x113.toInt.toNat := h121
                                  refine lv_aload_n hx hb dX9_shut_220 rfl (lv_at hl 2 rfl) ?_
                                  refine get_X9_31 hx hb hA hown hE hG t_h0 wd_4_161 dX9_shut_221 (fun b123 (t_b123 : ty Γ b123 131) => ?_)
                                  refine lv_iload hx hb dX9_shut_224 (lv_at hl 1 rfl) ?_
                                  refine ald_mI hx hb hE hG 31 rfl (n := 200) rfl (lo := -2147483648) (hi := 2147483647) rfl rfl t_b123 (by omega) dX9_shut_226 (fun j125 x124 h126 h127 h128 => ?_)
                                  clear h128
                                  obtain rfl : j125 = v5_72.toInt.toNat := by omega
                                  replace h127 : x124.toInt = g34 131 v5_72.toInt.toNat := h127
                                  refine ty_iadd hx hb dX9_shut_227 (fun x129 h130 => ?_)
                                  refine ast_mI hx hb hE hG hS hU 6 rfl (n := 10) rfl (lo := -2147483648) (hi := 2147483647) rfl rfl rfl t_b111 (rgD _) (by omega) dX9_shut_228 (fun H locs hG hS => ?_)
                                  refine lv_aload_n hx hb dX9_shut_229 rfl (lv_at hl 2 rfl) ?_
                                  refine get_X9_32 hx hb hA hown hE hG t_h0 wd_4_162 dX9_shut_230 (fun b132 (t_b132 : ty Γ b132 132) => ?_)
                                  refine lv_iload hx hb dX9_shut_233 (lv_at hl 1 rfl) ?_
                                  refine ty_iconst hx hb (5) dX9_shut_235 (by decide) (fun x133 h134 => ?_)
                                  refine ast_mI hx hb hE hG hS hU 32 rfl (n := 200) rfl (lo := -2147483648) (hi := 2147483647) rfl rfl rfl t_b132 (rgD _) (by omega) dX9_shut_236 (fun H locs hG hS => ?_)
                                  refine lv_goto (tgt := 248) hx hb dX9_shut_237 (by decide) ?_
                                  obtain ⟨x135, h136⟩ : ∃ y : Int32, y = v5_72 + Int32.ofInt (1) := ⟨_, rfl⟩
                                  try have h137 : x135.toInt = v5_72.toInt + (1) := ty_inc h136 (by decide) (by omega) (by omega)
                                  refine lv_iinc (v := x135) (lv' := [(5, .int x135), (4, .int x90), (0, .ref h0), (1, .int p1), (2, .int p2), (3, .int p3)]) hx hb dX9_shut_248 hl (k := 1) rfl h136.symm (by decide) rfl (fun ls hl => ?_)
                                  refine lv_goto (tgt := 72) hx hb dX9_shut_251 (by decide) ?_
                                  have e138 : (gs (gs g34 106 x113.toInt.toNat x129.toInt) 132 v5_72.toInt.toNat x133.toInt) 126 0 = g34 126 0 := by simp [gs]
                                  exact ih_72 x135 x90 (gs (gs g34 106 x113.toInt.toNat x129.toInt) 132 v5_72.toInt.toNat x133.toInt) _ _ ls (by omega) (by omega) (fun c j h106 h132 => by rw [gs_c _ _ _ _ h132, gs_c _ _ _ _ h106, hf35 c j h106 h132]) (by (repeat (first | with_reducible assumption | (refine IJ_c (by decide) (by decide) (by decide) ?_) | (refine IJ_take (by omega) (by omega) ?_) | (refine IJ_how (by omega) ?_) | (refine IJ_by (by omega) ?_)))) hG hS (lv_sub hl [0, 1, 2, 3, 4, 5] rfl)
                                · skip
                                  refine lv_aload_n hx hb dX9_shut_196 rfl (lv_at hl 2 rfl) ?_
                                  refine get_X9_32 hx hb hA hown hE hG t_h0 wd_4_162 dX9_shut_197 (fun b139 (t_b139 : ty Γ b139 132) => ?_)
                                  refine lv_iload hx hb dX9_shut_200 (lv_at hl 1 rfl) ?_
                                  refine ald_mI hx hb hE hG 32 rfl (n := 200) rfl (lo := -2147483648) (hi := 2147483647) rfl rfl t_b139 (by omega) dX9_shut_202 (fun j141 x140 h142 h143 h144 => ?_)
                                  clear h144
                                  obtain rfl : j141 = v5_72.toInt.toNat := by omega
                                  replace h143 : x140.toInt = g34 132 v5_72.toInt.toNat := h143
                                  refine ty_iconst hx hb (3) dX9_shut_203 (by decide) (fun x145 h146 => ?_)
                                  refine ty_icmp_ne (tgt := 240) hx hb dX9_shut_204 (by decide) (fun c147 => ?_) (fun c147 => ?_)
                                  · skip
                                    refine lv_aload_n hx hb dX9_shut_240 rfl (lv_at hl 2 rfl) ?_
                                    refine get_X9_32 hx hb hA hown hE hG t_h0 wd_4_162 dX9_shut_241 (fun b148 (t_b148 : ty Γ b148 132) => ?_)
                                    refine lv_iload hx hb dX9_shut_244 (lv_at hl 1 rfl) ?_
                                    refine ty_iconst hx hb (4) dX9_shut_246 (by decide) (fun x149 h150 => ?_)
                                    refine ast_mI hx hb hE hG hS hU 32 rfl (n := 200) rfl (lo := -2147483648) (hi := 2147483647) rfl rfl rfl t_b148 (rgD _) (by omega) dX9_shut_247 (fun H locs hG hS => ?_)
                                    obtain ⟨x151, h152⟩ : ∃ y : Int32, y = v5_72 + Int32.ofInt (1) := ⟨_, rfl⟩
                                    try have h153 : x151.toInt = v5_72.toInt + (1) := ty_inc h152 (by decide) (by omega) (by omega)
                                    refine lv_iinc (v := x151) (lv' := [(5, .int x151), (4, .int x90), (0, .ref h0), (1, .int p1), (2, .int p2), (3, .int p3)]) hx hb dX9_shut_248 hl (k := 1) rfl h152.symm (by decide) rfl (fun ls hl => ?_)
                                    refine lv_goto (tgt := 72) hx hb dX9_shut_251 (by decide) ?_
                                    have e154 : (gs g34 132 v5_72.toInt.toNat x149.toInt) 126 0 = g34 126 0 := by simp [gs]
                                    exact ih_72 x151 x90 (gs g34 132 v5_72.toInt.toNat x149.toInt) _ _ ls (by omega) (by omega) (fun c j h106 h132 => by rw [gs_c _ _ _ _ h132, hf35 c j h106 h132]) (by (repeat (first | with_reducible assumption | (refine IJ_c (by decide) (by decide) (by decide) ?_) | (refine IJ_take (by omega) (by omega) ?_) | (refine IJ_how (by omega) ?_) | (refine IJ_by (by omega) ?_)))) hG hS (lv_sub hl [0, 1, 2, 3, 4, 5] rfl)
                                  · skip
                                    refine lv_aload_n hx hb dX9_shut_207 rfl (lv_at hl 2 rfl) ?_
                                    refine get_X9_6 hx hb hA hown hE hG t_h0 wd_4_136 dX9_shut_208 (fun b155 (t_b155 : ty Γ b155 106) => ?_)
                                    refine lv_aload_n hx hb dX9_shut_211 rfl (lv_at hl 2 rfl) ?_
                                    refine get_X9_34 hx hb hA hown hE hG t_h0 wd_4_164 dX9_shut_212 (fun b156 (t_b156 : ty Γ b156 134) => ?_)
                                    refine lv_iload hx hb dX9_shut_215 (lv_at hl 1 rfl) ?_
                                    refine ald_mI hx hb hE hG 34 rfl (n := 200) rfl (lo := -1) (hi := 9) rfl rfl t_b156 (by omega) dX9_shut_217 (fun j158 x157 h159 h160 h161 => ?_)
                                    obtain rfl : j158 = v5_72.toInt.toNat := by omega
                                    replace h160 : x157.toInt = g34 134 v5_72.toInt.toNat := h160
                                    have hJ := hq0.1 v5_72.toInt.toNat
                                    refine lv_dup2_11 hx hb dX9_shut_218 rfl rfl ?_
                                    refine ald_mI hx hb hE hG 6 rfl (n := 10) rfl (lo := -2147483648) (hi := 2147483647) rfl rfl t_b155 (by omega) dX9_shut_219 (fun j163 x162 h164 h165 h166 => ?_)
                                    clear h166
                                    obtain rfl : j163 = x157.toInt.toNat := by omega
                                    replace h165 : x162.toInt = g34 106 x157.toInt.toNat := h165
                                    refine lv_aload_n hx hb dX9_shut_220 rfl (lv_at hl 2 rfl) ?_
                                    refine get_X9_31 hx hb hA hown hE hG t_h0 wd_4_161 dX9_shut_221 (fun b167 (t_b167 : ty Γ b167 131) => ?_)
                                    refine lv_iload hx hb dX9_shut_224 (lv_at hl 1 rfl) ?_
                                    refine ald_mI hx hb hE hG 31 rfl (n := 200) rfl (lo := -2147483648) (hi := 2147483647) rfl rfl t_b167 (by omega) dX9_shut_226 (fun j169 x168 h170 h171 h172 => ?_)
                                    clear h172
                                    obtain rfl : j169 = v5_72.toInt.toNat := by omega
                                    replace h171 : x168.toInt = g34 131 v5_72.toInt.toNat := h171
                                    refine ty_iadd hx hb dX9_shut_227 (fun x173 h174 => ?_)
                                    refine ast_mI hx hb hE hG hS hU 6 rfl (n := 10) rfl (lo := -2147483648) (hi := 2147483647) rfl rfl rfl t_b155 (rgD _) (by omega) dX9_shut_228 (fun H locs hG hS => ?_)
                                    refine lv_aload_n hx hb dX9_shut_229 rfl (lv_at hl 2 rfl) ?_
                                    refine get_X9_32 hx hb hA hown hE hG t_h0 wd_4_162 dX9_shut_230 (fun b176 (t_b176 : ty Γ b176 132) => ?_)
                                    refine lv_iload hx hb dX9_shut_233 (lv_at hl 1 rfl) ?_
                                    refine ty_iconst hx hb (5) dX9_shut_235 (by decide) (fun x177 h178 => ?_)
                                    refine ast_mI hx hb hE hG hS hU 32 rfl (n := 200) rfl (lo := -2147483648) (hi := 2147483647) rfl rfl rfl t_b176 (rgD _) (by omega) dX9_shut_236 (fun H locs hG hS => ?_)
                                    refine lv_goto (tgt := 248) hx hb dX9_shut_237 (by decide) ?_
                                    obtain ⟨x179, h180⟩ : ∃ y : Int32, y = v5_72 + Int32.ofInt (1) := ⟨_, rfl⟩
                                    try have h181 : x179.toInt = v5_72.toInt + (1) := ty_inc h180 (by decide) (by omega) (by omega)
                                    refine lv_iinc (v := x179) (lv' := [(5, .int x179), (4, .int x90), (0, .ref h0), (1, .int p1), (2, .int p2), (3, .int p3)]) hx hb dX9_shut_248 hl (k := 1) rfl h180.symm (by decide) rfl (fun ls hl => ?_)
                                    refine lv_goto (tgt := 72) hx hb dX9_shut_251 (by decide) ?_
                                    have e182 : (gs (gs g34 106 x157.toInt.toNat x173.toInt) 132 v5_72.toInt.toNat x177.toInt) 126 0 = g34 126 0 := by simp [gs]
                                    exact ih_72 x179 x90 (gs (gs g34 106 x157.toInt.toNat x173.toInt) 132 v5_72.toInt.toNat x177.toInt) _ _ ls (by omega) (by omega) (fun c j h106 h132 => by rw [gs_c _ _ _ _ h132, gs_c _ _ _ _ h106, hf35 c j h106 h132]) (by (repeat (first | with_reducible assumption | (refine IJ_c (by decide) (by decide) (by decide) ?_) | (refine IJ_take (by omega) (by omega) ?_) | (refine IJ_how (by omega) ?_) | (refine IJ_by (by omega) ?_)))) hG hS (lv_sub hl [0, 1, 2, 3, 4, 5] rfl)
                              · skip
                                refine lv_aload_n hx hb dX9_shut_149 rfl (lv_at hl 2 rfl) ?_
                                refine get_X9_6 hx hb hA hown hE hG t_h0 wd_4_136 dX9_shut_150 (fun b183 (t_b183 : ty Γ b183 106) => ?_)
                                refine lv_aload_n hx hb dX9_shut_153 rfl (lv_at hl 2 rfl) ?_
                                refine get_X9_27 hx hb hA hown hE hG t_h0 wd_4_157 dX9_shut_154 (fun b184 (t_b184 : ty Γ b184 127) => ?_)
                                refine lv_iload hx hb dX9_shut_157 (lv_at hl 1 rfl) ?_
                                refine ald_mI hx hb hE hG 27 rfl (n := 200) rfl (lo := 0) (hi := 9) rfl rfl t_b184 (by omega) dX9_shut_159 (fun j186 x185 h187 h188 h189 => ?_)
                                obtain rfl : j186 = v5_72.toInt.toNat := by omega
                                replace h188 : x185.toInt = g34 127 v5_72.toInt.toNat := h188
                                refine ty_iconst hx hb (0) dX9_shut_160 (by decide) (fun x190 h191 => ?_)
                                refine lv_aload_n hx hb dX9_shut_161 rfl (lv_at hl 2 rfl) ?_
                                refine get_X9_6 hx hb hA hown hE hG t_h0 wd_4_136 dX9_shut_162 (fun b192 (t_b192 : ty Γ b192 106) => ?_)
                                refine lv_aload_n hx hb dX9_shut_165 rfl (lv_at hl 2 rfl) ?_
                                refine get_X9_27 hx hb hA hown hE hG t_h0 wd_4_157 dX9_shut_166 (fun b193 (t_b193 : ty Γ b193 127) => ?_)
                                refine lv_iload hx hb dX9_shut_169 (lv_at hl 1 rfl) ?_
                                refine ald_mI hx hb hE hG 27 rfl (n := 200) rfl (lo := 0) (hi := 9) rfl rfl t_b193 (by omega) dX9_shut_171 (fun j195 x194 h196 h197 h198 => ?_)
                                obtain rfl : j195 = v5_72.toInt.toNat := by omega
                                replace h197 : x194.toInt = g34 127 v5_72.toInt.toNat := h197
                                refine ald_mI hx hb hE hG 6 rfl (n := 10) rfl (lo := -2147483648) (hi := 2147483647) rfl rfl t_b192 (by omega) dX9_shut_172 (fun j200 x199 h201 h202 h203 => ?_)
                                clear h203
                                obtain rfl : j200 = x194.toInt.toNat := by omega
                                replace h202 : x199.toInt = g34 106 x194.toInt.toNat := h202
                                refine lv_aload_n hx hb dX9_shut_173 rfl (lv_at hl 2 rfl) ?_
                                refine get_X9_31 hx hb hA hown hE hG t_h0 wd_4_161 dX9_shut_174 (fun b204 (t_b204 : ty Γ b204 131) => ?_)
                                refine lv_iload hx hb dX9_shut_177 (lv_at hl 1 rfl) ?_
                                refine ald_mI hx hb hE hG 31 rfl (n := 200) rfl (lo := -2147483648) (hi := 2147483647) rfl rfl t_b204 (by omega) dX9_shut_179 (fun j206 x205 h207 h208 h209 => ?_)
                                clear h209
                                obtain rfl : j206 = v5_72.toInt.toNat := by omega
                                replace h208 : x205.toInt = g34 131 v5_72.toInt.toNat := h208
                                refine ty_isub hx hb dX9_shut_180 (fun x210 h211 => ?_)
                                refine va_mmax hx hb (hml.trans hl.1.symm) hown (hA _ wd_5_189) (hA _ wd_2_199) (hA _ wd_1_14) (hA _ wd_2_200) (Nat.le_of_ble_eq_true rfl) (Nat.le_of_ble_eq_true rfl) (Nat.zero_le _) (Nat.zero_le _) dX9_shut_181 ?_
                                refine lv_topi (fun x213 h214 => ?_)
                                have h214 : x213.toInt = if x190.toInt < x210.toInt then x210.toInt else x190.toInt := by rw [h214]; simp only [ty_lt32]; split <;> rfl
                                refine ast_mI hx hb hE hG hS hU 6 rfl (n := 10) rfl (lo := -2147483648) (hi := 2147483647) rfl rfl rfl t_b183 (rgD _) (by omega) dX9_shut_184 (fun H locs hG hS => ?_)
                                refine lv_aload_n hx hb dX9_shut_185 rfl (lv_at hl 2 rfl) ?_
                                refine get_X9_32 hx hb hA hown hE hG t_h0 wd_4_162 dX9_shut_186 (fun b215 (t_b215 : ty Γ b215 132) => ?_)
                                refine lv_iload hx hb dX9_shut_189 (lv_at hl 1 rfl) ?_
                                refine ald_mI hx hb hE hG 32 rfl (n := 200) rfl (lo := -2147483648) (hi := 2147483647) rfl rfl t_b215 (by omega) dX9_shut_191 (fun j217 x216 h218 h219 h220 => ?_)
                                clear h220
                                obtain rfl : j217 = v5_72.toInt.toNat := by omega
                                rw [gs_c _ _ _ _ (by decide)] at h219
                                replace h219 : x216.toInt = g34 132 v5_72.toInt.toNat := h219
                                refine ty_iconst hx hb (1) dX9_shut_192 (by decide) (fun x221 h222 => ?_)
                                refine ty_icmp_eq (tgt := 207) hx hb dX9_shut_193 (by decide) (fun c223 => ?_) (fun c223 => ?_)
                                · skip
                                  refine lv_aload_n hx hb dX9_shut_207 rfl (lv_at hl 2 rfl) ?_
                                  refine get_X9_6 hx hb hA hown hE hG t_h0 wd_4_136 dX9_shut_208 (fun b224 (t_b224 : ty Γ b224 106) => ?_)
                                  refine lv_aload_n hx hb dX9_shut_211 rfl (lv_at hl 2 rfl) ?_
                                  refine get_X9_34 hx hb hA hown hE hG t_h0 wd_4_164 dX9_shut_212 (fun b225 (t_b225 : ty Γ b225 134) => ?_)
                                  refine lv_iload hx hb dX9_shut_215 (lv_at hl 1 rfl) ?_
                                  refine ald_mI hx hb hE hG 34 rfl (n := 200) rfl (lo := -1) (hi := 9) rfl rfl t_b225 (by omega) dX9_shut_217 (fun j227 x226 h228 h229 h230 => ?_)
                                  obtain rfl : j227 = v5_72.toInt.toNat := by omega
                                  rw [gs_c _ _ _ _ (by decide)] at h229
                                  replace h229 : x226.toInt = g34 134 v5_72.toInt.toNat := h229
                                  have hJ := hq0.1 v5_72.toInt.toNat
                                  refine lv_dup2_11 hx hb dX9_shut_218 rfl rfl ?_
                                  refine ald_mI hx hb hE hG 6 rfl (n := 10) rfl (lo := -2147483648) (hi := 2147483647) rfl rfl t_b224 (by omega) dX9_shut_219 (fun j232 x231 h233 h234 h235 => ?_)
                                  clear h235
                                  obtain rfl : j232 = x226.toInt.toNat := by omega
                                  replace h234 : x231.toInt = (gs g34 106 x185.toInt.toNat x213.toInt) 106 x226.toInt.toNat := h234
                                  refine lv_aload_n hx hb dX9_shut_220 rfl (lv_at hl 2 rfl) ?_
                                  refine get_X9_31 hx hb hA hown hE hG t_h0 wd_4_161 dX9_shut_221 (fun b236 (t_b236 : ty Γ b236 131) => ?_)
                                  refine lv_iload hx hb dX9_shut_224 (lv_at hl 1 rfl) ?_
                                  refine ald_mI hx hb hE hG 31 rfl (n := 200) rfl (lo := -2147483648) (hi := 2147483647) rfl rfl t_b236 (by omega) dX9_shut_226 (fun j238 x237 h239 h240 h241 => ?_)
                                  clear h241
                                  obtain rfl : j238 = v5_72.toInt.toNat := by omega
                                  rw [gs_c _ _ _ _ (by decide)] at h240
                                  replace h240 : x237.toInt = g34 131 v5_72.toInt.toNat := h240
                                  refine ty_iadd hx hb dX9_shut_227 (fun x242 h243 => ?_)
                                  refine ast_mI hx hb hE hG hS hU 6 rfl (n := 10) rfl (lo := -2147483648) (hi := 2147483647) rfl rfl rfl t_b224 (rgD _) (by omega) dX9_shut_228 (fun H locs hG hS => ?_)
                                  refine lv_aload_n hx hb dX9_shut_229 rfl (lv_at hl 2 rfl) ?_
                                  refine get_X9_32 hx hb hA hown hE hG t_h0 wd_4_162 dX9_shut_230 (fun b245 (t_b245 : ty Γ b245 132) => ?_)
                                  refine lv_iload hx hb dX9_shut_233 (lv_at hl 1 rfl) ?_
                                  refine ty_iconst hx hb (5) dX9_shut_235 (by decide) (fun x246 h247 => ?_)
                                  refine ast_mI hx hb hE hG hS hU 32 rfl (n := 200) rfl (lo := -2147483648) (hi := 2147483647) rfl rfl rfl t_b245 (rgD _) (by omega) dX9_shut_236 (fun H locs hG hS => ?_)
                                  generalize eg249 : (gs (gs (gs g34 106 x185.toInt.toNat x213.toInt) 106 x226.toInt.toNat x242.toInt) 132 v5_72.toInt.toNat x246.toInt) = g248 at hG
                                  have hf250 : ∀ c j : Nat, c ≠ 106 → c ≠ 132 → g248 c j = g34 c j := fun c j h106 h132 => by rw [← eg249, gs_c _ _ _ _ h132, gs_c _ _ _ _ h106, gs_c _ _ _ _ h106]
                                  have v251 : g248 106 x226.toInt.toNat = x242.toInt := by rw [← eg249, gs_c _ _ _ _ (by decide), gs_self]
                                  have v252 : g248 132 v5_72.toInt.toNat = x246.toInt := by rw [← eg249, gs_self]
                                  have hw253 : g248 132 = gs g34 132 v5_72.toInt.toNat x246.toInt 132 := funext fun j => by rw [← eg249]; exact gs_in (by rw [gs_c _ _ _ _ (by decide), gs_c _ _ _ _ (by decide)])
                                  try have hj254 : IJ g248 := by rw [← eg249]; (repeat (first | with_reducible assumption | (refine IJ_c (by decide) (by decide) (by decide) ?_) | (refine IJ_take (by omega) (by omega) ?_) | (refine IJ_how (by omega) ?_) | (refine IJ_by (by omega) ?_)))
                                  refine lv_goto (tgt := 248) hx hb dX9_shut_237 (by decide) ?_
                                  obtain ⟨x255, h256⟩ : ∃ y : Int32, y = v5_72 + Int32.ofInt (1) := ⟨_, rfl⟩
                                  try have h257 : x255.toInt = v5_72.toInt + (1) := ty_inc h256 (by decide) (by omega) (by omega)
                                  refine lv_iinc (v := x255) (lv' := [(5, .int x255), (4, .int x90), (0, .ref h0), (1, .int p1), (2, .int p2), (3, .int p3)]) hx hb dX9_shut_248 hl (k := 1) rfl h256.symm (by decide) rfl (fun ls hl => ?_)
                                  refine lv_goto (tgt := 72) hx hb dX9_shut_251 (by decide) ?_
                                  have hk258 : g248 126 0 = g34 126 0 := hf250 126 0 (by decide) (by decide)
                                  exact ih_72 x255 x90 g248 _ _ ls (by omega) (by omega) (fun c j h106 h132 => by rw [hf250 c j h106 h132, hf35 c j h106 h132]) (by (repeat (first | with_reducible assumption | (refine IJ_c (by decide) (by decide) (by decide) ?_) | (refine IJ_take (by omega) (by omega) ?_) | (refine IJ_how (by omega) ?_) | (refine IJ_by (by omega) ?_)))) hG hS (lv_sub hl [0, 1, 2, 3, 4, 5] rfl)
                                · skip
                                  refine lv_aload_n hx hb dX9_shut_196 rfl (lv_at hl 2 rfl) ?_
                                  refine get_X9_32 hx hb hA hown hE hG t_h0 wd_4_162 dX9_shut_197 (fun b259 (t_b259 : ty Γ b259 132) => ?_)
                                  refine lv_iload hx hb dX9_shut_200 (lv_at hl 1 rfl) ?_
                                  refine ald_mI hx hb hE hG 32 rfl (n := 200) rfl (lo := -2147483648) (hi := 2147483647) rfl rfl t_b259 (by omega) dX9_shut_202 (fun j261 x260 h262 h263 h264 => ?_)
                                  clear h264
                                  obtain rfl : j261 = v5_72.toInt.toNat := by omega
                                  rw [gs_c _ _ _ _ (by decide)] at h263
                                  replace h263 : x260.toInt = g34 132 v5_72.toInt.toNat := h263
                                  refine ty_iconst hx hb (3) dX9_shut_203 (by decide) (fun x265 h266 => ?_)
                                  refine ty_icmp_ne (tgt := 240) hx hb dX9_shut_204 (by decide) (fun c267 => ?_) (fun c267 => ?_)
                                  · skip
                                    refine lv_aload_n hx hb dX9_shut_240 rfl (lv_at hl 2 rfl) ?_
                                    refine get_X9_32 hx hb hA hown hE hG t_h0 wd_4_162 dX9_shut_241 (fun b268 (t_b268 : ty Γ b268 132) => ?_)
                                    refine lv_iload hx hb dX9_shut_244 (lv_at hl 1 rfl) ?_
                                    refine ty_iconst hx hb (4) dX9_shut_246 (by decide) (fun x269 h270 => ?_)
                                    refine ast_mI hx hb hE hG hS hU 32 rfl (n := 200) rfl (lo := -2147483648) (hi := 2147483647) rfl rfl rfl t_b268 (rgD _) (by omega) dX9_shut_247 (fun H locs hG hS => ?_)
                                    obtain ⟨x271, h272⟩ : ∃ y : Int32, y = v5_72 + Int32.ofInt (1) := ⟨_, rfl⟩
                                    try have h273 : x271.toInt = v5_72.toInt + (1) := ty_inc h272 (by decide) (by omega) (by omega)
                                    refine lv_iinc (v := x271) (lv' := [(5, .int x271), (4, .int x90), (0, .ref h0), (1, .int p1), (2, .int p2), (3, .int p3)]) hx hb dX9_shut_248 hl (k := 1) rfl h272.symm (by decide) rfl (fun ls hl => ?_)
                                    refine lv_goto (tgt := 72) hx hb dX9_shut_251 (by decide) ?_
                                    have e274 : (gs (gs g34 106 x185.toInt.toNat x213.toInt) 132 v5_72.toInt.toNat x269.toInt) 126 0 = g34 126 0 := by simp [gs]
                                    exact ih_72 x271 x90 (gs (gs g34 106 x185.toInt.toNat x213.toInt) 132 v5_72.toInt.toNat x269.toInt) _ _ ls (by omega) (by omega) (fun c j h106 h132 => by rw [gs_c _ _ _ _ h132, gs_c _ _ _ _ h106, hf35 c j h106 h132]) (by (repeat (first | with_reducible assumption | (refine IJ_c (by decide) (by decide) (by decide) ?_) | (refine IJ_take (by omega) (by omega) ?_) | (refine IJ_how (by omega) ?_) | (refine IJ_by (by omega) ?_)))) hG hS (lv_sub hl [0, 1, 2, 3, 4, 5] rfl)
                                  · skip
                                    refine lv_aload_n hx hb dX9_shut_207 rfl (lv_at hl 2 rfl) ?_
                                    refine get_X9_6 hx hb hA hown hE hG t_h0 wd_4_136 dX9_shut_208 (fun b275 (t_b275 : ty Γ b275 106) => ?_)
                                    refine lv_aload_n hx hb dX9_shut_211 rfl (lv_at hl 2 rfl) ?_
                                    refine get_X9_34 hx hb hA hown hE hG t_h0 wd_4_164 dX9_shut_212 (fun b276 (t_b276 : ty Γ b276 134) => ?_)
                                    refine lv_iload hx hb dX9_shut_215 (lv_at hl 1 rfl) ?_
                                    refine ald_mI hx hb hE hG 34 rfl (n := 200) rfl (lo := -1) (hi := 9) rfl rfl t_b276 (by omega) dX9_shut_217 (fun j278 x277 h279 h280 h281 => ?_)
                                    obtain rfl : j278 = v5_72.toInt.toNat := by omega
                                    rw [gs_c _ _ _ _ (by decide)] at h280
                                    replace h280 : x277.toInt = g34 134 v5_72.toInt.toNat := h280
                                    have hJ := hq0.1 v5_72.toInt.toNat
                                    refine lv_dup2_11 hx hb dX9_shut_218 rfl rfl ?_
                                    refine ald_mI hx hb hE hG 6 rfl (n := 10) rfl (lo := -2147483648) (hi := 2147483647) rfl rfl t_b275 (by omega) dX9_shut_219 (fun j283 x282 h284 h285 h286 => ?_)
                                    clear h286
                                    obtain rfl : j283 = x277.toInt.toNat := by omega
                                    replace h285 : x282.toInt = (gs g34 106 x185.toInt.toNat x213.toInt) 106 x277.toInt.toNat := h285
                                    refine lv_aload_n hx hb dX9_shut_220 rfl (lv_at hl 2 rfl) ?_
                                    refine get_X9_31 hx hb hA hown hE hG t_h0 wd_4_161 dX9_shut_221 (fun b287 (t_b287 : ty Γ b287 131) => ?_)
                                    refine lv_iload hx hb dX9_shut_224 (lv_at hl 1 rfl) ?_
                                    refine ald_mI hx hb hE hG 31 rfl (n := 200) rfl (lo := -2147483648) (hi := 2147483647) rfl rfl t_b287 (by omega) dX9_shut_226 (fun j289 x288 h290 h291 h292 => ?_)
                                    clear h292
                                    obtain rfl : j289 = v5_72.toInt.toNat := by omega
                                    rw [gs_c _ _ _ _ (by decide)] at h291
                                    replace h291 : x288.toInt = g34 131 v5_72.toInt.toNat := h291
                                    refine ty_iadd hx hb dX9_shut_227 (fun x293 h294 => ?_)
                                    refine ast_mI hx hb hE hG hS hU 6 rfl (n := 10) rfl (lo := -2147483648) (hi := 2147483647) rfl rfl rfl t_b275 (rgD _) (by omega) dX9_shut_228 (fun H locs hG hS => ?_)
                                    refine lv_aload_n hx hb dX9_shut_229 rfl (lv_at hl 2 rfl) ?_
                                    refine get_X9_32 hx hb hA hown hE hG t_h0 wd_4_162 dX9_shut_230 (fun b296 (t_b296 : ty Γ b296 132) => ?_)
                                    refine lv_iload hx hb dX9_shut_233 (lv_at hl 1 rfl) ?_
                                    refine ty_iconst hx hb (5) dX9_shut_235 (by decide) (fun x297 h298 => ?_)
                                    refine ast_mI hx hb hE hG hS hU 32 rfl (n := 200) rfl (lo := -2147483648) (hi := 2147483647) rfl rfl rfl t_b296 (rgD _) (by omega) dX9_shut_236 (fun H locs hG hS => ?_)
                                    generalize eg300 : (gs (gs (gs g34 106 x185.toInt.toNat x213.toInt) 106 x277.toInt.toNat x293.toInt) 132 v5_72.toInt.toNat x297.toInt) = g299 at hG
                                    have hf301 : ∀ c j : Nat, c ≠ 106 → c ≠ 132 → g299 c j = g34 c j := fun c j h106 h132 => by rw [← eg300, gs_c _ _ _ _ h132, gs_c _ _ _ _ h106, gs_c _ _ _ _ h106]
                                    have v302 : g299 106 x277.toInt.toNat = x293.toInt := by rw [← eg300, gs_c _ _ _ _ (by decide), gs_self]
                                    have v303 : g299 132 v5_72.toInt.toNat = x297.toInt := by rw [← eg300, gs_self]
                                    have hw304 : g299 132 = gs g34 132 v5_72.toInt.toNat x297.toInt 132 := funext fun j => by rw [← eg300]; exact gs_in (by rw [gs_c _ _ _ _ (by decide), gs_c _ _ _ _ (by decide)])
                                    try have hj305 : IJ g299 := by rw [← eg300]; (repeat (first | with_reducible assumption | (refine IJ_c (by decide) (by decide) (by decide) ?_) | (refine IJ_take (by omega) (by omega) ?_) | (refine IJ_how (by omega) ?_) | (refine IJ_by (by omega) ?_)))
                                    refine lv_goto (tgt := 248) hx hb dX9_shut_237 (by decide) ?_
                                    obtain ⟨x306, h307⟩ : ∃ y : Int32, y = v5_72 + Int32.ofInt (1) := ⟨_, rfl⟩
                                    try have h308 : x306.toInt = v5_72.toInt + (1) := ty_inc h307 (by decide) (by omega) (by omega)
                                    refine lv_iinc (v := x306) (lv' := [(5, .int x306), (4, .int x90), (0, .ref h0), (1, .int p1), (2, .int p2), (3, .int p3)]) hx hb dX9_shut_248 hl (k := 1) rfl h307.symm (by decide) rfl (fun ls hl => ?_)
                                    refine lv_goto (tgt := 72) hx hb dX9_shut_251 (by decide) ?_
                                    have hk309 : g299 126 0 = g34 126 0 := hf301 126 0 (by decide) (by decide)
                                    exact ih_72 x306 x90 g299 _ _ ls (by omega) (by omega) (fun c j h106 h132 => by rw [hf301 c j h106 h132, hf35 c j h106 h132]) (by (repeat (first | with_reducible assumption | (refine IJ_c (by decide) (by decide) (by decide) ?_) | (refine IJ_take (by omega) (by omega) ?_) | (refine IJ_how (by omega) ?_) | (refine IJ_by (by omega) ?_)))) hG hS (lv_sub hl [0, 1, 2, 3, 4, 5] rfl)
                            · skip
                              refine lv_goto (tgt := 248) hx hb dX9_shut_132 (by decide) ?_
                              obtain ⟨x310, h311⟩ : ∃ y : Int32, y = v5_72 + Int32.ofInt (1) := ⟨_, rfl⟩
                              try have h312 : x310.toInt = v5_72.toInt + (1) := ty_inc h311 (by decide) (by omega) (by omega)
                              refine lv_iinc (v := x310) (lv' := [(5, .int x310), (4, .int v4_72), (0, .ref h0), (1, .int p1), (2, .int p2), (3, .int p3)]) hx hb dX9_shut_248 hl (k := 0) rfl h311.symm (by decide) rfl (fun ls hl => ?_)
                              refine lv_goto (tgt := 72) hx hb dX9_shut_251 (by decide) ?_
                              exact ih_72 x310 v4_72 g34 _ _ ls (by omega) (by omega) (fun c j h106 h132 => by rw [hf35 c j h106 h132]) (by (repeat (first | with_reducible assumption | (refine IJ_c (by decide) (by decide) (by decide) ?_) | (refine IJ_take (by omega) (by omega) ?_) | (refine IJ_how (by omega) ?_) | (refine IJ_by (by omega) ?_)))) hG hS (lv_sub hl [0, 1, 2, 3, 4, 5] rfl)
                have hk313 : g26 126 0 = (gs g 100 0 x1.toInt) 126 0 := hf27 126 0 (by decide)
                have hk313 : g26 126 0 = g 126 0 := by rw [hk313]; simp [gs]
                exact L_72 ((g26 126 0 - x32.toInt) + 1).toNat x32 x30 g26 _ _ ls (by omega) (by omega) (fun c j _ _ => rfl) (by (repeat (first | with_reducible assumption | (refine IJ_c (by decide) (by decide) (by decide) ?_) | (refine IJ_take (by omega) (by omega) ?_) | (refine IJ_how (by omega) ?_) | (refine IJ_by (by omega) ?_)))) hG hS (lv_sub hl [0, 1, 2, 3, 4, 5] rfl)
              · skip
                refine lv_aload_n hx hb dX9_shut_47 rfl (lv_at hl 1 rfl) ?_
                refine get_X9_10 hx hb hA hown hE hG t_h0 wd_4_140 dX9_shut_48 (fun b314 (t_b314 : ty Γ b314 110) => ?_)
                refine ty_bipush hx hb (53) dX9_shut_51 (by decide) (fun x315 h316 => ?_)
                refine lv_iload_n hx hb dX9_shut_53 rfl (lv_at hl 2 rfl) ?_
                refine ty_imul hx hb dX9_shut_54 (fun x317 h318 => ?_)
                try have h319 : x317.toInt = 53 * p1.toInt := ty_mull h318 (by omega) (by omega) (by omega)
                refine lv_iload hx hb dX9_shut_55 (lv_at hl 0 rfl) ?_
                refine ty_iadd hx hb dX9_shut_57 (fun x320 h321 => ?_)
                try have h322 : x320.toInt = x317.toInt + v4_41.toInt := ty_add h321 (by omega) (by omega)
                refine ty_iconst hx hb (1) dX9_shut_58 (by decide) (fun x323 h324 => ?_)
                refine ast_mZ hx hb hE hG hS hU 10 rfl (n := 318) rfl (lo := 0) (hi := 1) rfl rfl rfl t_b314 (by omega) (by omega) (by omega) dX9_shut_59 (fun H locs hG hS => ?_)
                obtain ⟨x325, h326⟩ : ∃ y : Int32, y = v4_41 + Int32.ofInt (1) := ⟨_, rfl⟩
                try have h327 : x325.toInt = v4_41.toInt + (1) := ty_inc h326 (by decide) (by omega) (by omega)
                refine lv_iinc (v := x325) (lv' := [(4, .int x325), (0, .ref h0), (1, .int p1), (2, .int p2), (3, .int p3)]) hx hb dX9_shut_60 hl (k := 0) rfl h326.symm (by decide) rfl (fun ls hl => ?_)
                refine lv_goto (tgt := 41) hx hb dX9_shut_63 (by decide) ?_
                exact ih_41 x325 (gs g26 110 x320.toInt.toNat x323.toInt) _ _ ls (by omega) (by omega) (fun c j h110 => by rw [gs_c _ _ _ _ h110, hf27 c j h110]) hG hS (lv_sub hl [0, 1, 2, 3, 4] rfl)
          exact L_41 ((53 - p2.toInt) + 1).toNat p2 (gs g 100 0 x1.toInt) _ _ ls (by omega) (by omega) (fun c j _ => rfl) hG hS (lv_sub hl [0, 1, 2, 3, 4] rfl)
        · skip
          refine ty_iconst hx hb (-1) dX9_shut_36 (by decide) (fun x328 h329 => ?_)
          exact W.iret (v := x328) hx hb hr (fun t ht hW => ⟨⟨x328, (gs g 100 0 x1.toInt), rfl, ⟨(fun c j h100 h106 h110 h132 => by rw [gs_c _ _ _ _ h100]), (by (repeat (first | with_reducible assumption | (refine IJ_c (by decide) (by decide) (by decide) ?_) | (refine IJ_take (by omega) (by omega) ?_) | (refine IJ_how (by omega) ?_) | (refine IJ_by (by omega) ?_))))⟩, ok1 ht hG⟩, hS.F ht⟩) hS.2.2 dX9_shut_37

set_option maxHeartbeats 4000000 in
set_option maxRecDepth 100000 in
/-- WeekBankModel.passes:  -/
theorem k_X9_passes (l : Launch) (dC : Nat → ClassId) (dI : Nat → Nat → Nat) (dA : Nat → ClassId) (sz : Nat) (X : va_W) (Γ : ty_G) (hU : Un Γ) (g : gh) (h0 : Nat) (t_h0 : ty Γ h0 30) (p1 : Int32) (m26 : 0 ≤ g 126 0 ∧ g 126 0 ≤ 200) (hIJ : IJ g) : Met l yX9_passes (.code yX9_passes cX9_passes 3 (Option.none : Option Jvm.ClassFile.FieldType) :: AL) ({ frames := 0, cells := 0, slots := 0, locals := 0 }) (PCx dC dI dA sz X Γ g [.ref h0, .int p1]) (va_Qv (fun (u : gh) => (∀ c j : Nat, c ≠ 132 → u c j = g c j) ∧ (IJ u)) (okb dC dI dA sz X Γ) (ty_A sz)) 0 0 (ty_A sz) := by
  refine Met.ofW (cc := cX9_passes) (maxL := 3) (ret := (Option.none : Option Jvm.ClassFile.FieldType)) (by decide) rfl ?_
  intro p e s m args below meth c s₁ B hml hv
  obtain ⟨rfl, hG, hE⟩ := hv
  have hx := B.exec
  have hb := B.bytes
  have hr := B.returns
  have hts := atoms_spec B.pre
  have hA : ∀ w ∈ AL, w.before _ s = true := fun w h => hts w (List.mem_cons_of_mem _ h)
  have hown : s.vm.findClass RX9 = some m.cls := findClass_of_methodNamed B.named
  have hlocks := B.notSynchronized
  have hS : va_S (ty_A sz) s.heap s.heap [] := va_S.rf
  have hl := lv_entry ([.ref h0, .int p1]) (n := 3) (Nat.le_of_ble_eq_true rfl)
  rw [lg_entry_eq]
  generalize (lg_sl ([.ref h0, .int p1]) ++ List.replicate (3 - (lg_sl ([.ref h0, .int p1])).length) Slot.unset).toArray = ls at hl ⊢
  have hl : lv_has ls 3 [(0, .ref h0), (1, .int p1)] := hl
  refine ty_iconst hx hb (0) dX9_passes_0 (by decide) (fun x1 h2 => ?_)
  refine lv_istore_n (lv' := [(2, .int x1), (0, .ref h0), (1, .int p1)]) hx hb dX9_passes_1 rfl hl (by decide) rfl (fun ls hl => ?_)
  have L_2 : ∀ (n : Nat) (v2_2 : Int32) (g3 : gh) (H : Heap) (locs : List Loc) (ls : Array Slot), (g3 126 0 - v2_2.toInt : Int) < n → 0 ≤ v2_2.toInt ∧ v2_2.toInt ≤ g3 126 0 → (∀ c j : Nat, c ≠ 132 → g3 c j = g c j) → (IJ g3) → ty_ok (dC, dI) vwCl Γ (TP dA Γ g3) sz X H → va_S (ty_A sz) s.heap H locs → lv_has ls 3 [(2, .int v2_2), (0, .ref h0), (1, .int p1)] → W p l e (headSpec (.code yX9_passes cX9_passes 3 (Option.none : Option Jvm.ClassFile.FieldType) :: AL) ({ frames := 0, cells := 0, slots := 0, locals := 0 })).room s m ([.ref h0, .int p1] : List Value).toArray below meth c H locs 0 0 (MQ below (va_Qv (fun (u : gh) => (∀ c j : Nat, c ≠ 132 → u c j = g c j) ∧ (IJ u)) (okb dC dI dA sz X Γ) (ty_A sz)) ([.ref h0, .int p1] : List Value).toArray s 0 0 (ty_A sz)) (F0 m 2 ls []) := by
    intro n
    induction n with
    | zero => intro v2_2 g3 H locs ls hm hi0 hf4 hq0 hG hS hl; exfalso; omega
    | succ n ih_2 =>
      intro v2_2 g3 H locs ls hm hi0 hf4 hq0 hG hS hl
      have hk5 : g3 126 0 = g 126 0 := hf4 126 0 (by decide)
      refine lv_iload_n hx hb dX9_passes_2 rfl (lv_at hl 0 rfl) ?_
      refine lv_aload_n hx hb dX9_passes_3 rfl (lv_at hl 1 rfl) ?_
      refine get_X9_26 hx hb hA hown hE hG t_h0 wd_4_156 dX9_passes_4 (fun x6 h7 => ?_)
      refine ty_icmp_ge (tgt := 52) hx hb dX9_passes_7 (by decide) (fun c9 => ?_) (fun c9 => ?_)
      · skip
        exact W.vret hx hb hr (fun t ht hW => ⟨⟨g3, rfl, ⟨(fun c j h132 => by rw [hf4 c j h132]), (by (repeat (first | with_reducible assumption | (refine IJ_c (by decide) (by decide) (by decide) ?_) | (refine IJ_take (by omega) (by omega) ?_) | (refine IJ_how (by omega) ?_) | (refine IJ_by (by omega) ?_))))⟩, ok1 ht hG⟩, hS.F ht⟩) hS.2.2 dX9_passes_52
      · skip
        refine lv_aload_n hx hb dX9_passes_10 rfl (lv_at hl 1 rfl) ?_
        refine get_X9_32 hx hb hA hown hE hG t_h0 wd_4_162 dX9_passes_11 (fun b10 (t_b10 : ty Γ b10 132) => ?_)
        refine lv_iload_n hx hb dX9_passes_14 rfl (lv_at hl 0 rfl) ?_
        refine ald_mI hx hb hE hG 32 rfl (n := 200) rfl (lo := -2147483648) (hi := 2147483647) rfl rfl t_b10 (by omega) dX9_passes_15 (fun j12 x11 h13 h14 h15 => ?_)
        clear h15
        refine ty_if_eq (tgt := 29) hx hb dX9_passes_16 (by decide) (fun c16 => ?_) (fun c16 => ?_)
        · skip
          refine lv_aload_n hx hb dX9_passes_29 rfl (lv_at hl 1 rfl) ?_
          refine get_X9_29 hx hb hA hown hE hG t_h0 wd_4_159 dX9_passes_30 (fun b17 (t_b17 : ty Γ b17 129) => ?_)
          refine lv_iload_n hx hb dX9_passes_33 rfl (lv_at hl 0 rfl) ?_
          refine ald_mI hx hb hE hG 29 rfl (n := 200) rfl (lo := -2147483648) (hi := 2147483647) rfl rfl t_b17 (by omega) dX9_passes_34 (fun j19 x18 h20 h21 h22 => ?_)
          clear h22
          refine lv_iload_n hx hb dX9_passes_35 rfl (lv_at hl 2 rfl) ?_
          refine ty_icmp_gt (tgt := 46) hx hb dX9_passes_36 (by decide) (fun c23 => ?_) (fun c23 => ?_)
          · skip
            obtain ⟨x24, h25⟩ : ∃ y : Int32, y = v2_2 + Int32.ofInt (1) := ⟨_, rfl⟩
            try have h26 : x24.toInt = v2_2.toInt + (1) := ty_inc h25 (by decide) (by omega) (by omega)
            refine lv_iinc (v := x24) (lv' := [(2, .int x24), (0, .ref h0), (1, .int p1)]) hx hb dX9_passes_46 hl (k := 0) rfl h25.symm (by decide) rfl (fun ls hl => ?_)
            refine lv_goto (tgt := 2) hx hb dX9_passes_49 (by decide) ?_
            exact ih_2 x24 g3 _ _ ls (by omega) (by omega) (fun c j h132 => by rw [hf4 c j h132]) (by (repeat (first | with_reducible assumption | (refine IJ_c (by decide) (by decide) (by decide) ?_) | (refine IJ_take (by omega) (by omega) ?_) | (refine IJ_how (by omega) ?_) | (refine IJ_by (by omega) ?_)))) hG hS (lv_sub hl [0, 1, 2] rfl)
          · skip
            refine lv_aload_n hx hb dX9_passes_39 rfl (lv_at hl 1 rfl) ?_
            refine get_X9_32 hx hb hA hown hE hG t_h0 wd_4_162 dX9_passes_40 (fun b27 (t_b27 : ty Γ b27 132) => ?_)
            refine lv_iload_n hx hb dX9_passes_43 rfl (lv_at hl 0 rfl) ?_
            refine ty_iconst hx hb (5) dX9_passes_44 (by decide) (fun x28 h29 => ?_)
            refine ast_mI hx hb hE hG hS hU 32 rfl (n := 200) rfl (lo := -2147483648) (hi := 2147483647) rfl rfl rfl t_b27 (rgD _) (by omega) dX9_passes_45 (fun H locs hG hS => ?_)
            obtain ⟨x30, h31⟩ : ∃ y : Int32, y = v2_2 + Int32.ofInt (1) := ⟨_, rfl⟩
            try have h32 : x30.toInt = v2_2.toInt + (1) := ty_inc h31 (by decide) (by omega) (by omega)
            refine lv_iinc (v := x30) (lv' := [(2, .int x30), (0, .ref h0), (1, .int p1)]) hx hb dX9_passes_46 hl (k := 0) rfl h31.symm (by decide) rfl (fun ls hl => ?_)
            refine lv_goto (tgt := 2) hx hb dX9_passes_49 (by decide) ?_
            have e33 : (gs g3 132 v2_2.toInt.toNat x28.toInt) 126 0 = g3 126 0 := by simp [gs]
            exact ih_2 x30 (gs g3 132 v2_2.toInt.toNat x28.toInt) _ _ ls (by omega) (by omega) (fun c j h132 => by rw [gs_c _ _ _ _ h132, hf4 c j h132]) (by (repeat (first | with_reducible assumption | (refine IJ_c (by decide) (by decide) (by decide) ?_) | (refine IJ_take (by omega) (by omega) ?_) | (refine IJ_how (by omega) ?_) | (refine IJ_by (by omega) ?_)))) hG hS (lv_sub hl [0, 1, 2] rfl)
        · skip
          refine lv_aload_n hx hb dX9_passes_19 rfl (lv_at hl 1 rfl) ?_
          refine get_X9_32 hx hb hA hown hE hG t_h0 wd_4_162 dX9_passes_20 (fun b34 (t_b34 : ty Γ b34 132) => ?_)
          refine lv_iload_n hx hb dX9_passes_23 rfl (lv_at hl 0 rfl) ?_
          refine ald_mI hx hb hE hG 32 rfl (n := 200) rfl (lo := -2147483648) (hi := 2147483647) rfl rfl t_b34 (by omega) dX9_passes_24 (fun j36 x35 h37 h38 h39 => ?_)
          clear h39
          refine ty_iconst hx hb (2) dX9_passes_25 (by decide) (fun x40 h41 => ?_)
          refine ty_icmp_ne (tgt := 46) hx hb dX9_passes_26 (by decide) (fun c42 => ?_) (fun c42 => ?_)
          · skip
            obtain ⟨x43, h44⟩ : ∃ y : Int32, y = v2_2 + Int32.ofInt (1) := ⟨_, rfl⟩
            try have h45 : x43.toInt = v2_2.toInt + (1) := ty_inc h44 (by decide) (by omega) (by omega)
            refine lv_iinc (v := x43) (lv' := [(2, .int x43), (0, .ref h0), (1, .int p1)]) hx hb dX9_passes_46 hl (k := 0) rfl h44.symm (by decide) rfl (fun ls hl => ?_)
            refine lv_goto (tgt := 2) hx hb dX9_passes_49 (by decide) ?_
            exact ih_2 x43 g3 _ _ ls (by omega) (by omega) (fun c j h132 => by rw [hf4 c j h132]) (by (repeat (first | with_reducible assumption | (refine IJ_c (by decide) (by decide) (by decide) ?_) | (refine IJ_take (by omega) (by omega) ?_) | (refine IJ_how (by omega) ?_) | (refine IJ_by (by omega) ?_)))) hG hS (lv_sub hl [0, 1, 2] rfl)
          · skip
            refine lv_aload_n hx hb dX9_passes_29 rfl (lv_at hl 1 rfl) ?_
            refine get_X9_29 hx hb hA hown hE hG t_h0 wd_4_159 dX9_passes_30 (fun b46 (t_b46 : ty Γ b46 129) => ?_)
            refine lv_iload_n hx hb dX9_passes_33 rfl (lv_at hl 0 rfl) ?_
            refine ald_mI hx hb hE hG 29 rfl (n := 200) rfl (lo := -2147483648) (hi := 2147483647) rfl rfl t_b46 (by omega) dX9_passes_34 (fun j48 x47 h49 h50 h51 => ?_)
            clear h51
            refine lv_iload_n hx hb dX9_passes_35 rfl (lv_at hl 2 rfl) ?_
            refine ty_icmp_gt (tgt := 46) hx hb dX9_passes_36 (by decide) (fun c52 => ?_) (fun c52 => ?_)
            · skip
              obtain ⟨x53, h54⟩ : ∃ y : Int32, y = v2_2 + Int32.ofInt (1) := ⟨_, rfl⟩
              try have h55 : x53.toInt = v2_2.toInt + (1) := ty_inc h54 (by decide) (by omega) (by omega)
              refine lv_iinc (v := x53) (lv' := [(2, .int x53), (0, .ref h0), (1, .int p1)]) hx hb dX9_passes_46 hl (k := 0) rfl h54.symm (by decide) rfl (fun ls hl => ?_)
              refine lv_goto (tgt := 2) hx hb dX9_passes_49 (by decide) ?_
              exact ih_2 x53 g3 _ _ ls (by omega) (by omega) (fun c j h132 => by rw [hf4 c j h132]) (by (repeat (first | with_reducible assumption | (refine IJ_c (by decide) (by decide) (by decide) ?_) | (refine IJ_take (by omega) (by omega) ?_) | (refine IJ_how (by omega) ?_) | (refine IJ_by (by omega) ?_)))) hG hS (lv_sub hl [0, 1, 2] rfl)
            · skip
              refine lv_aload_n hx hb dX9_passes_39 rfl (lv_at hl 1 rfl) ?_
              refine get_X9_32 hx hb hA hown hE hG t_h0 wd_4_162 dX9_passes_40 (fun b56 (t_b56 : ty Γ b56 132) => ?_)
              refine lv_iload_n hx hb dX9_passes_43 rfl (lv_at hl 0 rfl) ?_
              refine ty_iconst hx hb (5) dX9_passes_44 (by decide) (fun x57 h58 => ?_)
              refine ast_mI hx hb hE hG hS hU 32 rfl (n := 200) rfl (lo := -2147483648) (hi := 2147483647) rfl rfl rfl t_b56 (rgD _) (by omega) dX9_passes_45 (fun H locs hG hS => ?_)
              obtain ⟨x59, h60⟩ : ∃ y : Int32, y = v2_2 + Int32.ofInt (1) := ⟨_, rfl⟩
              try have h61 : x59.toInt = v2_2.toInt + (1) := ty_inc h60 (by decide) (by omega) (by omega)
              refine lv_iinc (v := x59) (lv' := [(2, .int x59), (0, .ref h0), (1, .int p1)]) hx hb dX9_passes_46 hl (k := 0) rfl h60.symm (by decide) rfl (fun ls hl => ?_)
              refine lv_goto (tgt := 2) hx hb dX9_passes_49 (by decide) ?_
              have e62 : (gs g3 132 v2_2.toInt.toNat x57.toInt) 126 0 = g3 126 0 := by simp [gs]
              exact ih_2 x59 (gs g3 132 v2_2.toInt.toNat x57.toInt) _ _ ls (by omega) (by omega) (fun c j h132 => by rw [gs_c _ _ _ _ h132, hf4 c j h132]) (by (repeat (first | with_reducible assumption | (refine IJ_c (by decide) (by decide) (by decide) ?_) | (refine IJ_take (by omega) (by omega) ?_) | (refine IJ_how (by omega) ?_) | (refine IJ_by (by omega) ?_)))) hG hS (lv_sub hl [0, 1, 2] rfl)
  exact L_2 ((g 126 0 - x1.toInt) + 1).toNat x1 g _ _ ls (by omega) (by omega) (fun c j _ => rfl) (by (repeat (first | with_reducible assumption | (refine IJ_c (by decide) (by decide) (by decide) ?_) | (refine IJ_take (by omega) (by omega) ?_) | (refine IJ_how (by omega) ?_) | (refine IJ_by (by omega) ?_)))) hG hS (lv_sub hl [0, 1, 2] rfl)

set_option maxHeartbeats 4000000 in
set_option maxRecDepth 100000 in
/-- WeekBankModel.weeks:  -/
theorem k_X9_weeks (l : Launch) (dC : Nat → ClassId) (dI : Nat → Nat → Nat) (dA : Nat → ClassId) (sz : Nat) (X : va_W) (Γ : ty_G) (hU : Un Γ) (g : gh) (h0 : Nat) (t_h0 : ty Γ h0 30) (p1 : Int32) (m26 : 0 ≤ g 126 0 ∧ g 126 0 ≤ 200) (m12 : 0 ≤ g 112 0 ∧ g 112 0 ≤ 52) (hIJ : IJ g) : Met l yX9_weeks (.code yX9_weeks cX9_weeks 2 (Option.some Jvm.ClassFile.FieldType.int) :: AL) ({ frames := 1, cells := 0, slots := 0, locals := 22 }) (PCx dC dI dA sz X Γ g [.ref h0, .int p1]) (va_Qi (fun (r : Int32) (u : gh) => (∀ c j : Nat, c ≠ 100 → c ≠ 112 → c ≠ 132 → u c j = g c j) ∧ ((1 ≤ p1.toInt ∧ p1.toInt ≤ 52 - g 112 0 → r.toInt = g 112 0 + p1.toInt ∧ u 112 0 = r.toInt) ∧ (¬ (1 ≤ p1.toInt ∧ p1.toInt ≤ 52 - g 112 0) → r.toInt = -1 ∧ u 112 0 = g 112 0)) ∧ (IJ u)) (okb dC dI dA sz X Γ) (ty_A sz)) 0 0 (ty_A sz) := by
  refine Met.ofW (cc := cX9_weeks) (maxL := 2) (ret := (Option.some Jvm.ClassFile.FieldType.int)) (by decide) rfl ?_
  intro p e s m args below meth c s₁ B hml hv
  obtain ⟨rfl, hG, hE⟩ := hv
  have hx := B.exec
  have hb := B.bytes
  have hr := B.returns
  have hts := atoms_spec B.pre
  have hA : ∀ w ∈ AL, w.before _ s = true := fun w h => hts w (List.mem_cons_of_mem _ h)
  have hown : s.vm.findClass RX9 = some m.cls := findClass_of_methodNamed B.named
  have hlocks := B.notSynchronized
  have hS : va_S (ty_A sz) s.heap s.heap [] := va_S.rf
  have hl := lv_entry ([.ref h0, .int p1]) (n := 2) (Nat.le_of_ble_eq_true rfl)
  rw [lg_entry_eq]
  generalize (lg_sl ([.ref h0, .int p1]) ++ List.replicate (2 - (lg_sl ([.ref h0, .int p1])).length) Slot.unset).toArray = ls at hl ⊢
  have hl : lv_has ls 2 [(0, .ref h0), (1, .int p1)] := hl
  refine lv_aload_n hx hb dX9_weeks_0 rfl (lv_at hl 0 rfl) ?_
  refine ty_iconst hx hb (0) dX9_weeks_1 (by decide) (fun x1 h2 => ?_)
  refine put_X9_0 hx hb hA hown hE hG hS hU t_h0 wd_4_130 dX9_weeks_2 (fun H locs hG hS => ?_)
  refine lv_iload_n hx hb dX9_weeks_5 rfl (lv_at hl 1 rfl) ?_
  refine ty_iconst hx hb (1) dX9_weeks_6 (by decide) (fun x3 h4 => ?_)
  refine ty_bipush hx hb (52) dX9_weeks_7 (by decide) (fun x5 h6 => ?_)
  refine cI (va_runS (As := [.int p1, .int x3, .int x5]) (rest := []) ⟨hx, hb, hml, hown, hA⟩ (k_X9_within l dC dI dA sz X Γ hU (gs g 100 0 x1.toInt) p1 x3 x5   ) ⟨callB_of 3 hA (al_A wd_5_38) rfl rfl rfl (hA _ wd_1_7) (hA _ wd_5_36) (by decide +kernel) ⟨Nat.le_of_ble_eq_true rfl, Nat.le_of_ble_eq_true rfl⟩, hA _ wd_5_37⟩ ⟨bl, fun U hU9 hW9 => ⟨rfl, by rw [hU9]; exact hG, hE.go hS hU9 hW9⟩⟩ rfl rfl hl.1 rfl (lv_room (Nat.le_of_ble_eq_true rfl)) dX9_weeks_9 ⟨Nat.zero_le _, Nat.zero_le _⟩) hS (fun x9 u7 H locs w8 hG hS => ?_)
  obtain ⟨eu10, w8⟩ := w8
  rw [eu10] at hG
  refine ty_if_eq (tgt := 26) hx hb dX9_weeks_12 (by decide) (fun c11 => ?_) (fun c11 => ?_)
  · skip
    refine ty_iconst hx hb (-1) dX9_weeks_26 (by decide) (fun x12 h13 => ?_)
    have e14 : (gs g 100 0 x1.toInt) 112 0 = g 112 0 := by simp [gs]
    exact W.iret (v := x12) hx hb hr (fun t ht hW => ⟨⟨x12, (gs g 100 0 x1.toInt), rfl, ⟨(fun c j h100 h112 h132 => by rw [gs_c _ _ _ _ h100]), (by omega), (by (repeat (first | with_reducible assumption | (refine IJ_c (by decide) (by decide) (by decide) ?_) | (refine IJ_take (by omega) (by omega) ?_) | (refine IJ_how (by omega) ?_) | (refine IJ_by (by omega) ?_))))⟩, ok1 ht hG⟩, hS.F ht⟩) hS.2.2 dX9_weeks_27
  · skip
    refine lv_aload_n hx hb dX9_weeks_15 rfl (lv_at hl 0 rfl) ?_
    refine get_X9_12 hx hb hA hown hE hG t_h0 wd_4_142 dX9_weeks_16 (fun x15 h16 => ?_)
    replace h16 : x15.toInt = g 112 0 := by rw [h16]; simp [gs]
    refine lv_iload_n hx hb dX9_weeks_19 rfl (lv_at hl 1 rfl) ?_
    refine ty_iadd hx hb dX9_weeks_20 (fun x18 h19 => ?_)
    try have h20 : x18.toInt = x15.toInt + p1.toInt := ty_add h19 (by omega) (by omega)
    refine ty_bipush hx hb (52) dX9_weeks_21 (by decide) (fun x21 h22 => ?_)
    refine ty_icmp_le (tgt := 28) hx hb dX9_weeks_23 (by decide) (fun c23 => ?_) (fun c23 => ?_)
    · skip
      refine lv_aload_n hx hb dX9_weeks_28 rfl (lv_at hl 0 rfl) ?_
      refine lv_dup hx hb dX9_weeks_29 rfl ?_
      refine get_X9_12 hx hb hA hown hE hG t_h0 wd_4_142 dX9_weeks_30 (fun x24 h25 => ?_)
      replace h25 : x24.toInt = g 112 0 := by rw [h25]; simp [gs]
      refine lv_iload_n hx hb dX9_weeks_33 rfl (lv_at hl 1 rfl) ?_
      refine ty_iadd hx hb dX9_weeks_34 (fun x27 h28 => ?_)
      try have h29 : x27.toInt = x24.toInt + p1.toInt := ty_add h28 (by omega) (by omega)
      refine put_X9_12 hx hb hA hown hE hG hS hU t_h0 wd_4_142 dX9_weeks_35 (fun H locs hG hS => ?_)
      refine lv_aload_n hx hb dX9_weeks_38 rfl (lv_at hl 0 rfl) ?_
      refine lv_aload_n hx hb dX9_weeks_39 rfl (lv_at hl 0 rfl) ?_
      refine get_X9_12 hx hb hA hown hE hG t_h0 wd_4_142 dX9_weeks_40 (fun x30 h31 => ?_)
      replace h31 : x30.toInt = x27.toInt := by rw [h31]; simp [gs]
      have e33 : (gs (gs g 100 0 x1.toInt) 112 0 x27.toInt) 126 0 = g 126 0 := by simp [gs]
      refine cV (va_runV (C := RX9) (As := [.int x30]) (rest := []) ⟨hx, hb, hml, hown, hA⟩ (k_X9_passes l dC dI dA sz X Γ hU (gs (gs g 100 0 x1.toInt) 112 0 x27.toInt) h0 t_h0 x30   (by omega) (by (repeat (first | with_reducible assumption | (refine IJ_c (by decide) (by decide) (by decide) ?_) | (refine IJ_take (by omega) (by omega) ?_) | (refine IJ_how (by omega) ?_) | (refine IJ_by (by omega) ?_))))) ⟨callB_of 1 hA (al_A wd_5_197) rfl rfl rfl (hA _ wd_1_7) (hA _ wd_5_194) (by decide +kernel) ⟨Nat.le_of_ble_eq_true rfl, Nat.le_of_ble_eq_true rfl⟩, hA _ wd_5_196, hA _ ws_55⟩ ⟨bl, recv_X9 hE hG t_h0, fun U hU9 hW9 => ⟨rfl, by rw [hU9]; exact hG, hE.go hS hU9 hW9⟩⟩ rfl rfl hl.1 rfl (lv_room (Nat.le_of_ble_eq_true rfl)) dX9_weeks_43 ⟨Nat.zero_le _, Nat.zero_le _⟩) hS (fun u34 H locs w35 hG hS => ?_)
      obtain ⟨hf37, hq36⟩ := w35
      refine lv_aload_n hx hb dX9_weeks_46 rfl (lv_at hl 0 rfl) ?_
      refine get_X9_12 hx hb hA hown hE hG t_h0 wd_4_142 dX9_weeks_47 (fun x38 h39 => ?_)
      have hk41 : u34 112 0 = (gs (gs g 100 0 x1.toInt) 112 0 x27.toInt) 112 0 := hf37 112 0 (by decide)
      have hk41 : u34 112 0 = x27.toInt := by rw [hk41]; simp [gs]
      exact W.iret (v := x38) hx hb hr (fun t ht hW => ⟨⟨x38, u34, rfl, ⟨(fun c j h100 h112 h132 => by rw [hf37 c j h132, gs_c _ _ _ _ h112, gs_c _ _ _ _ h100]), (by omega), (by (repeat (first | with_reducible assumption | (refine IJ_c (by decide) (by decide) (by decide) ?_) | (refine IJ_take (by omega) (by omega) ?_) | (refine IJ_how (by omega) ?_) | (refine IJ_by (by omega) ?_))))⟩, ok1 ht hG⟩, hS.F ht⟩) hS.2.2 dX9_weeks_50
    · skip
      refine ty_iconst hx hb (-1) dX9_weeks_26 (by decide) (fun x42 h43 => ?_)
      have e44 : (gs g 100 0 x1.toInt) 112 0 = g 112 0 := by simp [gs]
      exact W.iret (v := x42) hx hb hr (fun t ht hW => ⟨⟨x42, (gs g 100 0 x1.toInt), rfl, ⟨(fun c j h100 h112 h132 => by rw [gs_c _ _ _ _ h100]), (by omega), (by (repeat (first | with_reducible assumption | (refine IJ_c (by decide) (by decide) (by decide) ?_) | (refine IJ_take (by omega) (by omega) ?_) | (refine IJ_how (by omega) ?_) | (refine IJ_by (by omega) ?_))))⟩, ok1 ht hG⟩, hS.F ht⟩) hS.2.2 dX9_weeks_27

set_option maxHeartbeats 4000000 in
set_option maxRecDepth 100000 in
/-- WeekBankModel.year:  -/
theorem k_X9_year (l : Launch) (dC : Nat → ClassId) (dI : Nat → Nat → Nat) (dA : Nat → ClassId) (sz : Nat) (X : va_W) (Γ : ty_G) (hU : Un Γ) (g : gh) (h0 : Nat) (t_h0 : ty Γ h0 30) (m26 : 0 ≤ g 126 0 ∧ g 126 0 ≤ 200) (hIJ : IJ g) (f7 : 0 ≤ g 111 0 ∧ g 111 0 ≤ 100000) : Met l yX9_year (.code yX9_year cX9_year 2 (Option.some Jvm.ClassFile.FieldType.int) :: AL) ({ frames := 1, cells := 0, slots := 0, locals := 22 }) (PCx dC dI dA sz X Γ g [.ref h0]) (va_Qi (fun (r : Int32) (u : gh) => (∀ c j : Nat, c ≠ 100 → c ≠ 110 → c ≠ 111 → c ≠ 112 → c ≠ 132 → u c j = g c j) ∧ ((r.toInt = g 111 0 + 1) ∧ (u 111 0 = g 111 0 + 1) ∧ (u 112 0 = 0)) ∧ (IJ u)) (okb dC dI dA sz X Γ) (ty_A sz)) 0 0 (ty_A sz) := by
  refine Met.ofW (cc := cX9_year) (maxL := 2) (ret := (Option.some Jvm.ClassFile.FieldType.int)) (by decide) rfl ?_
  intro p e s m args below meth c s₁ B hml hv
  obtain ⟨rfl, hG, hE⟩ := hv
  have hx := B.exec
  have hb := B.bytes
  have hr := B.returns
  have hts := atoms_spec B.pre
  have hA : ∀ w ∈ AL, w.before _ s = true := fun w h => hts w (List.mem_cons_of_mem _ h)
  have hown : s.vm.findClass RX9 = some m.cls := findClass_of_methodNamed B.named
  have hlocks := B.notSynchronized
  have hS : va_S (ty_A sz) s.heap s.heap [] := va_S.rf
  have hl := lv_entry ([.ref h0]) (n := 2) (Nat.le_of_ble_eq_true rfl)
  rw [lg_entry_eq]
  generalize (lg_sl ([.ref h0]) ++ List.replicate (2 - (lg_sl ([.ref h0])).length) Slot.unset).toArray = ls at hl ⊢
  have hl : lv_has ls 2 [(0, .ref h0)] := hl
  refine lv_aload_n hx hb dX9_year_0 rfl (lv_at hl 0 rfl) ?_
  refine ty_iconst hx hb (0) dX9_year_1 (by decide) (fun x1 h2 => ?_)
  refine put_X9_0 hx hb hA hown hE hG hS hU t_h0 wd_4_130 dX9_year_2 (fun H locs hG hS => ?_)
  refine lv_aload_n hx hb dX9_year_5 rfl (lv_at hl 0 rfl) ?_
  refine ty_bipush hx hb (52) dX9_year_6 (by decide) (fun x3 h4 => ?_)
  have e5 : (gs g 100 0 x1.toInt) 126 0 = g 126 0 := by simp [gs]
  refine cV (va_runV (C := RX9) (As := [.int x3]) (rest := []) ⟨hx, hb, hml, hown, hA⟩ (k_X9_passes l dC dI dA sz X Γ hU (gs g 100 0 x1.toInt) h0 t_h0 x3   (by omega) (by (repeat (first | with_reducible assumption | (refine IJ_c (by decide) (by decide) (by decide) ?_) | (refine IJ_take (by omega) (by omega) ?_) | (refine IJ_how (by omega) ?_) | (refine IJ_by (by omega) ?_))))) ⟨callB_of 1 hA (al_A wd_5_197) rfl rfl rfl (hA _ wd_1_7) (hA _ wd_5_194) (by decide +kernel) ⟨Nat.le_of_ble_eq_true rfl, Nat.le_of_ble_eq_true rfl⟩, hA _ wd_5_196, hA _ ws_55⟩ ⟨bl, recv_X9 hE hG t_h0, fun U hU9 hW9 => ⟨rfl, by rw [hU9]; exact hG, hE.go hS hU9 hW9⟩⟩ rfl rfl hl.1 rfl (lv_room (Nat.le_of_ble_eq_true rfl)) dX9_year_8 ⟨Nat.zero_le _, Nat.zero_le _⟩) hS (fun u6 H locs w7 hG hS => ?_)
  obtain ⟨hf9, hq8⟩ := w7
  refine lv_aload_n hx hb dX9_year_11 rfl (lv_at hl 0 rfl) ?_
  refine lv_dup hx hb dX9_year_12 rfl ?_
  refine get_X9_11 hx hb hA hown hE hG t_h0 wd_4_141 dX9_year_13 (fun x10 h11 => ?_)
  have hk13 : u6 111 0 = (gs g 100 0 x1.toInt) 111 0 := hf9 111 0 (by decide)
  have hk13 : u6 111 0 = g 111 0 := by rw [hk13]; simp [gs]
  refine ty_iconst hx hb (1) dX9_year_16 (by decide) (fun x14 h15 => ?_)
  refine ty_iadd hx hb dX9_year_17 (fun x16 h17 => ?_)
  try have h18 : x16.toInt = x10.toInt + x14.toInt := ty_add h17 (by omega) (by omega)
  refine put_X9_11 hx hb hA hown hE hG hS hU t_h0 wd_4_141 dX9_year_18 (fun H locs hG hS => ?_)
  refine lv_aload_n hx hb dX9_year_21 rfl (lv_at hl 0 rfl) ?_
  refine ty_iconst hx hb (0) dX9_year_22 (by decide) (fun x19 h20 => ?_)
  refine put_X9_12 hx hb hA hown hE hG hS hU t_h0 wd_4_142 dX9_year_23 (fun H locs hG hS => ?_)
  refine ty_iconst hx hb (0) dX9_year_26 (by decide) (fun x21 h22 => ?_)
  refine lv_istore_n (lv' := [(1, .int x21), (0, .ref h0)]) hx hb dX9_year_27 rfl hl (by decide) rfl (fun ls hl => ?_)
  have L_28 : ∀ (n : Nat) (v1_28 : Int32) (g23 : gh) (H : Heap) (locs : List Loc) (ls : Array Slot), (318 - v1_28.toInt : Int) < n → 0 ≤ v1_28.toInt ∧ v1_28.toInt ≤ 318 → (∀ c j : Nat, c ≠ 110 → g23 c j = (gs (gs u6 111 0 x16.toInt) 112 0 x19.toInt) c j) → ty_ok (dC, dI) vwCl Γ (TP dA Γ g23) sz X H → va_S (ty_A sz) s.heap H locs → lv_has ls 2 [(1, .int v1_28), (0, .ref h0)] → W p l e (headSpec (.code yX9_year cX9_year 2 (Option.some Jvm.ClassFile.FieldType.int) :: AL) ({ frames := 1, cells := 0, slots := 0, locals := 22 })).room s m ([.ref h0] : List Value).toArray below meth c H locs 0 0 (MQ below (va_Qi (fun (r : Int32) (u : gh) => (∀ c j : Nat, c ≠ 100 → c ≠ 110 → c ≠ 111 → c ≠ 112 → c ≠ 132 → u c j = g c j) ∧ ((r.toInt = g 111 0 + 1) ∧ (u 111 0 = g 111 0 + 1) ∧ (u 112 0 = 0)) ∧ (IJ u)) (okb dC dI dA sz X Γ) (ty_A sz)) ([.ref h0] : List Value).toArray s 0 0 (ty_A sz)) (F0 m 28 ls []) := by
    intro n
    induction n with
    | zero => intro v1_28 g23 H locs ls hm hi0 hf24 hG hS hl; exfalso; omega
    | succ n ih_28 =>
      intro v1_28 g23 H locs ls hm hi0 hf24 hG hS hl
      have hj25 : IJ g23 := IJ_cg (hf24 126 0 (by decide)) (fun j => hf24 132 j (by decide)) (fun j => hf24 134 j (by decide)) (by (repeat (first | with_reducible assumption | (refine IJ_c (by decide) (by decide) (by decide) ?_) | (refine IJ_take (by omega) (by omega) ?_) | (refine IJ_how (by omega) ?_) | (refine IJ_by (by omega) ?_))))
      refine lv_iload_n hx hb dX9_year_28 rfl (lv_at hl 0 rfl) ?_
      refine ty_sipush hx hb (318) dX9_year_29 (by decide) (fun x26 h27 => ?_)
      refine ty_icmp_ge (tgt := 48) hx hb dX9_year_32 (by decide) (fun c28 => ?_) (fun c28 => ?_)
      · skip
        refine lv_aload_n hx hb dX9_year_48 rfl (lv_at hl 1 rfl) ?_
        refine get_X9_11 hx hb hA hown hE hG t_h0 wd_4_141 dX9_year_49 (fun x29 h30 => ?_)
        have hk32 : g23 111 0 = (gs (gs u6 111 0 x16.toInt) 112 0 x19.toInt) 111 0 := hf24 111 0 (by decide)
        have hk32 : g23 111 0 = x16.toInt := by rw [hk32]; simp [gs]
        have hk33 : g23 112 0 = (gs (gs u6 111 0 x16.toInt) 112 0 x19.toInt) 112 0 := hf24 112 0 (by decide)
        have hk33 : g23 112 0 = x19.toInt := by rw [hk33]; simp [gs]
        exact W.iret (v := x29) hx hb hr (fun t ht hW => ⟨⟨x29, g23, rfl, ⟨(fun c j h100 h110 h111 h112 h132 => by rw [hf24 c j h110, gs_c _ _ _ _ h112, gs_c _ _ _ _ h111, hf9 c j h132, gs_c _ _ _ _ h100]), (by omega), (by (repeat (first | with_reducible assumption | (refine IJ_c (by decide) (by decide) (by decide) ?_) | (refine IJ_take (by omega) (by omega) ?_) | (refine IJ_how (by omega) ?_) | (refine IJ_by (by omega) ?_))))⟩, ok1 ht hG⟩, hS.F ht⟩) hS.2.2 dX9_year_52
      · skip
        refine lv_aload_n hx hb dX9_year_35 rfl (lv_at hl 1 rfl) ?_
        refine get_X9_10 hx hb hA hown hE hG t_h0 wd_4_140 dX9_year_36 (fun b34 (t_b34 : ty Γ b34 110) => ?_)
        refine lv_iload_n hx hb dX9_year_39 rfl (lv_at hl 0 rfl) ?_
        refine ty_iconst hx hb (0) dX9_year_40 (by decide) (fun x35 h36 => ?_)
        refine ast_mZ hx hb hE hG hS hU 10 rfl (n := 318) rfl (lo := 0) (hi := 1) rfl rfl rfl t_b34 (by omega) (by omega) (by omega) dX9_year_41 (fun H locs hG hS => ?_)
        obtain ⟨x37, h38⟩ : ∃ y : Int32, y = v1_28 + Int32.ofInt (1) := ⟨_, rfl⟩
        try have h39 : x37.toInt = v1_28.toInt + (1) := ty_inc h38 (by decide) (by omega) (by omega)
        refine lv_iinc (v := x37) (lv' := [(1, .int x37), (0, .ref h0)]) hx hb dX9_year_42 hl (k := 0) rfl h38.symm (by decide) rfl (fun ls hl => ?_)
        refine lv_goto (tgt := 28) hx hb dX9_year_45 (by decide) ?_
        exact ih_28 x37 (gs g23 110 v1_28.toInt.toNat x35.toInt) _ _ ls (by omega) (by omega) (fun c j h110 => by rw [gs_c _ _ _ _ h110, hf24 c j h110]) hG hS (lv_sub hl [0, 1] rfl)
  exact L_28 ((318 - x21.toInt) + 1).toNat x21 (gs (gs u6 111 0 x16.toInt) 112 0 x19.toInt) _ _ ls (by omega) (by omega) (fun c j _ => rfl) hG hS (lv_sub hl [0, 1] rfl)
