theorem pz_rem_all : ∀ n, n < 32 → ((Int32.ofNat n) - (Int32.ofNat n) / 4 * 4).toInt = ((n % 4 : Nat) : Int) := by decide +kernel
theorem pz_rem4b {k y z : Int32} (hk : 0 ≤ k.toInt ∧ k.toInt < 32) (hy : y.toInt = 4) (hz : z = k - k / y * y) : z.toInt = k.toInt % 4 := by
  obtain rfl : y = 4 := ty_eq32.mpr (by rw [hy]; rfl)
  have e := pz_rem_all k.toInt.toNat (by omega)
  rw [← i32_nat hk.1, ← hz] at e
  omega

set_option maxHeartbeats 4000000 in
set_option maxRecDepth 100000 in
/-- WeekBankModel.fees:  -/
theorem k_X9_fees (l : Launch) (dC : Nat → ClassId) (dI : Nat → Nat → Nat) (dA : Nat → ClassId) (sz : Nat) (X : va_W) (Γ : ty_G) (hU : Un Γ) (g : gh) (h0 : Nat) (t_h0 : ty Γ h0 30) (p1 : Int32) (p2 : Int32) (m4 : 0 ≤ g 104 0 ∧ g 104 0 ≤ 10) : Met l yX9_fees (.code yX9_fees cX9_fees 8 (Option.some Jvm.ClassFile.FieldType.int) :: AL) ({ frames := 2, cells := 0, slots := 0, locals := 45 }) (PCx dC dI dA sz X Γ g [.ref h0, .int p1, .int p2]) (va_Qi (fun (r : Int32) (u : gh) => (∀ c j : Nat, c ≠ 100 → c ≠ 146 → u c j = g c j)) (okb dC dI dA sz X Γ) (ty_A sz)) 0 0 (ty_A sz) := by
  refine Met.ofW (cc := cX9_fees) (maxL := 8) (ret := (Option.some Jvm.ClassFile.FieldType.int)) (by decide) rfl ?_
  intro p e s m args below meth c s₁ B hml hv
  obtain ⟨rfl, hG, hE⟩ := hv
  have hx := B.exec
  have hb := B.bytes
  have hr := B.returns
  have hts := atoms_spec B.pre
  have hA : ∀ w ∈ AL, w.before _ s = true := fun w h => hts w (List.mem_cons_of_mem _ h)
  have hown : s.vm.findClass RX9 = some m.cls := findClass_of_methodNamed B.named
  have hlocks := B.notSynchronized
  have hS : va_S (ty_A sz) s.heap s.heap [] := va_S.rf
  have hl := lv_entry ([.ref h0, .int p1, .int p2]) (n := 8) (Nat.le_of_ble_eq_true rfl)
  rw [lg_entry_eq]
  generalize (lg_sl ([.ref h0, .int p1, .int p2]) ++ List.replicate (8 - (lg_sl ([.ref h0, .int p1, .int p2])).length) Slot.unset).toArray = ls at hl ⊢
  have hl : lv_has ls 8 [(0, .ref h0), (1, .int p1), (2, .int p2)] := hl
  refine lv_aload_n hx hb dX9_fees_0 rfl (lv_at hl 0 rfl) ?_
  refine ty_iconst hx hb (0) dX9_fees_1 (by decide) (fun x1 h2 => ?_)
  refine put_X9_0 hx hb hA hown hE hG hS hU t_h0 wd_4_130 dX9_fees_2 (fun H locs hG hS => ?_)
  refine lv_iload_n hx hb dX9_fees_5 rfl (lv_at hl 1 rfl) ?_
  refine ty_iconst hx hb (1) dX9_fees_6 (by decide) (fun x3 h4 => ?_)
  refine ty_ldc_w hx hb (999999) hown (hA _ wd_5_214) dX9_fees_7 (by decide) (fun x5 h6 => ?_)
  refine cI (va_runS (As := [.int p1, .int x3, .int x5]) (rest := []) ⟨hx, hb, hml, hown, hA⟩ (k_X9_within l dC dI dA sz X Γ hU (gs g 100 0 x1.toInt) p1 x3 x5   ) ⟨callB_of 3 hA (al_A wd_5_38) rfl rfl rfl (hA _ wd_1_7) (hA _ wd_5_36) (by decide +kernel) ⟨Nat.le_of_ble_eq_true rfl, Nat.le_of_ble_eq_true rfl⟩, hA _ wd_5_37⟩ ⟨bl, fun U hU9 hW9 => ⟨rfl, by rw [hU9]; exact hG, hE.go hS hU9 hW9⟩⟩ rfl rfl hl.1 rfl (lv_room (Nat.le_of_ble_eq_true rfl)) dX9_fees_10 ⟨Nat.zero_le _, Nat.zero_le _⟩) hS (fun x9 u7 H locs w8 hG hS => ?_)
  obtain ⟨eu10, w8⟩ := w8
  rw [eu10] at hG
  refine ty_if_eq (tgt := 25) hx hb dX9_fees_13 (by decide) (fun c11 => ?_) (fun c11 => ?_)
  · skip
    refine ty_iconst hx hb (-1) dX9_fees_25 (by decide) (fun x12 h13 => ?_)
    exact W.iret (v := x12) hx hb hr (fun t ht hW => ⟨⟨x12, (gs g 100 0 x1.toInt), rfl, (fun c j h100 h146 => by rw [gs_c _ _ _ _ h100]), ok1 ht hG⟩, hS.F ht⟩) hS.2.2 dX9_fees_26
  · skip
    refine lv_iload_n hx hb dX9_fees_16 rfl (lv_at hl 2 rfl) ?_
    refine ty_iconst hx hb (0) dX9_fees_17 (by decide) (fun x14 h15 => ?_)
    refine ty_iconst hx hb (2) dX9_fees_18 (by decide) (fun x16 h17 => ?_)
    refine cI (va_runS (As := [.int p2, .int x14, .int x16]) (rest := []) ⟨hx, hb, hml, hown, hA⟩ (k_X9_within l dC dI dA sz X Γ hU (gs g 100 0 x1.toInt) p2 x14 x16   ) ⟨callB_of 3 hA (al_A wd_5_38) rfl rfl rfl (hA _ wd_1_7) (hA _ wd_5_36) (by decide +kernel) ⟨Nat.le_of_ble_eq_true rfl, Nat.le_of_ble_eq_true rfl⟩, hA _ wd_5_37⟩ ⟨bl, fun U hU9 hW9 => ⟨rfl, by rw [hU9]; exact hG, hE.go hS hU9 hW9⟩⟩ rfl rfl hl.1 rfl (lv_room (Nat.le_of_ble_eq_true rfl)) dX9_fees_19 ⟨Nat.zero_le _, Nat.zero_le _⟩) hS (fun x20 u18 H locs w19 hG hS => ?_)
    obtain ⟨eu21, w19⟩ := w19
    rw [eu21] at hG
    refine ty_if_ne (tgt := 27) hx hb dX9_fees_22 (by decide) (fun c22 => ?_) (fun c22 => ?_)
    · skip
      refine ty_iconst hx hb (0) dX9_fees_27 (by decide) (fun x23 h24 => ?_)
      refine lv_istore_n (lv' := [(3, .int x23), (0, .ref h0), (1, .int p1), (2, .int p2)]) hx hb dX9_fees_28 rfl hl (by decide) rfl (fun ls hl => ?_)
      have e26 : (gs g 100 0 x1.toInt) 104 0 = g 104 0 := by rw [gs_c _ _ _ _ (by decide)]
      have L_29 : ∀ (n : Nat) (v3_29 : Int32) (g25 : gh) (H : Heap) (locs : List Loc) (ls : Array Slot), (g25 104 0 - v3_29.toInt : Int) < n → 0 ≤ v3_29.toInt ∧ v3_29.toInt ≤ g25 104 0 → (∀ c j : Nat, c ≠ 146 → g25 c j = (gs g 100 0 x1.toInt) c j) → ty_ok (dC, dI) vwCl Γ (TP dA Γ g25) sz X H → va_S (ty_A sz) s.heap H locs → lv_has ls 8 [(3, .int v3_29), (0, .ref h0), (1, .int p1), (2, .int p2)] → W p l e (headSpec (.code yX9_fees cX9_fees 8 (Option.some Jvm.ClassFile.FieldType.int) :: AL) ({ frames := 2, cells := 0, slots := 0, locals := 45 })).room s m ([.ref h0, .int p1, .int p2] : List Value).toArray below meth c H locs 0 0 (MQ below (va_Qi (fun (r : Int32) (u : gh) => (∀ c j : Nat, c ≠ 100 → c ≠ 146 → u c j = g c j)) (okb dC dI dA sz X Γ) (ty_A sz)) ([.ref h0, .int p1, .int p2] : List Value).toArray s 0 0 (ty_A sz)) (F0 m 29 ls []) := by
        intro n
        induction n with
        | zero => intro v3_29 g25 H locs ls hm hi0 hf27 hG hS hl; exfalso; omega
        | succ n ih_29 =>
          intro v3_29 g25 H locs ls hm hi0 hf27 hG hS hl
          have hk28 : g25 104 0 = (gs g 100 0 x1.toInt) 104 0 := hf27 104 0 (by decide)
          replace hk28 : g25 104 0 = g 104 0 := by rw [hk28, gs_c _ _ _ _ (by decide)]
          refine lv_iload_n hx hb dX9_fees_29 rfl (lv_at hl 0 rfl) ?_
          refine lv_aload_n hx hb dX9_fees_30 rfl (lv_at hl 1 rfl) ?_
          refine get_X9_4 hx hb hA hown hE hG t_h0 wd_4_134 dX9_fees_31 (fun x29 h30 => ?_)
          refine ty_icmp_ge (tgt := 62) hx hb dX9_fees_34 (by decide) (fun c32 => ?_) (fun c32 => ?_)
          · skip
            refine ty_iconst hx hb (0) dX9_fees_62 (by decide) (fun x33 h34 => ?_)
            refine lv_istore_n (lv' := [(3, .int x33), (0, .ref h0), (1, .int p1), (2, .int p2)]) hx hb dX9_fees_63 rfl hl (by decide) rfl (fun ls hl => ?_)
            refine ty_iconst hx hb (0) dX9_fees_64 (by decide) (fun x35 h36 => ?_)
            refine lv_istore (lv' := [(4, .int x35), (3, .int x33), (0, .ref h0), (1, .int p1), (2, .int p2)]) hx hb dX9_fees_65 hl (by decide) rfl (fun ls hl => ?_)
            refine ty_iconst hx hb (1) dX9_fees_67 (by decide) (fun x37 h38 => ?_)
            refine lv_istore (lv' := [(5, .int x37), (4, .int x35), (3, .int x33), (0, .ref h0), (1, .int p1), (2, .int p2)]) hx hb dX9_fees_68 hl (by decide) rfl (fun ls hl => ?_)
            have L_70 : ∀ (n : Nat) (v5_70 : Int32) (v4_70 : Int32) (v3_70 : Int32) (g39 : gh) (H : Heap) (locs : List Loc) (ls : Array Slot), ((cnt (g39 104 0).toNat (g39 146) 1 : Int) + v5_70.toInt : Int) < n → v5_70.toInt = 0 ∨ v5_70.toInt = 1 → (∀ c j : Nat, c ≠ 146 → g39 c j = g25 c j) → ty_ok (dC, dI) vwCl Γ (TP dA Γ g39) sz X H → va_S (ty_A sz) s.heap H locs → lv_has ls 8 [(5, .int v5_70), (4, .int v4_70), (3, .int v3_70), (0, .ref h0), (1, .int p1), (2, .int p2)] → W p l e (headSpec (.code yX9_fees cX9_fees 8 (Option.some Jvm.ClassFile.FieldType.int) :: AL) ({ frames := 2, cells := 0, slots := 0, locals := 45 })).room s m ([.ref h0, .int p1, .int p2] : List Value).toArray below meth c H locs 0 0 (MQ below (va_Qi (fun (r : Int32) (u : gh) => (∀ c j : Nat, c ≠ 100 → c ≠ 146 → u c j = g c j)) (okb dC dI dA sz X Γ) (ty_A sz)) ([.ref h0, .int p1, .int p2] : List Value).toArray s 0 0 (ty_A sz)) (F0 m 70 ls []) := by
              intro n
              induction n with
              | zero => intro v5_70 v4_70 v3_70 g39 H locs ls hm hi0 hf40 hG hS hl; exfalso; omega
              | succ n ih_70 =>
                intro v5_70 v4_70 v3_70 g39 H locs ls hm hi0 hf40 hG hS hl
                have hk41 : g39 104 0 = g25 104 0 := hf40 104 0 (by decide)
                refine lv_iload hx hb dX9_fees_70 (lv_at hl 0 rfl) ?_
                refine ty_if_eq (tgt := 169) hx hb dX9_fees_72 (by decide) (fun c42 => ?_) (fun c42 => ?_)
                · skip
                  refine ty_iconst hx hb (0) dX9_fees_169 (by decide) (fun x43 h44 => ?_)
                  refine lv_istore (lv' := [(6, .int x43), (5, .int v5_70), (4, .int v4_70), (3, .int v3_70), (0, .ref h0), (1, .int p1), (2, .int p2)]) hx hb dX9_fees_170 hl (by decide) rfl (fun ls hl => ?_)
                  refine ty_iconst hx hb (0) dX9_fees_172 (by decide) (fun x45 h46 => ?_)
                  refine lv_istore (lv' := [(7, .int x45), (6, .int x43), (5, .int v5_70), (4, .int v4_70), (3, .int v3_70), (0, .ref h0), (1, .int p1), (2, .int p2)]) hx hb dX9_fees_173 hl (by decide) rfl (fun ls hl => ?_)
                  have L_175 : ∀ (n : Nat) (v7_175 : Int32) (v6_175 : Int32) (H : Heap) (locs : List Loc) (ls : Array Slot), (g39 104 0 - v7_175.toInt : Int) < n → 0 ≤ v7_175.toInt ∧ v7_175.toInt ≤ g39 104 0 → ty_ok (dC, dI) vwCl Γ (TP dA Γ g39) sz X H → va_S (ty_A sz) s.heap H locs → lv_has ls 8 [(7, .int v7_175), (6, .int v6_175), (5, .int v5_70), (4, .int v4_70), (3, .int v3_70), (0, .ref h0), (1, .int p1), (2, .int p2)] → W p l e (headSpec (.code yX9_fees cX9_fees 8 (Option.some Jvm.ClassFile.FieldType.int) :: AL) ({ frames := 2, cells := 0, slots := 0, locals := 45 })).room s m ([.ref h0, .int p1, .int p2] : List Value).toArray below meth c H locs 0 0 (MQ below (va_Qi (fun (r : Int32) (u : gh) => (∀ c j : Nat, c ≠ 100 → c ≠ 146 → u c j = g c j)) (okb dC dI dA sz X Γ) (ty_A sz)) ([.ref h0, .int p1, .int p2] : List Value).toArray s 0 0 (ty_A sz)) (F0 m 175 ls []) := by
                    intro n
                    induction n with
                    | zero => intro v7_175 v6_175 H locs ls hm hi0 hG hS hl; exfalso; omega
                    | succ n ih_175 =>
                      intro v7_175 v6_175 H locs ls hm hi0 hG hS hl
                      refine lv_iload hx hb dX9_fees_175 (lv_at hl 0 rfl) ?_
                      refine lv_aload_n hx hb dX9_fees_177 rfl (lv_at hl 5 rfl) ?_
                      refine get_X9_4 hx hb hA hown hE hG t_h0 wd_4_134 dX9_fees_178 (fun x48 h49 => ?_)
                      refine ty_icmp_ge (tgt := 203) hx hb dX9_fees_181 (by decide) (fun c51 => ?_) (fun c51 => ?_)
                      · skip
                        refine lv_iload_n hx hb dX9_fees_203 rfl (lv_at hl 7 rfl) ?_
                        refine ty_if_ne (tgt := 212) hx hb dX9_fees_204 (by decide) (fun c52 => ?_) (fun c52 => ?_)
                        · skip
                          refine lv_iload_n hx hb dX9_fees_212 rfl (lv_at hl 7 rfl) ?_
                          refine ty_iconst hx hb (1) dX9_fees_213 (by decide) (fun x53 h54 => ?_)
                          refine ty_icmp_ne (tgt := 221) hx hb dX9_fees_214 (by decide) (fun c55 => ?_) (fun c55 => ?_)
                          · skip
                            refine lv_iload hx hb dX9_fees_221 (lv_at hl 1 rfl) ?_
                            exact W.iret (v := v6_175) hx hb hr (fun t ht hW => ⟨⟨v6_175, g39, rfl, (fun c j h100 h146 => by rw [hf40 c j h146, hf27 c j h146, gs_c _ _ _ _ h100]), ok1 ht hG⟩, hS.F ht⟩) hS.2.2 dX9_fees_223
                          · skip
                            refine lv_iload_n hx hb dX9_fees_217 rfl (lv_at hl 4 rfl) ?_
                            refine lv_goto (tgt := 223) hx hb dX9_fees_218 (by decide) ?_
                            exact W.iret (v := v3_70) hx hb hr (fun t ht hW => ⟨⟨v3_70, g39, rfl, (fun c j h100 h146 => by rw [hf40 c j h146, hf27 c j h146, gs_c _ _ _ _ h100]), ok1 ht hG⟩, hS.F ht⟩) hS.2.2 dX9_fees_223
                        · skip
                          refine lv_iload hx hb dX9_fees_207 (lv_at hl 3 rfl) ?_
                          refine lv_goto (tgt := 223) hx hb dX9_fees_209 (by decide) ?_
                          exact W.iret (v := v4_70) hx hb hr (fun t ht hW => ⟨⟨v4_70, g39, rfl, (fun c j h100 h146 => by rw [hf40 c j h146, hf27 c j h146, gs_c _ _ _ _ h100]), ok1 ht hG⟩, hS.F ht⟩) hS.2.2 dX9_fees_223
                      · skip
                        refine lv_aload_n hx hb dX9_fees_184 rfl (lv_at hl 5 rfl) ?_
                        refine get_X9_46 hx hb hA hown hE hG t_h0 wd_4_176 dX9_fees_185 (fun b56 (t_b56 : ty Γ b56 146) => ?_)
                        refine lv_iload hx hb dX9_fees_188 (lv_at hl 0 rfl) ?_
                        refine ald_mZ hx hb hE hG 46 rfl (n := 10) rfl (lo := 0) (hi := 1) rfl rfl t_b56 (by omega) dX9_fees_190 (fun j58 x57 h59 h60 h61 => ?_)
                        obtain rfl : j58 = v7_175.toInt.toNat := by omega
                        replace h60 : x57.toInt = g39 146 v7_175.toInt.toNat := h60
                        refine ty_if_eq (tgt := 197) hx hb dX9_fees_191 (by decide) (fun c62 => ?_) (fun c62 => ?_)
                        · skip
                          obtain ⟨x63, h64⟩ : ∃ y : Int32, y = v7_175 + Int32.ofInt (1) := ⟨_, rfl⟩
                          try have h65 : x63.toInt = v7_175.toInt + (1) := ty_inc h64 (by decide) (by omega) (by omega)
                          refine lv_iinc (v := x63) (lv' := [(7, .int x63), (6, .int v6_175), (5, .int v5_70), (4, .int v4_70), (3, .int v3_70), (0, .ref h0), (1, .int p1), (2, .int p2)]) hx hb dX9_fees_197 hl (k := 0) rfl h64.symm (by decide) rfl (fun ls hl => ?_)
                          refine lv_goto (tgt := 175) hx hb dX9_fees_200 (by decide) ?_
                          exact ih_175 x63 v6_175 _ _ ls (by omega) (by omega) hG hS (lv_sub hl [0, 1, 2, 3, 4, 5, 6, 7] rfl)
                        · skip
                          obtain ⟨x66, h67⟩ : ∃ y : Int32, y = v6_175 + Int32.ofInt (1) := ⟨_, rfl⟩
                          try have h68 : x66.toInt = v6_175.toInt + (1) := ty_inc h67 (by decide) (by omega) (by omega)
                          refine lv_iinc (v := x66) (lv' := [(6, .int x66), (7, .int v7_175), (5, .int v5_70), (4, .int v4_70), (3, .int v3_70), (0, .ref h0), (1, .int p1), (2, .int p2)]) hx hb dX9_fees_194 hl (k := 1) rfl h67.symm (by decide) rfl (fun ls hl => ?_)
                          obtain ⟨x69, h70⟩ : ∃ y : Int32, y = v7_175 + Int32.ofInt (1) := ⟨_, rfl⟩
                          try have h71 : x69.toInt = v7_175.toInt + (1) := ty_inc h70 (by decide) (by omega) (by omega)
                          refine lv_iinc (v := x69) (lv' := [(7, .int x69), (6, .int x66), (5, .int v5_70), (4, .int v4_70), (3, .int v3_70), (0, .ref h0), (1, .int p1), (2, .int p2)]) hx hb dX9_fees_197 hl (k := 1) rfl h70.symm (by decide) rfl (fun ls hl => ?_)
                          refine lv_goto (tgt := 175) hx hb dX9_fees_200 (by decide) ?_
                          exact ih_175 x69 x66 _ _ ls (by omega) (by omega) hG hS (lv_sub hl [0, 1, 2, 3, 4, 5, 6, 7] rfl)
                  exact L_175 ((g39 104 0 - x45.toInt) + 1).toNat x45 x43 _ _ ls (by omega) (by omega) hG hS (lv_sub hl [0, 1, 2, 3, 4, 5, 6, 7] rfl)
                · skip
                  refine lv_aload_n hx hb dX9_fees_75 rfl (lv_at hl 3 rfl) ?_
                  refine cI (va_runV (C := RX9) (As := []) (rest := []) ⟨hx, hb, hml, hown, hA⟩ (k_X9_weeksThatStay l dC dI dA sz X Γ hU g39 h0 t_h0   (by omega)) ⟨callB_of 0 hA (al_A wd_5_222) rfl rfl rfl (hA _ wd_1_7) (hA _ wd_5_219) (by decide +kernel) ⟨Nat.le_of_ble_eq_true rfl, Nat.le_of_ble_eq_true rfl⟩, hA _ wd_5_221, hA _ ws_58⟩ ⟨bl, recv_X9 hE hG t_h0, fun U hU9 hW9 => ⟨rfl, by rw [hU9]; exact hG, hE.go hS hU9 hW9⟩⟩ rfl rfl hl.1 rfl (lv_room (Nat.le_of_ble_eq_true rfl)) dX9_fees_76 ⟨Nat.zero_le _, Nat.zero_le _⟩) hS (fun x74 u72 H locs w73 hG hS => ?_)
                  have eu75 := w73
                  rw [eu75] at hG
                  refine lv_istore (lv' := [(6, .int x74), (5, .int v5_70), (4, .int v4_70), (3, .int v3_70), (0, .ref h0), (1, .int p1), (2, .int p2)]) hx hb dX9_fees_79 hl (by decide) rfl (fun ls hl => ?_)
                  refine lv_iload hx hb dX9_fees_81 (lv_at hl 0 rfl) ?_
                  refine ty_if_ne (tgt := 90) hx hb dX9_fees_83 (by decide) (fun c76 => ?_) (fun c76 => ?_)
                  · skip
                    refine lv_iload_n hx hb dX9_fees_90 rfl (lv_at hl 5 rfl) ?_
                    refine lv_iload hx hb dX9_fees_91 (lv_at hl 0 rfl) ?_
                    refine ty_iadd hx hb dX9_fees_93 (fun x77 h78 => ?_)
                    try have h79 : x77.toInt = p1.toInt + x74.toInt := ty_add h78 (by omega) (by omega)
                    refine ty_iconst hx hb (1) dX9_fees_94 (by decide) (fun x80 h81 => ?_)
                    refine ty_isub hx hb dX9_fees_95 (fun x82 h83 => ?_)
                    try have h84 : x82.toInt = x77.toInt - x80.toInt := ty_sub h83 (by omega) (by omega)
                    refine lv_iload hx hb dX9_fees_96 (lv_at hl 0 rfl) ?_
                    refine lv_idiv hx hb dX9_fees_98 (fun h0 => by have := ty_c0.mp h0; omega) ?_
                    refine lv_topi (fun x85 h86 => ?_)
                    refine lv_istore (lv' := [(4, .int x85), (6, .int x74), (5, .int v5_70), (3, .int v3_70), (0, .ref h0), (1, .int p1), (2, .int p2)]) hx hb dX9_fees_99 hl (by decide) rfl (fun ls hl => ?_)
                    refine ty_iconst hx hb (0) dX9_fees_101 (by decide) (fun x87 h88 => ?_)
                    refine lv_istore (lv' := [(5, .int x87), (4, .int x85), (6, .int x74), (3, .int v3_70), (0, .ref h0), (1, .int p1), (2, .int p2)]) hx hb dX9_fees_102 hl (by decide) rfl (fun ls hl => ?_)
                    refine ty_iconst hx hb (0) dX9_fees_104 (by decide) (fun x89 h90 => ?_)
                    refine lv_istore (lv' := [(7, .int x89), (5, .int x87), (4, .int x85), (6, .int x74), (3, .int v3_70), (0, .ref h0), (1, .int p1), (2, .int p2)]) hx hb dX9_fees_105 hl (by decide) rfl (fun ls hl => ?_)
                    have L_107 : ∀ (n : Nat) (v7_107 : Int32) (v5_107 : Int32) (g91 : gh) (H : Heap) (locs : List Loc) (ls : Array Slot), (g91 104 0 - v7_107.toInt : Int) < n → 0 ≤ v7_107.toInt ∧ v7_107.toInt ≤ g91 104 0 → v5_107.toInt = 0 ∨ v5_107.toInt = 1 → (cnt (g91 104 0).toNat (g91 146) 1 : Int) + v5_107.toInt ≤ (cnt (g39 104 0).toNat (g39 146) 1 : Int) → (∀ c j : Nat, c ≠ 146 → g91 c j = g39 c j) → ty_ok (dC, dI) vwCl Γ (TP dA Γ g91) sz X H → va_S (ty_A sz) s.heap H locs → lv_has ls 8 [(7, .int v7_107), (5, .int v5_107), (4, .int x85), (6, .int x74), (3, .int v3_70), (0, .ref h0), (1, .int p1), (2, .int p2)] → W p l e (headSpec (.code yX9_fees cX9_fees 8 (Option.some Jvm.ClassFile.FieldType.int) :: AL) ({ frames := 2, cells := 0, slots := 0, locals := 45 })).room s m ([.ref h0, .int p1, .int p2] : List Value).toArray below meth c H locs 0 0 (MQ below (va_Qi (fun (r : Int32) (u : gh) => (∀ c j : Nat, c ≠ 100 → c ≠ 146 → u c j = g c j)) (okb dC dI dA sz X Γ) (ty_A sz)) ([.ref h0, .int p1, .int p2] : List Value).toArray s 0 0 (ty_A sz)) (F0 m 107 ls []) := by
                      intro n
                      induction n with
                      | zero => intro v7_107 v5_107 g91 H locs ls hm hi0 hi1 hi2 hf92 hG hS hl; exfalso; omega
                      | succ n ih_107 =>
                        intro v7_107 v5_107 g91 H locs ls hm hi0 hi1 hi2 hf92 hG hS hl
                        have hk93 : g91 104 0 = g39 104 0 := hf92 104 0 (by decide)
                        refine lv_iload hx hb dX9_fees_107 (lv_at hl 0 rfl) ?_
                        refine lv_aload_n hx hb dX9_fees_109 rfl (lv_at hl 5 rfl) ?_
                        refine get_X9_4 hx hb hA hown hE hG t_h0 wd_4_134 dX9_fees_110 (fun x94 h95 => ?_)
                        refine ty_icmp_ge (tgt := 158) hx hb dX9_fees_113 (by decide) (fun c97 => ?_) (fun c97 => ?_)
                        · skip
                          refine lv_iload hx hb dX9_fees_158 (lv_at hl 1 rfl) ?_
                          refine ty_if_eq (tgt := 166) hx hb dX9_fees_160 (by decide) (fun c98 => ?_) (fun c98 => ?_)
                          · skip
                            refine lv_goto (tgt := 70) hx hb dX9_fees_166 (by decide) ?_
                            exact ih_70 v5_107 x85 v3_70 g91 _ _ ls (by omega) (by omega) (fun c j h146 => by rw [hf92 c j h146, hf40 c j h146]) hG hS (lv_sub hl [1, 2, 4, 5, 6, 7] rfl)
                          · skip
                            obtain ⟨x99, h100⟩ : ∃ y : Int32, y = v3_70 + Int32.ofInt (1) := ⟨_, rfl⟩
                            try have h101 : x99.toInt = v3_70.toInt + (1) := ty_inc h100 (by decide) (by omega) (by omega)
                            refine lv_iinc (v := x99) (lv' := [(3, .int x99), (7, .int v7_107), (5, .int v5_107), (4, .int x85), (6, .int x74), (0, .ref h0), (1, .int p1), (2, .int p2)]) hx hb dX9_fees_163 hl (k := 4) rfl h100.symm (by decide) rfl (fun ls hl => ?_)
                            refine lv_goto (tgt := 70) hx hb dX9_fees_166 (by decide) ?_
                            exact ih_70 v5_107 x85 x99 g91 _ _ ls (by omega) (by omega) (fun c j h146 => by rw [hf92 c j h146, hf40 c j h146]) hG hS (lv_sub hl [2, 3, 0, 5, 6, 7] rfl)
                        · skip
                          refine lv_aload_n hx hb dX9_fees_116 rfl (lv_at hl 5 rfl) ?_
                          refine get_X9_46 hx hb hA hown hE hG t_h0 wd_4_176 dX9_fees_117 (fun b102 (t_b102 : ty Γ b102 146) => ?_)
                          refine lv_iload hx hb dX9_fees_120 (lv_at hl 0 rfl) ?_
                          refine ald_mZ hx hb hE hG 46 rfl (n := 10) rfl (lo := 0) (hi := 1) rfl rfl t_b102 (by omega) dX9_fees_122 (fun j104 x103 h105 h106 h107 => ?_)
                          obtain rfl : j104 = v7_107.toInt.toNat := by omega
                          replace h106 : x103.toInt = g91 146 v7_107.toInt.toNat := h106
                          refine ty_if_eq (tgt := 152) hx hb dX9_fees_123 (by decide) (fun c108 => ?_) (fun c108 => ?_)
                          · skip
                            obtain ⟨x109, h110⟩ : ∃ y : Int32, y = v7_107 + Int32.ofInt (1) := ⟨_, rfl⟩
                            try have h111 : x109.toInt = v7_107.toInt + (1) := ty_inc h110 (by decide) (by omega) (by omega)
                            refine lv_iinc (v := x109) (lv' := [(7, .int x109), (5, .int v5_107), (4, .int x85), (6, .int x74), (3, .int v3_70), (0, .ref h0), (1, .int p1), (2, .int p2)]) hx hb dX9_fees_152 hl (k := 0) rfl h110.symm (by decide) rfl (fun ls hl => ?_)
                            refine lv_goto (tgt := 107) hx hb dX9_fees_155 (by decide) ?_
                            exact ih_107 x109 v5_107 g91 _ _ ls (by omega) (by omega) (by omega) (by omega) (fun c j h146 => by rw [hf92 c j h146]) hG hS (lv_sub hl [0, 1, 2, 3, 4, 5, 6, 7] rfl)
                          · skip
                            refine lv_aload_n hx hb dX9_fees_126 rfl (lv_at hl 5 rfl) ?_
                            refine get_X9_5 hx hb hA hown hE hG t_h0 wd_4_135 dX9_fees_127 (fun b112 (t_b112 : ty Γ b112 105) => ?_)
                            refine lv_iload hx hb dX9_fees_130 (lv_at hl 0 rfl) ?_
                            refine ald_mI hx hb hE hG 5 rfl (n := 10) rfl (lo := -2147483648) (hi := 2147483647) rfl rfl t_b112 (by omega) dX9_fees_132 (fun j114 x113 h115 h116 h117 => ?_)
                            clear h117
                            obtain rfl : j114 = v7_107.toInt.toNat := by omega
                            replace h116 : x113.toInt = g91 105 v7_107.toInt.toNat := h116
                            have hk118 : g91 105 v7_107.toInt.toNat = g39 105 v7_107.toInt.toNat := hf92 105 v7_107.toInt.toNat (by decide)
                            have hk119 : g39 105 v7_107.toInt.toNat = g25 105 v7_107.toInt.toNat := hf40 105 v7_107.toInt.toNat (by decide)
                            have hk120 : g25 105 v7_107.toInt.toNat = (gs g 100 0 x1.toInt) 105 v7_107.toInt.toNat := hf27 105 v7_107.toInt.toNat (by decide)
                            replace hk120 : g25 105 v7_107.toInt.toNat = g 105 v7_107.toInt.toNat := by rw [hk120, gs_c _ _ _ _ (by decide)]
                            refine lv_iload hx hb dX9_fees_133 (lv_at hl 2 rfl) ?_
                            refine ty_icmp_lt (tgt := 141) hx hb dX9_fees_135 (by decide) (fun c121 => ?_) (fun c121 => ?_)
                            · skip
                              refine lv_aload_n hx hb dX9_fees_141 rfl (lv_at hl 5 rfl) ?_
                              refine get_X9_46 hx hb hA hown hE hG t_h0 wd_4_176 dX9_fees_142 (fun b122 (t_b122 : ty Γ b122 146) => ?_)
                              refine lv_iload hx hb dX9_fees_145 (lv_at hl 0 rfl) ?_
                              refine ty_iconst hx hb (0) dX9_fees_147 (by decide) (fun x123 h124 => ?_)
                              refine ast_mZ hx hb hE hG hS hU 46 rfl (n := 10) rfl (lo := 0) (hi := 1) rfl rfl rfl t_b122 (by omega) (by omega) (by omega) dX9_fees_148 (fun H locs hG hS => ?_)
                              refine ty_iconst hx hb (1) dX9_fees_149 (by decide) (fun x125 h126 => ?_)
                              refine lv_istore (lv' := [(5, .int x125), (7, .int v7_107), (4, .int x85), (6, .int x74), (3, .int v3_70), (0, .ref h0), (1, .int p1), (2, .int p2)]) hx hb dX9_fees_150 hl (by decide) rfl (fun ls hl => ?_)
                              have hc127 := cnt_gs g91 146 (x123.toInt) 1 (j := v7_107.toInt.toNat) (n := (g91 104 0).toNat) (by omega)
                              have hm128 : cnt ((gs g91 146 v7_107.toInt.toNat x123.toInt) 104 0).toNat ((gs g91 146 v7_107.toInt.toNat x123.toInt) 146) 1 = cnt (g91 104 0).toNat ((gs g91 146 v7_107.toInt.toNat x123.toInt) 146) 1 := by rw [gs_c _ _ _ _ (by decide)]
                              obtain ⟨x129, h130⟩ : ∃ y : Int32, y = v7_107 + Int32.ofInt (1) := ⟨_, rfl⟩
                              try have h131 : x129.toInt = v7_107.toInt + (1) := ty_inc h130 (by decide) (by omega) (by omega)
                              refine lv_iinc (v := x129) (lv' := [(7, .int x129), (5, .int x125), (4, .int x85), (6, .int x74), (3, .int v3_70), (0, .ref h0), (1, .int p1), (2, .int p2)]) hx hb dX9_fees_152 hl (k := 1) rfl h130.symm (by decide) rfl (fun ls hl => ?_)
                              refine lv_goto (tgt := 107) hx hb dX9_fees_155 (by decide) ?_
                              have e132 : (gs g91 146 v7_107.toInt.toNat x123.toInt) 104 0 = g91 104 0 := by rw [gs_c _ _ _ _ (by decide)]
                              exact ih_107 x129 x125 (gs g91 146 v7_107.toInt.toNat x123.toInt) _ _ ls (by omega) (by omega) (by omega) (by omega) (fun c j h146 => by rw [gs_c _ _ _ _ h146, hf92 c j h146]) hG hS (lv_sub hl [0, 1, 2, 3, 4, 5, 6, 7] rfl)
                            · skip
                              refine lv_goto (tgt := 152) hx hb dX9_fees_138 (by decide) ?_
                              obtain ⟨x133, h134⟩ : ∃ y : Int32, y = v7_107 + Int32.ofInt (1) := ⟨_, rfl⟩
                              try have h135 : x133.toInt = v7_107.toInt + (1) := ty_inc h134 (by decide) (by omega) (by omega)
                              refine lv_iinc (v := x133) (lv' := [(7, .int x133), (5, .int v5_107), (4, .int x85), (6, .int x74), (3, .int v3_70), (0, .ref h0), (1, .int p1), (2, .int p2)]) hx hb dX9_fees_152 hl (k := 0) rfl h134.symm (by decide) rfl (fun ls hl => ?_)
                              refine lv_goto (tgt := 107) hx hb dX9_fees_155 (by decide) ?_
                              exact ih_107 x133 v5_107 g91 _ _ ls (by omega) (by omega) (by omega) (by omega) (fun c j h146 => by rw [hf92 c j h146]) hG hS (lv_sub hl [0, 1, 2, 3, 4, 5, 6, 7] rfl)
                    exact L_107 ((g39 104 0 - x89.toInt) + 1).toNat x89 x87 g39 _ _ ls (by omega) (by omega) (by omega) (by omega) (fun c j _ => rfl) hG hS (lv_sub hl [0, 1, 2, 3, 4, 5, 6, 7] rfl)
                  · skip
                    refine ty_iconst hx hb (0) dX9_fees_86 (by decide) (fun x136 h137 => ?_)
                    refine lv_goto (tgt := 99) hx hb dX9_fees_87 (by decide) ?_
                    refine lv_istore (lv' := [(4, .int x136), (6, .int x74), (5, .int v5_70), (3, .int v3_70), (0, .ref h0), (1, .int p1), (2, .int p2)]) hx hb dX9_fees_99 hl (by decide) rfl (fun ls hl => ?_)
                    refine ty_iconst hx hb (0) dX9_fees_101 (by decide) (fun x138 h139 => ?_)
                    refine lv_istore (lv' := [(5, .int x138), (4, .int x136), (6, .int x74), (3, .int v3_70), (0, .ref h0), (1, .int p1), (2, .int p2)]) hx hb dX9_fees_102 hl (by decide) rfl (fun ls hl => ?_)
                    refine ty_iconst hx hb (0) dX9_fees_104 (by decide) (fun x140 h141 => ?_)
                    refine lv_istore (lv' := [(7, .int x140), (5, .int x138), (4, .int x136), (6, .int x74), (3, .int v3_70), (0, .ref h0), (1, .int p1), (2, .int p2)]) hx hb dX9_fees_105 hl (by decide) rfl (fun ls hl => ?_)
                    have L_107 : ∀ (n : Nat) (v7_107 : Int32) (v5_107 : Int32) (g142 : gh) (H : Heap) (locs : List Loc) (ls : Array Slot), (g142 104 0 - v7_107.toInt : Int) < n → 0 ≤ v7_107.toInt ∧ v7_107.toInt ≤ g142 104 0 → v5_107.toInt = 0 ∨ v5_107.toInt = 1 → (cnt (g142 104 0).toNat (g142 146) 1 : Int) + v5_107.toInt ≤ (cnt (g39 104 0).toNat (g39 146) 1 : Int) → (∀ c j : Nat, c ≠ 146 → g142 c j = g39 c j) → ty_ok (dC, dI) vwCl Γ (TP dA Γ g142) sz X H → va_S (ty_A sz) s.heap H locs → lv_has ls 8 [(7, .int v7_107), (5, .int v5_107), (4, .int x136), (6, .int x74), (3, .int v3_70), (0, .ref h0), (1, .int p1), (2, .int p2)] → W p l e (headSpec (.code yX9_fees cX9_fees 8 (Option.some Jvm.ClassFile.FieldType.int) :: AL) ({ frames := 2, cells := 0, slots := 0, locals := 45 })).room s m ([.ref h0, .int p1, .int p2] : List Value).toArray below meth c H locs 0 0 (MQ below (va_Qi (fun (r : Int32) (u : gh) => (∀ c j : Nat, c ≠ 100 → c ≠ 146 → u c j = g c j)) (okb dC dI dA sz X Γ) (ty_A sz)) ([.ref h0, .int p1, .int p2] : List Value).toArray s 0 0 (ty_A sz)) (F0 m 107 ls []) := by
                      intro n
                      induction n with
                      | zero => intro v7_107 v5_107 g142 H locs ls hm hi0 hi1 hi2 hf143 hG hS hl; exfalso; omega
                      | succ n ih_107 =>
                        intro v7_107 v5_107 g142 H locs ls hm hi0 hi1 hi2 hf143 hG hS hl
                        have hk144 : g142 104 0 = g39 104 0 := hf143 104 0 (by decide)
                        refine lv_iload hx hb dX9_fees_107 (lv_at hl 0 rfl) ?_
                        refine lv_aload_n hx hb dX9_fees_109 rfl (lv_at hl 5 rfl) ?_
                        refine get_X9_4 hx hb hA hown hE hG t_h0 wd_4_134 dX9_fees_110 (fun x145 h146 => ?_)
                        refine ty_icmp_ge (tgt := 158) hx hb dX9_fees_113 (by decide) (fun c148 => ?_) (fun c148 => ?_)
                        · skip
                          refine lv_iload hx hb dX9_fees_158 (lv_at hl 1 rfl) ?_
                          refine ty_if_eq (tgt := 166) hx hb dX9_fees_160 (by decide) (fun c149 => ?_) (fun c149 => ?_)
                          · skip
                            refine lv_goto (tgt := 70) hx hb dX9_fees_166 (by decide) ?_
                            exact ih_70 v5_107 x136 v3_70 g142 _ _ ls (by omega) (by omega) (fun c j h146 => by rw [hf143 c j h146, hf40 c j h146]) hG hS (lv_sub hl [1, 2, 4, 5, 6, 7] rfl)
                          · skip
                            obtain ⟨x150, h151⟩ : ∃ y : Int32, y = v3_70 + Int32.ofInt (1) := ⟨_, rfl⟩
                            try have h152 : x150.toInt = v3_70.toInt + (1) := ty_inc h151 (by decide) (by omega) (by omega)
                            refine lv_iinc (v := x150) (lv' := [(3, .int x150), (7, .int v7_107), (5, .int v5_107), (4, .int x136), (6, .int x74), (0, .ref h0), (1, .int p1), (2, .int p2)]) hx hb dX9_fees_163 hl (k := 4) rfl h151.symm (by decide) rfl (fun ls hl => ?_)
                            refine lv_goto (tgt := 70) hx hb dX9_fees_166 (by decide) ?_
                            exact ih_70 v5_107 x136 x150 g142 _ _ ls (by omega) (by omega) (fun c j h146 => by rw [hf143 c j h146, hf40 c j h146]) hG hS (lv_sub hl [2, 3, 0, 5, 6, 7] rfl)
                        · skip
                          refine lv_aload_n hx hb dX9_fees_116 rfl (lv_at hl 5 rfl) ?_
                          refine get_X9_46 hx hb hA hown hE hG t_h0 wd_4_176 dX9_fees_117 (fun b153 (t_b153 : ty Γ b153 146) => ?_)
                          refine lv_iload hx hb dX9_fees_120 (lv_at hl 0 rfl) ?_
                          refine ald_mZ hx hb hE hG 46 rfl (n := 10) rfl (lo := 0) (hi := 1) rfl rfl t_b153 (by omega) dX9_fees_122 (fun j155 x154 h156 h157 h158 => ?_)
                          obtain rfl : j155 = v7_107.toInt.toNat := by omega
                          replace h157 : x154.toInt = g142 146 v7_107.toInt.toNat := h157
                          refine ty_if_eq (tgt := 152) hx hb dX9_fees_123 (by decide) (fun c159 => ?_) (fun c159 => ?_)
                          · skip
                            obtain ⟨x160, h161⟩ : ∃ y : Int32, y = v7_107 + Int32.ofInt (1) := ⟨_, rfl⟩
                            try have h162 : x160.toInt = v7_107.toInt + (1) := ty_inc h161 (by decide) (by omega) (by omega)
                            refine lv_iinc (v := x160) (lv' := [(7, .int x160), (5, .int v5_107), (4, .int x136), (6, .int x74), (3, .int v3_70), (0, .ref h0), (1, .int p1), (2, .int p2)]) hx hb dX9_fees_152 hl (k := 0) rfl h161.symm (by decide) rfl (fun ls hl => ?_)
                            refine lv_goto (tgt := 107) hx hb dX9_fees_155 (by decide) ?_
                            exact ih_107 x160 v5_107 g142 _ _ ls (by omega) (by omega) (by omega) (by omega) (fun c j h146 => by rw [hf143 c j h146]) hG hS (lv_sub hl [0, 1, 2, 3, 4, 5, 6, 7] rfl)
                          · skip
                            refine lv_aload_n hx hb dX9_fees_126 rfl (lv_at hl 5 rfl) ?_
                            refine get_X9_5 hx hb hA hown hE hG t_h0 wd_4_135 dX9_fees_127 (fun b163 (t_b163 : ty Γ b163 105) => ?_)
                            refine lv_iload hx hb dX9_fees_130 (lv_at hl 0 rfl) ?_
                            refine ald_mI hx hb hE hG 5 rfl (n := 10) rfl (lo := -2147483648) (hi := 2147483647) rfl rfl t_b163 (by omega) dX9_fees_132 (fun j165 x164 h166 h167 h168 => ?_)
                            clear h168
                            obtain rfl : j165 = v7_107.toInt.toNat := by omega
                            replace h167 : x164.toInt = g142 105 v7_107.toInt.toNat := h167
                            have hk169 : g142 105 v7_107.toInt.toNat = g39 105 v7_107.toInt.toNat := hf143 105 v7_107.toInt.toNat (by decide)
                            have hk170 : g39 105 v7_107.toInt.toNat = g25 105 v7_107.toInt.toNat := hf40 105 v7_107.toInt.toNat (by decide)
                            have hk171 : g25 105 v7_107.toInt.toNat = (gs g 100 0 x1.toInt) 105 v7_107.toInt.toNat := hf27 105 v7_107.toInt.toNat (by decide)
                            replace hk171 : g25 105 v7_107.toInt.toNat = g 105 v7_107.toInt.toNat := by rw [hk171, gs_c _ _ _ _ (by decide)]
                            refine lv_iload hx hb dX9_fees_133 (lv_at hl 2 rfl) ?_
                            refine ty_icmp_lt (tgt := 141) hx hb dX9_fees_135 (by decide) (fun c172 => ?_) (fun c172 => ?_)
                            · skip
                              refine lv_aload_n hx hb dX9_fees_141 rfl (lv_at hl 5 rfl) ?_
                              refine get_X9_46 hx hb hA hown hE hG t_h0 wd_4_176 dX9_fees_142 (fun b173 (t_b173 : ty Γ b173 146) => ?_)
                              refine lv_iload hx hb dX9_fees_145 (lv_at hl 0 rfl) ?_
                              refine ty_iconst hx hb (0) dX9_fees_147 (by decide) (fun x174 h175 => ?_)
                              refine ast_mZ hx hb hE hG hS hU 46 rfl (n := 10) rfl (lo := 0) (hi := 1) rfl rfl rfl t_b173 (by omega) (by omega) (by omega) dX9_fees_148 (fun H locs hG hS => ?_)
                              refine ty_iconst hx hb (1) dX9_fees_149 (by decide) (fun x176 h177 => ?_)
                              refine lv_istore (lv' := [(5, .int x176), (7, .int v7_107), (4, .int x136), (6, .int x74), (3, .int v3_70), (0, .ref h0), (1, .int p1), (2, .int p2)]) hx hb dX9_fees_150 hl (by decide) rfl (fun ls hl => ?_)
                              have hc178 := cnt_gs g142 146 (x174.toInt) 1 (j := v7_107.toInt.toNat) (n := (g142 104 0).toNat) (by omega)
                              have hm179 : cnt ((gs g142 146 v7_107.toInt.toNat x174.toInt) 104 0).toNat ((gs g142 146 v7_107.toInt.toNat x174.toInt) 146) 1 = cnt (g142 104 0).toNat ((gs g142 146 v7_107.toInt.toNat x174.toInt) 146) 1 := by rw [gs_c _ _ _ _ (by decide)]
                              obtain ⟨x180, h181⟩ : ∃ y : Int32, y = v7_107 + Int32.ofInt (1) := ⟨_, rfl⟩
                              try have h182 : x180.toInt = v7_107.toInt + (1) := ty_inc h181 (by decide) (by omega) (by omega)
                              refine lv_iinc (v := x180) (lv' := [(7, .int x180), (5, .int x176), (4, .int x136), (6, .int x74), (3, .int v3_70), (0, .ref h0), (1, .int p1), (2, .int p2)]) hx hb dX9_fees_152 hl (k := 1) rfl h181.symm (by decide) rfl (fun ls hl => ?_)
                              refine lv_goto (tgt := 107) hx hb dX9_fees_155 (by decide) ?_
                              have e183 : (gs g142 146 v7_107.toInt.toNat x174.toInt) 104 0 = g142 104 0 := by rw [gs_c _ _ _ _ (by decide)]
                              exact ih_107 x180 x176 (gs g142 146 v7_107.toInt.toNat x174.toInt) _ _ ls (by omega) (by omega) (by omega) (by omega) (fun c j h146 => by rw [gs_c _ _ _ _ h146, hf143 c j h146]) hG hS (lv_sub hl [0, 1, 2, 3, 4, 5, 6, 7] rfl)
                            · skip
                              refine lv_goto (tgt := 152) hx hb dX9_fees_138 (by decide) ?_
                              obtain ⟨x184, h185⟩ : ∃ y : Int32, y = v7_107 + Int32.ofInt (1) := ⟨_, rfl⟩
                              try have h186 : x184.toInt = v7_107.toInt + (1) := ty_inc h185 (by decide) (by omega) (by omega)
                              refine lv_iinc (v := x184) (lv' := [(7, .int x184), (5, .int v5_107), (4, .int x136), (6, .int x74), (3, .int v3_70), (0, .ref h0), (1, .int p1), (2, .int p2)]) hx hb dX9_fees_152 hl (k := 0) rfl h185.symm (by decide) rfl (fun ls hl => ?_)
                              refine lv_goto (tgt := 107) hx hb dX9_fees_155 (by decide) ?_
                              exact ih_107 x184 v5_107 g142 _ _ ls (by omega) (by omega) (by omega) (by omega) (fun c j h146 => by rw [hf143 c j h146]) hG hS (lv_sub hl [0, 1, 2, 3, 4, 5, 6, 7] rfl)
                    exact L_107 ((g39 104 0 - x140.toInt) + 1).toNat x140 x138 g39 _ _ ls (by omega) (by omega) (by omega) (by omega) (fun c j _ => rfl) hG hS (lv_sub hl [0, 1, 2, 3, 4, 5, 6, 7] rfl)
            exact L_70 (((cnt (g25 104 0).toNat (g25 146) 1 : Int) + x37.toInt) + 1).toNat x37 x35 x33 g25 _ _ ls (by omega) (by omega) (fun c j _ => rfl) hG hS (lv_sub hl [0, 1, 2, 3, 4, 5] rfl)
          · skip
            refine lv_aload_n hx hb dX9_fees_37 rfl (lv_at hl 1 rfl) ?_
            refine get_X9_46 hx hb hA hown hE hG t_h0 wd_4_176 dX9_fees_38 (fun b187 (t_b187 : ty Γ b187 146) => ?_)
            refine lv_iload_n hx hb dX9_fees_41 rfl (lv_at hl 0 rfl) ?_
            refine lv_aload_n hx hb dX9_fees_42 rfl (lv_at hl 1 rfl) ?_
            refine lv_iload_n hx hb dX9_fees_43 rfl (lv_at hl 0 rfl) ?_
            refine cI (va_runV (C := RX9) (As := [.int v3_29]) (rest := [.int v3_29, .ref b187]) ⟨hx, hb, hml, hown, hA⟩ (k_X9_owned l dC dI dA sz X Γ hU g25 h0 t_h0 v3_29   ) ⟨callB_of 1 hA (al_A wd_5_218) rfl rfl rfl (hA _ wd_1_7) (hA _ wd_5_215) (by decide +kernel) ⟨Nat.le_of_ble_eq_true rfl, Nat.le_of_ble_eq_true rfl⟩, hA _ wd_5_217, hA _ ws_57⟩ ⟨bl, recv_X9 hE hG t_h0, fun U hU9 hW9 => ⟨rfl, by rw [hU9]; exact hG, hE.go hS hU9 hW9⟩⟩ rfl rfl hl.1 rfl (lv_room (Nat.le_of_ble_eq_true rfl)) dX9_fees_44 ⟨Nat.zero_le _, Nat.zero_le _⟩) hS (fun x190 u188 H locs w189 hG hS => ?_)
            obtain ⟨eu191, w189⟩ := w189
            rw [eu191] at hG
            rw [show g25 109 = (g 109) by rw [(show g25 109 = (gs g 100 0 x1.toInt) 109 from funext fun j => hf27 109 j (by decide)), gs_r _ _ _ (by decide)]] at w189
            refine ty_if_le (tgt := 54) hx hb dX9_fees_47 (by decide) (fun c192 => ?_) (fun c192 => ?_)
            · skip
              refine ty_iconst hx hb (0) dX9_fees_54 (by decide) (fun x193 h194 => ?_)
              refine ast_mZ hx hb hE hG hS hU 46 rfl (n := 10) rfl (lo := 0) (hi := 1) rfl rfl rfl t_b187 (by omega) (by omega) (by omega) dX9_fees_55 (fun H locs hG hS => ?_)
              obtain ⟨x195, h196⟩ : ∃ y : Int32, y = v3_29 + Int32.ofInt (1) := ⟨_, rfl⟩
              try have h197 : x195.toInt = v3_29.toInt + (1) := ty_inc h196 (by decide) (by omega) (by omega)
              refine lv_iinc (v := x195) (lv' := [(3, .int x195), (0, .ref h0), (1, .int p1), (2, .int p2)]) hx hb dX9_fees_56 hl (k := 0) rfl h196.symm (by decide) rfl (fun ls hl => ?_)
              refine lv_goto (tgt := 29) hx hb dX9_fees_59 (by decide) ?_
              have e198 : (gs g25 146 v3_29.toInt.toNat x193.toInt) 104 0 = g25 104 0 := by rw [gs_c _ _ _ _ (by decide)]
              exact ih_29 x195 (gs g25 146 v3_29.toInt.toNat x193.toInt) _ _ ls (by omega) (by omega) (fun c j h146 => by rw [gs_c _ _ _ _ h146, hf27 c j h146]) hG hS (lv_sub hl [0, 1, 2, 3] rfl)
            · skip
              refine ty_iconst hx hb (1) dX9_fees_50 (by decide) (fun x199 h200 => ?_)
              refine lv_goto (tgt := 55) hx hb dX9_fees_51 (by decide) ?_
              refine ast_mZ hx hb hE hG hS hU 46 rfl (n := 10) rfl (lo := 0) (hi := 1) rfl rfl rfl t_b187 (by omega) (by omega) (by omega) dX9_fees_55 (fun H locs hG hS => ?_)
              obtain ⟨x201, h202⟩ : ∃ y : Int32, y = v3_29 + Int32.ofInt (1) := ⟨_, rfl⟩
              try have h203 : x201.toInt = v3_29.toInt + (1) := ty_inc h202 (by decide) (by omega) (by omega)
              refine lv_iinc (v := x201) (lv' := [(3, .int x201), (0, .ref h0), (1, .int p1), (2, .int p2)]) hx hb dX9_fees_56 hl (k := 0) rfl h202.symm (by decide) rfl (fun ls hl => ?_)
              refine lv_goto (tgt := 29) hx hb dX9_fees_59 (by decide) ?_
              have e204 : (gs g25 146 v3_29.toInt.toNat x199.toInt) 104 0 = g25 104 0 := by rw [gs_c _ _ _ _ (by decide)]
              exact ih_29 x201 (gs g25 146 v3_29.toInt.toNat x199.toInt) _ _ ls (by omega) (by omega) (fun c j h146 => by rw [gs_c _ _ _ _ h146, hf27 c j h146]) hG hS (lv_sub hl [0, 1, 2, 3] rfl)
      have e205 : (gs g 100 0 x1.toInt) 104 0 = g 104 0 := by rw [gs_c _ _ _ _ (by decide)]
      exact L_29 (((gs g 100 0 x1.toInt) 104 0 - x23.toInt) + 1).toNat x23 (gs g 100 0 x1.toInt) _ _ ls (by omega) (by omega) (fun c j _ => rfl) hG hS (lv_sub hl [0, 1, 2, 3] rfl)
    · skip
      refine ty_iconst hx hb (-1) dX9_fees_25 (by decide) (fun x206 h207 => ?_)
      exact W.iret (v := x206) hx hb hr (fun t ht hW => ⟨⟨x206, (gs g 100 0 x1.toInt), rfl, (fun c j h100 h146 => by rw [gs_c _ _ _ _ h100]), ok1 ht hG⟩, hS.F ht⟩) hS.2.2 dX9_fees_26

set_option maxHeartbeats 4000000 in
set_option maxRecDepth 100000 in
/-- WeekBankModel.party:  -/
theorem k_X9_party (l : Launch) (dC : Nat → ClassId) (dI : Nat → Nat → Nat) (dA : Nat → ClassId) (sz : Nat) (X : va_W) (Γ : ty_G) (hU : Un Γ) (g : gh) (h0 : Nat) (t_h0 : ty Γ h0 30) (p1 : Int32) (p2 : Int32) (m1 : 0 ≤ g 101 0 ∧ g 101 0 ≤ 6) (m26 : 0 ≤ g 126 0 ∧ g 126 0 ≤ 200) : Met l yX9_party (.code yX9_party cX9_party 4 (Option.some Jvm.ClassFile.FieldType.int) :: AL) ({ frames := 2, cells := 0, slots := 0, locals := 44 }) (PCx dC dI dA sz X Γ g [.ref h0, .int p1, .int p2]) (va_Qi (fun (r : Int32) (u : gh) => (∀ c j : Nat, c ≠ 100 → u c j = g c j) ∧ ((r.toInt = pt_c (g 101 0) (g 109) (ga_f (g 128) (g 129) (g 130) p1.toInt p2.toInt (g 111 0) (g 126 0).toNat) (g 132) (g 134) p1.toInt p2.toInt))) (okb dC dI dA sz X Γ) (ty_A sz)) 0 0 (ty_A sz) := by
  refine Met.ofW (cc := cX9_party) (maxL := 4) (ret := (Option.some Jvm.ClassFile.FieldType.int)) (by decide) rfl ?_
  intro p e s m args below meth c s₁ B hml hv
  obtain ⟨rfl, hG, hE⟩ := hv
  have hx := B.exec
  have hb := B.bytes
  have hr := B.returns
  have hts := atoms_spec B.pre
  have hA : ∀ w ∈ AL, w.before _ s = true := fun w h => hts w (List.mem_cons_of_mem _ h)
  have hown : s.vm.findClass RX9 = some m.cls := findClass_of_methodNamed B.named
  have hlocks := B.notSynchronized
  have hS : va_S (ty_A sz) s.heap s.heap [] := va_S.rf
  have hl := lv_entry ([.ref h0, .int p1, .int p2]) (n := 4) (Nat.le_of_ble_eq_true rfl)
  rw [lg_entry_eq]
  generalize (lg_sl ([.ref h0, .int p1, .int p2]) ++ List.replicate (4 - (lg_sl ([.ref h0, .int p1, .int p2])).length) Slot.unset).toArray = ls at hl ⊢
  have hl : lv_has ls 4 [(0, .ref h0), (1, .int p1), (2, .int p2)] := hl
  refine lv_aload_n hx hb dX9_party_0 rfl (lv_at hl 0 rfl) ?_
  refine ty_iconst hx hb (0) dX9_party_1 (by decide) (fun x1 h2 => ?_)
  refine put_X9_0 hx hb hA hown hE hG hS hU t_h0 wd_4_130 dX9_party_2 (fun H locs hG hS => ?_)
  refine lv_aload_n hx hb dX9_party_5 rfl (lv_at hl 0 rfl) ?_
  refine lv_iload_n hx hb dX9_party_6 rfl (lv_at hl 1 rfl) ?_
  refine lv_iload_n hx hb dX9_party_7 rfl (lv_at hl 2 rfl) ?_
  have e3 : (gs g 100 0 x1.toInt) 101 0 = g 101 0 := by rw [gs_c _ _ _ _ (by decide)]
  refine cI (va_runV (C := RX9) (As := [.int p1, .int p2]) (rest := []) ⟨hx, hb, hml, hown, hA⟩ (k_X9_isPlace l dC dI dA sz X Γ hU (gs g 100 0 x1.toInt) h0 t_h0 p1 p2   ) ⟨callB_of 2 hA (al_A wd_5_50) rfl rfl rfl (hA _ wd_1_7) (hA _ wd_5_47) (by decide +kernel) ⟨Nat.le_of_ble_eq_true rfl, Nat.le_of_ble_eq_true rfl⟩, hA _ wd_5_49, hA _ ws_36⟩ ⟨bl, recv_X9 hE hG t_h0, fun U hU9 hW9 => ⟨rfl, by rw [hU9]; exact hG, hE.go hS hU9 hW9⟩⟩ rfl rfl hl.1 rfl (lv_room (Nat.le_of_ble_eq_true rfl)) dX9_party_8 ⟨Nat.zero_le _, Nat.zero_le _⟩) hS (fun x6 u4 H locs w5 hG hS => ?_)
  obtain ⟨eu7, w5⟩ := w5
  rw [eu7] at hG
  refine ty_if_ne (tgt := 16) hx hb dX9_party_11 (by decide) (fun c8 => ?_) (fun c8 => ?_)
  · skip
    refine lv_aload_n hx hb dX9_party_16 rfl (lv_at hl 0 rfl) ?_
    refine lv_iload_n hx hb dX9_party_17 rfl (lv_at hl 1 rfl) ?_
    refine lv_iload_n hx hb dX9_party_18 rfl (lv_at hl 2 rfl) ?_
    have e9 : (gs g 100 0 x1.toInt) 126 0 = g 126 0 := by rw [gs_c _ _ _ _ (by decide)]
    have e10 : (gs g 100 0 x1.toInt) 126 0 = g 126 0 := by rw [gs_c _ _ _ _ (by decide)]
    refine cI (va_runV (C := RX9) (As := [.int p1, .int p2]) (rest := []) ⟨hx, hb, hml, hown, hA⟩ (k_X9_givenAt l dC dI dA sz X Γ hU (gs g 100 0 x1.toInt) h0 t_h0 p1 p2   (by omega)) ⟨callB_of 2 hA (al_A wd_5_58) rfl rfl rfl (hA _ wd_1_7) (hA _ wd_5_55) (by decide +kernel) ⟨Nat.le_of_ble_eq_true rfl, Nat.le_of_ble_eq_true rfl⟩, hA _ wd_5_57, hA _ ws_38⟩ ⟨bl, recv_X9 hE hG t_h0, fun U hU9 hW9 => ⟨rfl, by rw [hU9]; exact hG, hE.go hS hU9 hW9⟩⟩ rfl rfl hl.1 rfl (lv_room (Nat.le_of_ble_eq_true rfl)) dX9_party_19 ⟨Nat.zero_le _, Nat.zero_le _⟩) hS (fun x13 u11 H locs w12 hG hS => ?_)
    obtain ⟨eu14, w12⟩ := w12
    rw [eu14] at hG
    rw [show (gs g 100 0 x1.toInt) 128 = (g 128) by rw [gs_r _ _ _ (by decide)]] at w12
    rw [show (gs g 100 0 x1.toInt) 129 = (g 129) by rw [gs_r _ _ _ (by decide)]] at w12
    rw [show (gs g 100 0 x1.toInt) 130 = (g 130) by rw [gs_r _ _ _ (by decide)]] at w12
    rw [show (gs g 100 0 x1.toInt) 111 = (g 111) by rw [gs_r _ _ _ (by decide)]] at w12
    rw [show (gs g 100 0 x1.toInt) 126 = (g 126) by rw [gs_r _ _ _ (by decide)]] at w12
    refine lv_istore_n (lv' := [(3, .int x13), (0, .ref h0), (1, .int p1), (2, .int p2)]) hx hb dX9_party_22 rfl hl (by decide) rfl (fun ls hl => ?_)
    refine lv_iload_n hx hb dX9_party_23 rfl (lv_at hl 0 rfl) ?_
    refine ty_iconst hx hb (-1) dX9_party_24 (by decide) (fun x15 h16 => ?_)
    refine ty_icmp_eq (tgt := 38) hx hb dX9_party_25 (by decide) (fun c17 => ?_) (fun c17 => ?_)
    · skip
      refine lv_aload_n hx hb dX9_party_38 rfl (lv_at hl 1 rfl) ?_
      refine get_X9_9 hx hb hA hown hE hG t_h0 wd_4_139 dX9_party_39 (fun b18 (t_b18 : ty Γ b18 109) => ?_)
      refine ty_bipush hx hb (53) dX9_party_42 (by decide) (fun x19 h20 => ?_)
      refine lv_iload_n hx hb dX9_party_44 rfl (lv_at hl 2 rfl) ?_
      refine ty_imul hx hb dX9_party_45 (fun x21 h22 => ?_)
      try have h23 : x21.toInt = 53 * p1.toInt := ty_mull h22 (by omega) (by omega) (by omega)
      refine lv_iload_n hx hb dX9_party_46 rfl (lv_at hl 3 rfl) ?_
      refine ty_iadd hx hb dX9_party_47 (fun x24 h25 => ?_)
      try have h26 : x24.toInt = x21.toInt + p2.toInt := ty_add h25 (by omega) (by omega)
      refine ald_mI hx hb hE hG 9 rfl (n := 318) rfl (lo := -2147483648) (hi := 2147483647) rfl rfl t_b18 (by omega) dX9_party_48 (fun j28 x27 h29 h30 h31 => ?_)
      clear h31
      obtain rfl : j28 = x24.toInt.toNat := by omega
      rw [gs_c _ _ _ _ (by decide)] at h30
      replace h30 : x27.toInt = g 109 x24.toInt.toNat := h30
      replace h30 : x27.toInt = g 109 (53 * p1.toInt.toNat + p2.toInt.toNat) := by rw [h30, show x24.toInt.toNat = (53 * p1.toInt.toNat + p2.toInt.toNat) by omega]
      exact W.iret (v := x27) hx hb hr (fun t ht hW => ⟨⟨x27, (gs g 100 0 x1.toInt), rfl, ⟨(fun c j h100 => by rw [gs_c _ _ _ _ h100]), (by unfold pt_c; rw [if_neg (by omega), if_neg (by omega)]; omega)⟩, ok1 ht hG⟩, hS.F ht⟩) hS.2.2 dX9_party_49
    · skip
      refine lv_aload_n hx hb dX9_party_28 rfl (lv_at hl 1 rfl) ?_
      refine get_X9_32 hx hb hA hown hE hG t_h0 wd_4_162 dX9_party_29 (fun b32 (t_b32 : ty Γ b32 132) => ?_)
      refine lv_iload_n hx hb dX9_party_32 rfl (lv_at hl 0 rfl) ?_
      refine ald_mI hx hb hE hG 32 rfl (n := 200) rfl (lo := 0) (hi := 5) rfl rfl t_b32 (by omega) dX9_party_33 (fun j34 x33 h35 h36 h37 => ?_)
      obtain rfl : j34 = x13.toInt.toNat := by omega
      rw [gs_c _ _ _ _ (by decide)] at h36
      replace h36 : x33.toInt = g 132 x13.toInt.toNat := h36
      replace h36 : x33.toInt = g 132 ((ga_f (g 128) (g 129) (g 130) p1.toInt p2.toInt (g 111 0) (g 126 0).toNat).toNat) := by rw [h36, show x13.toInt.toNat = ((ga_f (g 128) (g 129) (g 130) p1.toInt p2.toInt (g 111 0) (g 126 0).toNat).toNat) by omega]
      refine ty_iconst hx hb (4) dX9_party_34 (by decide) (fun x38 h39 => ?_)
      refine ty_icmp_lt (tgt := 50) hx hb dX9_party_35 (by decide) (fun c40 => ?_) (fun c40 => ?_)
      · skip
        refine lv_aload_n hx hb dX9_party_50 rfl (lv_at hl 1 rfl) ?_
        refine get_X9_32 hx hb hA hown hE hG t_h0 wd_4_162 dX9_party_51 (fun b41 (t_b41 : ty Γ b41 132) => ?_)
        refine lv_iload_n hx hb dX9_party_54 rfl (lv_at hl 0 rfl) ?_
        refine ald_mI hx hb hE hG 32 rfl (n := 200) rfl (lo := 0) (hi := 5) rfl rfl t_b41 (by omega) dX9_party_55 (fun j43 x42 h44 h45 h46 => ?_)
        obtain rfl : j43 = x13.toInt.toNat := by omega
        rw [gs_c _ _ _ _ (by decide)] at h45
        replace h45 : x42.toInt = g 132 x13.toInt.toNat := h45
        replace h45 : x42.toInt = g 132 ((ga_f (g 128) (g 129) (g 130) p1.toInt p2.toInt (g 111 0) (g 126 0).toNat).toNat) := by rw [h45, show x13.toInt.toNat = ((ga_f (g 128) (g 129) (g 130) p1.toInt p2.toInt (g 111 0) (g 126 0).toNat).toNat) by omega]
        refine ty_if_eq (tgt := 69) hx hb dX9_party_56 (by decide) (fun c47 => ?_) (fun c47 => ?_)
        · skip
          refine ty_bipush hx hb (-2) dX9_party_69 (by decide) (fun x48 h49 => ?_)
          refine lv_goto (tgt := 80) hx hb dX9_party_71 (by decide) ?_
          exact W.iret (v := x48) hx hb hr (fun t ht hW => ⟨⟨x48, (gs g 100 0 x1.toInt), rfl, ⟨(fun c j h100 => by rw [gs_c _ _ _ _ h100]), (by unfold pt_c; rw [if_neg (by omega), if_pos (by omega), if_neg (by omega)]; omega)⟩, ok1 ht hG⟩, hS.F ht⟩) hS.2.2 dX9_party_80
        · skip
          refine lv_aload_n hx hb dX9_party_59 rfl (lv_at hl 1 rfl) ?_
          refine get_X9_32 hx hb hA hown hE hG t_h0 wd_4_162 dX9_party_60 (fun b50 (t_b50 : ty Γ b50 132) => ?_)
          refine lv_iload_n hx hb dX9_party_63 rfl (lv_at hl 0 rfl) ?_
          refine ald_mI hx hb hE hG 32 rfl (n := 200) rfl (lo := 0) (hi := 5) rfl rfl t_b50 (by omega) dX9_party_64 (fun j52 x51 h53 h54 h55 => ?_)
          obtain rfl : j52 = x13.toInt.toNat := by omega
          rw [gs_c _ _ _ _ (by decide)] at h54
          replace h54 : x51.toInt = g 132 x13.toInt.toNat := h54
          replace h54 : x51.toInt = g 132 ((ga_f (g 128) (g 129) (g 130) p1.toInt p2.toInt (g 111 0) (g 126 0).toNat).toNat) := by rw [h54, show x13.toInt.toNat = ((ga_f (g 128) (g 129) (g 130) p1.toInt p2.toInt (g 111 0) (g 126 0).toNat).toNat) by omega]
          refine ty_iconst hx hb (2) dX9_party_65 (by decide) (fun x56 h57 => ?_)
          refine ty_icmp_ne (tgt := 74) hx hb dX9_party_66 (by decide) (fun c58 => ?_) (fun c58 => ?_)
          · skip
            refine lv_aload_n hx hb dX9_party_74 rfl (lv_at hl 1 rfl) ?_
            refine get_X9_34 hx hb hA hown hE hG t_h0 wd_4_164 dX9_party_75 (fun b59 (t_b59 : ty Γ b59 134) => ?_)
            refine lv_iload_n hx hb dX9_party_78 rfl (lv_at hl 0 rfl) ?_
            refine ald_mI hx hb hE hG 34 rfl (n := 200) rfl (lo := -1) (hi := 9) rfl rfl t_b59 (by omega) dX9_party_79 (fun j61 x60 h62 h63 h64 => ?_)
            obtain rfl : j61 = x13.toInt.toNat := by omega
            rw [gs_c _ _ _ _ (by decide)] at h63
            replace h63 : x60.toInt = g 134 x13.toInt.toNat := h63
            replace h63 : x60.toInt = g 134 ((ga_f (g 128) (g 129) (g 130) p1.toInt p2.toInt (g 111 0) (g 126 0).toNat).toNat) := by rw [h63, show x13.toInt.toNat = ((ga_f (g 128) (g 129) (g 130) p1.toInt p2.toInt (g 111 0) (g 126 0).toNat).toNat) by omega]
            exact W.iret (v := x60) hx hb hr (fun t ht hW => ⟨⟨x60, (gs g 100 0 x1.toInt), rfl, ⟨(fun c j h100 => by rw [gs_c _ _ _ _ h100]), (by unfold pt_c; rw [if_neg (by omega), if_pos (by omega), if_pos (by omega)]; omega)⟩, ok1 ht hG⟩, hS.F ht⟩) hS.2.2 dX9_party_80
          · skip
            refine ty_bipush hx hb (-2) dX9_party_69 (by decide) (fun x65 h66 => ?_)
            refine lv_goto (tgt := 80) hx hb dX9_party_71 (by decide) ?_
            exact W.iret (v := x65) hx hb hr (fun t ht hW => ⟨⟨x65, (gs g 100 0 x1.toInt), rfl, ⟨(fun c j h100 => by rw [gs_c _ _ _ _ h100]), (by unfold pt_c; rw [if_neg (by omega), if_pos (by omega), if_neg (by omega)]; omega)⟩, ok1 ht hG⟩, hS.F ht⟩) hS.2.2 dX9_party_80
      · skip
        refine lv_aload_n hx hb dX9_party_38 rfl (lv_at hl 1 rfl) ?_
        refine get_X9_9 hx hb hA hown hE hG t_h0 wd_4_139 dX9_party_39 (fun b67 (t_b67 : ty Γ b67 109) => ?_)
        refine ty_bipush hx hb (53) dX9_party_42 (by decide) (fun x68 h69 => ?_)
        refine lv_iload_n hx hb dX9_party_44 rfl (lv_at hl 2 rfl) ?_
        refine ty_imul hx hb dX9_party_45 (fun x70 h71 => ?_)
        try have h72 : x70.toInt = 53 * p1.toInt := ty_mull h71 (by omega) (by omega) (by omega)
        refine lv_iload_n hx hb dX9_party_46 rfl (lv_at hl 3 rfl) ?_
        refine ty_iadd hx hb dX9_party_47 (fun x73 h74 => ?_)
        try have h75 : x73.toInt = x70.toInt + p2.toInt := ty_add h74 (by omega) (by omega)
        refine ald_mI hx hb hE hG 9 rfl (n := 318) rfl (lo := -2147483648) (hi := 2147483647) rfl rfl t_b67 (by omega) dX9_party_48 (fun j77 x76 h78 h79 h80 => ?_)
        clear h80
        obtain rfl : j77 = x73.toInt.toNat := by omega
        rw [gs_c _ _ _ _ (by decide)] at h79
        replace h79 : x76.toInt = g 109 x73.toInt.toNat := h79
        replace h79 : x76.toInt = g 109 (53 * p1.toInt.toNat + p2.toInt.toNat) := by rw [h79, show x73.toInt.toNat = (53 * p1.toInt.toNat + p2.toInt.toNat) by omega]
        exact W.iret (v := x76) hx hb hr (fun t ht hW => ⟨⟨x76, (gs g 100 0 x1.toInt), rfl, ⟨(fun c j h100 => by rw [gs_c _ _ _ _ h100]), (by unfold pt_c; rw [if_neg (by omega), if_neg (by omega)]; omega)⟩, ok1 ht hG⟩, hS.F ht⟩) hS.2.2 dX9_party_49
  · skip
    refine ty_iconst hx hb (-1) dX9_party_14 (by decide) (fun x81 h82 => ?_)
    exact W.iret (v := x81) hx hb hr (fun t ht hW => ⟨⟨x81, (gs g 100 0 x1.toInt), rfl, ⟨(fun c j h100 => by rw [gs_c _ _ _ _ h100]), (by unfold pt_c; rw [if_pos (by omega)]; omega)⟩, ok1 ht hG⟩, hS.F ht⟩) hS.2.2 dX9_party_15

set_option maxHeartbeats 4000000 in
set_option maxRecDepth 100000 in
/-- WeekBankModel.of:  -/
theorem k_X9_of (l : Launch) (dC : Nat → ClassId) (dI : Nat → Nat → Nat) (dA : Nat → ClassId) (sz : Nat) (X : va_W) (Γ : ty_G) (hU : Un Γ) (g : gh) (h0 : Nat) (t_h0 : ty Γ h0 30) (p1 : Int32) (p2 : Int32) (m26 : 0 ≤ g 126 0 ∧ g 126 0 ≤ 200) : Met l yX9_of (.code yX9_of cX9_of 3 (Option.some Jvm.ClassFile.FieldType.int) :: AL) ({ frames := 1, cells := 0, slots := 0, locals := 22 }) (PCx dC dI dA sz X Γ g [.ref h0, .int p1, .int p2]) (va_Qi (fun (r : Int32) (u : gh) => (∀ c j : Nat, c ≠ 100 → u c j = g c j) ∧ (((0 ≤ p1.toInt ∧ p1.toInt < g 126 0 ∧ 0 ≤ p2.toInt ∧ p2.toInt ≤ 7) → r.toInt = of_c (g 127) (g 128) (g 129) (g 130) (g 131) (g 132) (g 133) (g 134) p1.toInt.toNat p2.toInt ∧ u 100 0 = 0) ∧ (¬ ((0 ≤ p1.toInt ∧ p1.toInt < g 126 0 ∧ 0 ≤ p2.toInt ∧ p2.toInt ≤ 7)) → r.toInt = 0 ∧ u 100 0 = 1))) (okb dC dI dA sz X Γ) (ty_A sz)) 0 0 (ty_A sz) := by
  refine Met.ofW (cc := cX9_of) (maxL := 3) (ret := (Option.some Jvm.ClassFile.FieldType.int)) (by decide) rfl ?_
  intro p e s m args below meth c s₁ B hml hv
  obtain ⟨rfl, hG, hE⟩ := hv
  have hx := B.exec
  have hb := B.bytes
  have hr := B.returns
  have hts := atoms_spec B.pre
  have hA : ∀ w ∈ AL, w.before _ s = true := fun w h => hts w (List.mem_cons_of_mem _ h)
  have hown : s.vm.findClass RX9 = some m.cls := findClass_of_methodNamed B.named
  have hlocks := B.notSynchronized
  have hS : va_S (ty_A sz) s.heap s.heap [] := va_S.rf
  have hl := lv_entry ([.ref h0, .int p1, .int p2]) (n := 3) (Nat.le_of_ble_eq_true rfl)
  rw [lg_entry_eq]
  generalize (lg_sl ([.ref h0, .int p1, .int p2]) ++ List.replicate (3 - (lg_sl ([.ref h0, .int p1, .int p2])).length) Slot.unset).toArray = ls at hl ⊢
  have hl : lv_has ls 3 [(0, .ref h0), (1, .int p1), (2, .int p2)] := hl
  refine lv_aload_n hx hb dX9_of_0 rfl (lv_at hl 0 rfl) ?_
  refine ty_iconst hx hb (0) dX9_of_1 (by decide) (fun x1 h2 => ?_)
  refine put_X9_0 hx hb hA hown hE hG hS hU t_h0 wd_4_130 dX9_of_2 (fun H locs hG hS => ?_)
  refine lv_iload_n hx hb dX9_of_5 rfl (lv_at hl 1 rfl) ?_
  refine ty_if_lt (tgt := 27) hx hb dX9_of_6 (by decide) (fun c3 => ?_) (fun c3 => ?_)
  · skip
    refine lv_aload_n hx hb dX9_of_27 rfl (lv_at hl 0 rfl) ?_
    refine ty_iconst hx hb (1) dX9_of_28 (by decide) (fun x4 h5 => ?_)
    refine put_X9_0 hx hb hA hown hE hG hS hU t_h0 wd_4_130 dX9_of_29 (fun H locs hG hS => ?_)
    refine ty_iconst hx hb (0) dX9_of_32 (by decide) (fun x6 h7 => ?_)
    have e8 : (gs (gs g 100 0 x1.toInt) 100 0 x4.toInt) 100 0 = x4.toInt := by rw [gs_self]
    exact W.iret (v := x6) hx hb hr (fun t ht hW => ⟨⟨x6, (gs (gs g 100 0 x1.toInt) 100 0 x4.toInt), rfl, ⟨(fun c j h100 => by rw [gs_c _ _ _ _ h100, gs_c _ _ _ _ h100]), (⟨fun q => absurd q (by omega), fun _ => ⟨(by omega), (by omega)⟩⟩)⟩, ok1 ht hG⟩, hS.F ht⟩) hS.2.2 dX9_of_33
  · skip
    refine lv_iload_n hx hb dX9_of_9 rfl (lv_at hl 1 rfl) ?_
    refine lv_aload_n hx hb dX9_of_10 rfl (lv_at hl 0 rfl) ?_
    refine get_X9_26 hx hb hA hown hE hG t_h0 wd_4_156 dX9_of_11 (fun x9 h10 => ?_)
    replace h10 : x9.toInt = g 126 0 := by rw [h10, gs_c _ _ _ _ (by decide)]
    refine ty_icmp_ge (tgt := 27) hx hb dX9_of_14 (by decide) (fun c12 => ?_) (fun c12 => ?_)
    · skip
      refine lv_aload_n hx hb dX9_of_27 rfl (lv_at hl 0 rfl) ?_
      refine ty_iconst hx hb (1) dX9_of_28 (by decide) (fun x13 h14 => ?_)
      refine put_X9_0 hx hb hA hown hE hG hS hU t_h0 wd_4_130 dX9_of_29 (fun H locs hG hS => ?_)
      refine ty_iconst hx hb (0) dX9_of_32 (by decide) (fun x15 h16 => ?_)
      have e17 : (gs (gs g 100 0 x1.toInt) 100 0 x13.toInt) 100 0 = x13.toInt := by rw [gs_self]
      exact W.iret (v := x15) hx hb hr (fun t ht hW => ⟨⟨x15, (gs (gs g 100 0 x1.toInt) 100 0 x13.toInt), rfl, ⟨(fun c j h100 => by rw [gs_c _ _ _ _ h100, gs_c _ _ _ _ h100]), (⟨fun q => absurd q (by omega), fun _ => ⟨(by omega), (by omega)⟩⟩)⟩, ok1 ht hG⟩, hS.F ht⟩) hS.2.2 dX9_of_33
    · skip
      refine lv_iload_n hx hb dX9_of_17 rfl (lv_at hl 2 rfl) ?_
      refine ty_iconst hx hb (0) dX9_of_18 (by decide) (fun x18 h19 => ?_)
      refine ty_bipush hx hb (7) dX9_of_19 (by decide) (fun x20 h21 => ?_)
      refine cI (va_runS (As := [.int p2, .int x18, .int x20]) (rest := []) ⟨hx, hb, hml, hown, hA⟩ (k_X9_within l dC dI dA sz X Γ hU (gs g 100 0 x1.toInt) p2 x18 x20   ) ⟨callB_of 3 hA (al_A wd_5_38) rfl rfl rfl (hA _ wd_1_7) (hA _ wd_5_36) (by decide +kernel) ⟨Nat.le_of_ble_eq_true rfl, Nat.le_of_ble_eq_true rfl⟩, hA _ wd_5_37⟩ ⟨bl, fun U hU9 hW9 => ⟨rfl, by rw [hU9]; exact hG, hE.go hS hU9 hW9⟩⟩ rfl rfl hl.1 rfl (lv_room (Nat.le_of_ble_eq_true rfl)) dX9_of_21 ⟨Nat.zero_le _, Nat.zero_le _⟩) hS (fun x24 u22 H locs w23 hG hS => ?_)
      obtain ⟨eu25, w23⟩ := w23
      rw [eu25] at hG
      refine ty_if_ne (tgt := 34) hx hb dX9_of_24 (by decide) (fun c26 => ?_) (fun c26 => ?_)
      · skip
        refine lv_iload_n hx hb dX9_of_34 rfl (lv_at hl 2 rfl) ?_
        by_cases c27 : p2.toInt < 0 ∨ 6 < p2.toInt
        · skip
          refine lv_tableOut (tgt := 139) hx hb dX9_of_35 c27 (by decide) ?_
          refine lv_aload_n hx hb dX9_of_139 rfl (lv_at hl 0 rfl) ?_
          refine get_X9_32 hx hb hA hown hE hG t_h0 wd_4_162 dX9_of_140 (fun b28 (t_b28 : ty Γ b28 132) => ?_)
          refine lv_iload_n hx hb dX9_of_143 rfl (lv_at hl 1 rfl) ?_
          refine ald_mI hx hb hE hG 32 rfl (n := 200) rfl (lo := 0) (hi := 5) rfl rfl t_b28 (by omega) dX9_of_144 (fun j30 x29 h31 h32 h33 => ?_)
          obtain rfl : j30 = p1.toInt.toNat := by omega
          rw [gs_c _ _ _ _ (by decide)] at h32
          replace h32 : x29.toInt = g 132 p1.toInt.toNat := h32
          refine ty_iconst hx hb (1) dX9_of_145 (by decide) (fun x34 h35 => ?_)
          refine ty_icmp_eq (tgt := 159) hx hb dX9_of_146 (by decide) (fun c36 => ?_) (fun c36 => ?_)
          · skip
            refine lv_aload_n hx hb dX9_of_159 rfl (lv_at hl 0 rfl) ?_
            refine get_X9_34 hx hb hA hown hE hG t_h0 wd_4_164 dX9_of_160 (fun b37 (t_b37 : ty Γ b37 134) => ?_)
            refine lv_iload_n hx hb dX9_of_163 rfl (lv_at hl 1 rfl) ?_
            refine ald_mI hx hb hE hG 34 rfl (n := 200) rfl (lo := -1) (hi := 9) rfl rfl t_b37 (by omega) dX9_of_164 (fun j39 x38 h40 h41 h42 => ?_)
            obtain rfl : j39 = p1.toInt.toNat := by omega
            rw [gs_c _ _ _ _ (by decide)] at h41
            replace h41 : x38.toInt = g 134 p1.toInt.toNat := h41
            refine lv_goto (tgt := 169) hx hb dX9_of_165 (by decide) ?_
            have e43 : (gs g 100 0 x1.toInt) 100 0 = x1.toInt := by rw [gs_self]
            exact W.iret (v := x38) hx hb hr (fun t ht hW => ⟨⟨x38, (gs g 100 0 x1.toInt), rfl, ⟨(fun c j h100 => by rw [gs_c _ _ _ _ h100]), (⟨fun _ => ⟨(by unfold of_c; rw [if_neg (by omega), if_neg (by omega), if_neg (by omega), if_neg (by omega), if_neg (by omega), if_neg (by omega), if_neg (by omega), if_pos (by omega)]; omega), (by omega)⟩, fun q => absurd (by omega) q⟩)⟩, ok1 ht hG⟩, hS.F ht⟩) hS.2.2 dX9_of_169
          · skip
            refine lv_aload_n hx hb dX9_of_149 rfl (lv_at hl 0 rfl) ?_
            refine get_X9_32 hx hb hA hown hE hG t_h0 wd_4_162 dX9_of_150 (fun b44 (t_b44 : ty Γ b44 132) => ?_)
            refine lv_iload_n hx hb dX9_of_153 rfl (lv_at hl 1 rfl) ?_
            refine ald_mI hx hb hE hG 32 rfl (n := 200) rfl (lo := 0) (hi := 5) rfl rfl t_b44 (by omega) dX9_of_154 (fun j46 x45 h47 h48 h49 => ?_)
            obtain rfl : j46 = p1.toInt.toNat := by omega
            rw [gs_c _ _ _ _ (by decide)] at h48
            replace h48 : x45.toInt = g 132 p1.toInt.toNat := h48
            refine ty_iconst hx hb (3) dX9_of_155 (by decide) (fun x50 h51 => ?_)
            refine ty_icmp_ne (tgt := 168) hx hb dX9_of_156 (by decide) (fun c52 => ?_) (fun c52 => ?_)
            · skip
              refine ty_iconst hx hb (-1) dX9_of_168 (by decide) (fun x53 h54 => ?_)
              have e55 : (gs g 100 0 x1.toInt) 100 0 = x1.toInt := by rw [gs_self]
              exact W.iret (v := x53) hx hb hr (fun t ht hW => ⟨⟨x53, (gs g 100 0 x1.toInt), rfl, ⟨(fun c j h100 => by rw [gs_c _ _ _ _ h100]), (⟨fun _ => ⟨(by unfold of_c; rw [if_neg (by omega), if_neg (by omega), if_neg (by omega), if_neg (by omega), if_neg (by omega), if_neg (by omega), if_neg (by omega), if_neg (by omega)]; omega), (by omega)⟩, fun q => absurd (by omega) q⟩)⟩, ok1 ht hG⟩, hS.F ht⟩) hS.2.2 dX9_of_169
            · skip
              refine lv_aload_n hx hb dX9_of_159 rfl (lv_at hl 0 rfl) ?_
              refine get_X9_34 hx hb hA hown hE hG t_h0 wd_4_164 dX9_of_160 (fun b56 (t_b56 : ty Γ b56 134) => ?_)
              refine lv_iload_n hx hb dX9_of_163 rfl (lv_at hl 1 rfl) ?_
              refine ald_mI hx hb hE hG 34 rfl (n := 200) rfl (lo := -1) (hi := 9) rfl rfl t_b56 (by omega) dX9_of_164 (fun j58 x57 h59 h60 h61 => ?_)
              obtain rfl : j58 = p1.toInt.toNat := by omega
              rw [gs_c _ _ _ _ (by decide)] at h60
              replace h60 : x57.toInt = g 134 p1.toInt.toNat := h60
              refine lv_goto (tgt := 169) hx hb dX9_of_165 (by decide) ?_
              have e62 : (gs g 100 0 x1.toInt) 100 0 = x1.toInt := by rw [gs_self]
              exact W.iret (v := x57) hx hb hr (fun t ht hW => ⟨⟨x57, (gs g 100 0 x1.toInt), rfl, ⟨(fun c j h100 => by rw [gs_c _ _ _ _ h100]), (⟨fun _ => ⟨(by unfold of_c; rw [if_neg (by omega), if_neg (by omega), if_neg (by omega), if_neg (by omega), if_neg (by omega), if_neg (by omega), if_neg (by omega), if_pos (by omega)]; omega), (by omega)⟩, fun q => absurd (by omega) q⟩)⟩, ok1 ht hG⟩, hS.F ht⟩) hS.2.2 dX9_of_169
        · skip
          rcases (show p2.toInt = 0 ∨ p2.toInt = 1 ∨ p2.toInt = 2 ∨ p2.toInt = 3 ∨ p2.toInt = 4 ∨ p2.toInt = 5 ∨ p2.toInt = 6 by omega) with q63 | q64 | q65 | q66 | q67 | q68 | q69
          · skip
            refine lv_tableIn (tgt := 76) (off := 41) hx hb dX9_of_35 (by omega) (by omega) (by rw [q63]; rfl) (by decide) ?_
            refine lv_aload_n hx hb dX9_of_76 rfl (lv_at hl 0 rfl) ?_
            refine get_X9_27 hx hb hA hown hE hG t_h0 wd_4_157 dX9_of_77 (fun b70 (t_b70 : ty Γ b70 127) => ?_)
            refine lv_iload_n hx hb dX9_of_80 rfl (lv_at hl 1 rfl) ?_
            refine ald_mI hx hb hE hG 27 rfl (n := 200) rfl (lo := 0) (hi := 9) rfl rfl t_b70 (by omega) dX9_of_81 (fun j72 x71 h73 h74 h75 => ?_)
            obtain rfl : j72 = p1.toInt.toNat := by omega
            rw [gs_c _ _ _ _ (by decide)] at h74
            replace h74 : x71.toInt = g 127 p1.toInt.toNat := h74
            have e76 : (gs g 100 0 x1.toInt) 100 0 = x1.toInt := by rw [gs_self]
            exact W.iret (v := x71) hx hb hr (fun t ht hW => ⟨⟨x71, (gs g 100 0 x1.toInt), rfl, ⟨(fun c j h100 => by rw [gs_c _ _ _ _ h100]), (⟨fun _ => ⟨(by unfold of_c; rw [if_pos (by omega)]; omega), (by omega)⟩, fun q => absurd (by omega) q⟩)⟩, ok1 ht hG⟩, hS.F ht⟩) hS.2.2 dX9_of_82
          · skip
            refine lv_tableIn (tgt := 83) (off := 48) hx hb dX9_of_35 (by omega) (by omega) (by rw [q64]; rfl) (by decide) ?_
            refine lv_aload_n hx hb dX9_of_83 rfl (lv_at hl 0 rfl) ?_
            refine get_X9_28 hx hb hA hown hE hG t_h0 wd_4_158 dX9_of_84 (fun b77 (t_b77 : ty Γ b77 128) => ?_)
            refine lv_iload_n hx hb dX9_of_87 rfl (lv_at hl 1 rfl) ?_
            refine ald_mI hx hb hE hG 28 rfl (n := 200) rfl (lo := 0) (hi := 5) rfl rfl t_b77 (by omega) dX9_of_88 (fun j79 x78 h80 h81 h82 => ?_)
            obtain rfl : j79 = p1.toInt.toNat := by omega
            rw [gs_c _ _ _ _ (by decide)] at h81
            replace h81 : x78.toInt = g 128 p1.toInt.toNat := h81
            have e83 : (gs g 100 0 x1.toInt) 100 0 = x1.toInt := by rw [gs_self]
            exact W.iret (v := x78) hx hb hr (fun t ht hW => ⟨⟨x78, (gs g 100 0 x1.toInt), rfl, ⟨(fun c j h100 => by rw [gs_c _ _ _ _ h100]), (⟨fun _ => ⟨(by unfold of_c; rw [if_neg (by omega), if_pos (by omega)]; omega), (by omega)⟩, fun q => absurd (by omega) q⟩)⟩, ok1 ht hG⟩, hS.F ht⟩) hS.2.2 dX9_of_89
          · skip
            refine lv_tableIn (tgt := 90) (off := 55) hx hb dX9_of_35 (by omega) (by omega) (by rw [q65]; rfl) (by decide) ?_
            refine lv_aload_n hx hb dX9_of_90 rfl (lv_at hl 0 rfl) ?_
            refine get_X9_29 hx hb hA hown hE hG t_h0 wd_4_159 dX9_of_91 (fun b84 (t_b84 : ty Γ b84 129) => ?_)
            refine lv_iload_n hx hb dX9_of_94 rfl (lv_at hl 1 rfl) ?_
            refine ald_mI hx hb hE hG 29 rfl (n := 200) rfl (lo := -2147483648) (hi := 2147483647) rfl rfl t_b84 (by omega) dX9_of_95 (fun j86 x85 h87 h88 h89 => ?_)
            clear h89
            obtain rfl : j86 = p1.toInt.toNat := by omega
            rw [gs_c _ _ _ _ (by decide)] at h88
            replace h88 : x85.toInt = g 129 p1.toInt.toNat := h88
            have e90 : (gs g 100 0 x1.toInt) 100 0 = x1.toInt := by rw [gs_self]
            exact W.iret (v := x85) hx hb hr (fun t ht hW => ⟨⟨x85, (gs g 100 0 x1.toInt), rfl, ⟨(fun c j h100 => by rw [gs_c _ _ _ _ h100]), (⟨fun _ => ⟨(by unfold of_c; rw [if_neg (by omega), if_neg (by omega), if_pos (by omega)]; omega), (by omega)⟩, fun q => absurd (by omega) q⟩)⟩, ok1 ht hG⟩, hS.F ht⟩) hS.2.2 dX9_of_96
          · skip
            refine lv_tableIn (tgt := 97) (off := 62) hx hb dX9_of_35 (by omega) (by omega) (by rw [q66]; rfl) (by decide) ?_
            refine lv_aload_n hx hb dX9_of_97 rfl (lv_at hl 0 rfl) ?_
            refine get_X9_30 hx hb hA hown hE hG t_h0 wd_4_160 dX9_of_98 (fun b91 (t_b91 : ty Γ b91 130) => ?_)
            refine lv_iload_n hx hb dX9_of_101 rfl (lv_at hl 1 rfl) ?_
            refine ald_mI hx hb hE hG 30 rfl (n := 200) rfl (lo := -2147483648) (hi := 2147483647) rfl rfl t_b91 (by omega) dX9_of_102 (fun j93 x92 h94 h95 h96 => ?_)
            clear h96
            obtain rfl : j93 = p1.toInt.toNat := by omega
            rw [gs_c _ _ _ _ (by decide)] at h95
            replace h95 : x92.toInt = g 130 p1.toInt.toNat := h95
            have e97 : (gs g 100 0 x1.toInt) 100 0 = x1.toInt := by rw [gs_self]
            exact W.iret (v := x92) hx hb hr (fun t ht hW => ⟨⟨x92, (gs g 100 0 x1.toInt), rfl, ⟨(fun c j h100 => by rw [gs_c _ _ _ _ h100]), (⟨fun _ => ⟨(by unfold of_c; rw [if_neg (by omega), if_neg (by omega), if_neg (by omega), if_pos (by omega)]; omega), (by omega)⟩, fun q => absurd (by omega) q⟩)⟩, ok1 ht hG⟩, hS.F ht⟩) hS.2.2 dX9_of_103
          · skip
            refine lv_tableIn (tgt := 104) (off := 69) hx hb dX9_of_35 (by omega) (by omega) (by rw [q67]; rfl) (by decide) ?_
            refine lv_aload_n hx hb dX9_of_104 rfl (lv_at hl 0 rfl) ?_
            refine get_X9_31 hx hb hA hown hE hG t_h0 wd_4_161 dX9_of_105 (fun b98 (t_b98 : ty Γ b98 131) => ?_)
            refine lv_iload_n hx hb dX9_of_108 rfl (lv_at hl 1 rfl) ?_
            refine ald_mI hx hb hE hG 31 rfl (n := 200) rfl (lo := -2147483648) (hi := 2147483647) rfl rfl t_b98 (by omega) dX9_of_109 (fun j100 x99 h101 h102 h103 => ?_)
            clear h103
            obtain rfl : j100 = p1.toInt.toNat := by omega
            rw [gs_c _ _ _ _ (by decide)] at h102
            replace h102 : x99.toInt = g 131 p1.toInt.toNat := h102
            have e104 : (gs g 100 0 x1.toInt) 100 0 = x1.toInt := by rw [gs_self]
            exact W.iret (v := x99) hx hb hr (fun t ht hW => ⟨⟨x99, (gs g 100 0 x1.toInt), rfl, ⟨(fun c j h100 => by rw [gs_c _ _ _ _ h100]), (⟨fun _ => ⟨(by unfold of_c; rw [if_neg (by omega), if_neg (by omega), if_neg (by omega), if_neg (by omega), if_pos (by omega)]; omega), (by omega)⟩, fun q => absurd (by omega) q⟩)⟩, ok1 ht hG⟩, hS.F ht⟩) hS.2.2 dX9_of_110
          · skip
            refine lv_tableIn (tgt := 111) (off := 76) hx hb dX9_of_35 (by omega) (by omega) (by rw [q68]; rfl) (by decide) ?_
            refine lv_aload_n hx hb dX9_of_111 rfl (lv_at hl 0 rfl) ?_
            refine get_X9_32 hx hb hA hown hE hG t_h0 wd_4_162 dX9_of_112 (fun b105 (t_b105 : ty Γ b105 132) => ?_)
            refine lv_iload_n hx hb dX9_of_115 rfl (lv_at hl 1 rfl) ?_
            refine ald_mI hx hb hE hG 32 rfl (n := 200) rfl (lo := 0) (hi := 5) rfl rfl t_b105 (by omega) dX9_of_116 (fun j107 x106 h108 h109 h110 => ?_)
            obtain rfl : j107 = p1.toInt.toNat := by omega
            rw [gs_c _ _ _ _ (by decide)] at h109
            replace h109 : x106.toInt = g 132 p1.toInt.toNat := h109
            have e111 : (gs g 100 0 x1.toInt) 100 0 = x1.toInt := by rw [gs_self]
            exact W.iret (v := x106) hx hb hr (fun t ht hW => ⟨⟨x106, (gs g 100 0 x1.toInt), rfl, ⟨(fun c j h100 => by rw [gs_c _ _ _ _ h100]), (⟨fun _ => ⟨(by unfold of_c; rw [if_neg (by omega), if_neg (by omega), if_neg (by omega), if_neg (by omega), if_neg (by omega), if_pos (by omega)]; omega), (by omega)⟩, fun q => absurd (by omega) q⟩)⟩, ok1 ht hG⟩, hS.F ht⟩) hS.2.2 dX9_of_117
          · skip
            refine lv_tableIn (tgt := 118) (off := 83) hx hb dX9_of_35 (by omega) (by omega) (by rw [q69]; rfl) (by decide) ?_
            refine lv_aload_n hx hb dX9_of_118 rfl (lv_at hl 0 rfl) ?_
            refine get_X9_32 hx hb hA hown hE hG t_h0 wd_4_162 dX9_of_119 (fun b112 (t_b112 : ty Γ b112 132) => ?_)
            refine lv_iload_n hx hb dX9_of_122 rfl (lv_at hl 1 rfl) ?_
            refine ald_mI hx hb hE hG 32 rfl (n := 200) rfl (lo := 0) (hi := 5) rfl rfl t_b112 (by omega) dX9_of_123 (fun j114 x113 h115 h116 h117 => ?_)
            obtain rfl : j114 = p1.toInt.toNat := by omega
            rw [gs_c _ _ _ _ (by decide)] at h116
            replace h116 : x113.toInt = g 132 p1.toInt.toNat := h116
            refine ty_iconst hx hb (1) dX9_of_124 (by decide) (fun x118 h119 => ?_)
            refine ty_icmp_ne (tgt := 137) hx hb dX9_of_125 (by decide) (fun c120 => ?_) (fun c120 => ?_)
            · skip
              refine ty_iconst hx hb (-1) dX9_of_137 (by decide) (fun x121 h122 => ?_)
              have e123 : (gs g 100 0 x1.toInt) 100 0 = x1.toInt := by rw [gs_self]
              exact W.iret (v := x121) hx hb hr (fun t ht hW => ⟨⟨x121, (gs g 100 0 x1.toInt), rfl, ⟨(fun c j h100 => by rw [gs_c _ _ _ _ h100]), (⟨fun _ => ⟨(by unfold of_c; rw [if_neg (by omega), if_neg (by omega), if_neg (by omega), if_neg (by omega), if_neg (by omega), if_neg (by omega), if_pos (by omega), if_neg (by omega)]; omega), (by omega)⟩, fun q => absurd (by omega) q⟩)⟩, ok1 ht hG⟩, hS.F ht⟩) hS.2.2 dX9_of_138
            · skip
              refine lv_aload_n hx hb dX9_of_128 rfl (lv_at hl 0 rfl) ?_
              refine get_X9_33 hx hb hA hown hE hG t_h0 wd_4_163 dX9_of_129 (fun b124 (t_b124 : ty Γ b124 133) => ?_)
              refine lv_iload_n hx hb dX9_of_132 rfl (lv_at hl 1 rfl) ?_
              refine ald_mI hx hb hE hG 33 rfl (n := 200) rfl (lo := -2147483648) (hi := 2147483647) rfl rfl t_b124 (by omega) dX9_of_133 (fun j126 x125 h127 h128 h129 => ?_)
              clear h129
              obtain rfl : j126 = p1.toInt.toNat := by omega
              rw [gs_c _ _ _ _ (by decide)] at h128
              replace h128 : x125.toInt = g 133 p1.toInt.toNat := h128
              refine lv_goto (tgt := 138) hx hb dX9_of_134 (by decide) ?_
              have e130 : (gs g 100 0 x1.toInt) 100 0 = x1.toInt := by rw [gs_self]
              exact W.iret (v := x125) hx hb hr (fun t ht hW => ⟨⟨x125, (gs g 100 0 x1.toInt), rfl, ⟨(fun c j h100 => by rw [gs_c _ _ _ _ h100]), (⟨fun _ => ⟨(by unfold of_c; rw [if_neg (by omega), if_neg (by omega), if_neg (by omega), if_neg (by omega), if_neg (by omega), if_neg (by omega), if_pos (by omega), if_pos (by omega)]; omega), (by omega)⟩, fun q => absurd (by omega) q⟩)⟩, ok1 ht hG⟩, hS.F ht⟩) hS.2.2 dX9_of_138
      · skip
        refine lv_aload_n hx hb dX9_of_27 rfl (lv_at hl 0 rfl) ?_
        refine ty_iconst hx hb (1) dX9_of_28 (by decide) (fun x131 h132 => ?_)
        refine put_X9_0 hx hb hA hown hE hG hS hU t_h0 wd_4_130 dX9_of_29 (fun H locs hG hS => ?_)
        refine ty_iconst hx hb (0) dX9_of_32 (by decide) (fun x133 h134 => ?_)
        have e135 : (gs (gs g 100 0 x1.toInt) 100 0 x131.toInt) 100 0 = x131.toInt := by rw [gs_self]
        exact W.iret (v := x133) hx hb hr (fun t ht hW => ⟨⟨x133, (gs (gs g 100 0 x1.toInt) 100 0 x131.toInt), rfl, ⟨(fun c j h100 => by rw [gs_c _ _ _ _ h100, gs_c _ _ _ _ h100]), (⟨fun q => absurd q (by omega), fun _ => ⟨(by omega), (by omega)⟩⟩)⟩, ok1 ht hG⟩, hS.F ht⟩) hS.2.2 dX9_of_33

set_option maxHeartbeats 4000000 in
set_option maxRecDepth 100000 in
/-- WeekBankModel.ownerOf:  -/
theorem k_X9_ownerOf (l : Launch) (dC : Nat → ClassId) (dI : Nat → Nat → Nat) (dA : Nat → ClassId) (sz : Nat) (X : va_W) (Γ : ty_G) (hU : Un Γ) (g : gh) (h0 : Nat) (t_h0 : ty Γ h0 30) (p1 : Int32) (p2 : Int32) (m4 : 0 ≤ g 104 0 ∧ g 104 0 ≤ 10) : Met l yX9_ownerOf (.code yX9_ownerOf cX9_ownerOf 3 (Option.some Jvm.ClassFile.FieldType.int) :: AL) ({ frames := 1, cells := 0, slots := 0, locals := 23 }) (PCx dC dI dA sz X Γ g [.ref h0, .int p1, .int p2]) (va_Qi (fun (r : Int32) (u : gh) => (∀ c j : Nat, c ≠ 100 → u c j = g c j) ∧ ((r.toInt = oo_c (g 104 0) (g 106) (g 107) (g 105) (cnt 318 (g 109) p1.toInt : Int) (g 108) (if g 135 (4 * (200 + p1.toInt.toNat) + 3) ≠ 0 then 1 else 0) p1.toInt p2.toInt))) (okb dC dI dA sz X Γ) (ty_A sz)) 0 0 (ty_A sz) := by
  refine Met.ofW (cc := cX9_ownerOf) (maxL := 3) (ret := (Option.some Jvm.ClassFile.FieldType.int)) (by decide) rfl ?_
  intro p e s m args below meth c s₁ B hml hv
  obtain ⟨rfl, hG, hE⟩ := hv
  have hx := B.exec
  have hb := B.bytes
  have hr := B.returns
  have hts := atoms_spec B.pre
  have hA : ∀ w ∈ AL, w.before _ s = true := fun w h => hts w (List.mem_cons_of_mem _ h)
  have hown : s.vm.findClass RX9 = some m.cls := findClass_of_methodNamed B.named
  have hlocks := B.notSynchronized
  have hS : va_S (ty_A sz) s.heap s.heap [] := va_S.rf
  have hl := lv_entry ([.ref h0, .int p1, .int p2]) (n := 3) (Nat.le_of_ble_eq_true rfl)
  rw [lg_entry_eq]
  generalize (lg_sl ([.ref h0, .int p1, .int p2]) ++ List.replicate (3 - (lg_sl ([.ref h0, .int p1, .int p2])).length) Slot.unset).toArray = ls at hl ⊢
  have hl : lv_has ls 3 [(0, .ref h0), (1, .int p1), (2, .int p2)] := hl
  refine lv_aload_n hx hb dX9_ownerOf_0 rfl (lv_at hl 0 rfl) ?_
  refine ty_iconst hx hb (0) dX9_ownerOf_1 (by decide) (fun x1 h2 => ?_)
  refine put_X9_0 hx hb hA hown hE hG hS hU t_h0 wd_4_130 dX9_ownerOf_2 (fun H locs hG hS => ?_)
  refine lv_iload_n hx hb dX9_ownerOf_5 rfl (lv_at hl 1 rfl) ?_
  refine ty_if_lt (tgt := 17) hx hb dX9_ownerOf_6 (by decide) (fun c3 => ?_) (fun c3 => ?_)
  · skip
    refine ty_iconst hx hb (-1) dX9_ownerOf_17 (by decide) (fun x4 h5 => ?_)
    exact W.iret (v := x4) hx hb hr (fun t ht hW => ⟨⟨x4, (gs g 100 0 x1.toInt), rfl, ⟨(fun c j h100 => by rw [gs_c _ _ _ _ h100]), (by unfold oo_c; rw [if_pos (by omega)]; omega)⟩, ok1 ht hG⟩, hS.F ht⟩) hS.2.2 dX9_ownerOf_18
  · skip
    refine lv_iload_n hx hb dX9_ownerOf_9 rfl (lv_at hl 1 rfl) ?_
    refine lv_aload_n hx hb dX9_ownerOf_10 rfl (lv_at hl 0 rfl) ?_
    refine get_X9_4 hx hb hA hown hE hG t_h0 wd_4_134 dX9_ownerOf_11 (fun x6 h7 => ?_)
    replace h7 : x6.toInt = g 104 0 := by rw [h7, gs_c _ _ _ _ (by decide)]
    refine ty_icmp_lt (tgt := 19) hx hb dX9_ownerOf_14 (by decide) (fun c9 => ?_) (fun c9 => ?_)
    · skip
      refine lv_iload_n hx hb dX9_ownerOf_19 rfl (lv_at hl 2 rfl) ?_
      by_cases c10 : p2.toInt < 0 ∨ 5 < p2.toInt
      · skip
        refine lv_tableOut (tgt := 125) hx hb dX9_ownerOf_20 c10 (by decide) ?_
        refine ty_iconst hx hb (-1) dX9_ownerOf_125 (by decide) (fun x11 h12 => ?_)
        exact W.iret (v := x11) hx hb hr (fun t ht hW => ⟨⟨x11, (gs g 100 0 x1.toInt), rfl, ⟨(fun c j h100 => by rw [gs_c _ _ _ _ h100]), (by unfold oo_c; rw [if_neg (by omega), if_neg (by omega), if_neg (by omega), if_neg (by omega), if_neg (by omega), if_neg (by omega), if_neg (by omega)]; omega)⟩, ok1 ht hG⟩, hS.F ht⟩) hS.2.2 dX9_ownerOf_126
      · skip
        rcases (show p2.toInt = 0 ∨ p2.toInt = 1 ∨ p2.toInt = 2 ∨ p2.toInt = 3 ∨ p2.toInt = 4 ∨ p2.toInt = 5 by omega) with q13 | q14 | q15 | q16 | q17 | q18
        · skip
          refine lv_tableIn (tgt := 60) (off := 40) hx hb dX9_ownerOf_20 (by omega) (by omega) (by rw [q13]; rfl) (by decide) ?_
          refine lv_aload_n hx hb dX9_ownerOf_60 rfl (lv_at hl 0 rfl) ?_
          refine get_X9_6 hx hb hA hown hE hG t_h0 wd_4_136 dX9_ownerOf_61 (fun b19 (t_b19 : ty Γ b19 106) => ?_)
          refine lv_iload_n hx hb dX9_ownerOf_64 rfl (lv_at hl 1 rfl) ?_
          refine ald_mI hx hb hE hG 6 rfl (n := 10) rfl (lo := -2147483648) (hi := 2147483647) rfl rfl t_b19 (by omega) dX9_ownerOf_65 (fun j21 x20 h22 h23 h24 => ?_)
          clear h24
          obtain rfl : j21 = p1.toInt.toNat := by omega
          rw [gs_c _ _ _ _ (by decide)] at h23
          replace h23 : x20.toInt = g 106 p1.toInt.toNat := h23
          exact W.iret (v := x20) hx hb hr (fun t ht hW => ⟨⟨x20, (gs g 100 0 x1.toInt), rfl, ⟨(fun c j h100 => by rw [gs_c _ _ _ _ h100]), (by unfold oo_c; rw [if_neg (by omega), if_pos (by omega)]; omega)⟩, ok1 ht hG⟩, hS.F ht⟩) hS.2.2 dX9_ownerOf_66
        · skip
          refine lv_tableIn (tgt := 67) (off := 47) hx hb dX9_ownerOf_20 (by omega) (by omega) (by rw [q14]; rfl) (by decide) ?_
          refine lv_aload_n hx hb dX9_ownerOf_67 rfl (lv_at hl 0 rfl) ?_
          refine get_X9_7 hx hb hA hown hE hG t_h0 wd_4_137 dX9_ownerOf_68 (fun b25 (t_b25 : ty Γ b25 107) => ?_)
          refine lv_iload_n hx hb dX9_ownerOf_71 rfl (lv_at hl 1 rfl) ?_
          refine ald_mI hx hb hE hG 7 rfl (n := 10) rfl (lo := -2147483648) (hi := 2147483647) rfl rfl t_b25 (by omega) dX9_ownerOf_72 (fun j27 x26 h28 h29 h30 => ?_)
          clear h30
          obtain rfl : j27 = p1.toInt.toNat := by omega
          rw [gs_c _ _ _ _ (by decide)] at h29
          replace h29 : x26.toInt = g 107 p1.toInt.toNat := h29
          exact W.iret (v := x26) hx hb hr (fun t ht hW => ⟨⟨x26, (gs g 100 0 x1.toInt), rfl, ⟨(fun c j h100 => by rw [gs_c _ _ _ _ h100]), (by unfold oo_c; rw [if_neg (by omega), if_neg (by omega), if_pos (by omega)]; omega)⟩, ok1 ht hG⟩, hS.F ht⟩) hS.2.2 dX9_ownerOf_73
        · skip
          refine lv_tableIn (tgt := 74) (off := 54) hx hb dX9_ownerOf_20 (by omega) (by omega) (by rw [q15]; rfl) (by decide) ?_
          refine lv_aload_n hx hb dX9_ownerOf_74 rfl (lv_at hl 0 rfl) ?_
          refine get_X9_5 hx hb hA hown hE hG t_h0 wd_4_135 dX9_ownerOf_75 (fun b31 (t_b31 : ty Γ b31 105) => ?_)
          refine lv_iload_n hx hb dX9_ownerOf_78 rfl (lv_at hl 1 rfl) ?_
          refine ald_mI hx hb hE hG 5 rfl (n := 10) rfl (lo := -2147483648) (hi := 2147483647) rfl rfl t_b31 (by omega) dX9_ownerOf_79 (fun j33 x32 h34 h35 h36 => ?_)
          clear h36
          obtain rfl : j33 = p1.toInt.toNat := by omega
          rw [gs_c _ _ _ _ (by decide)] at h35
          replace h35 : x32.toInt = g 105 p1.toInt.toNat := h35
          exact W.iret (v := x32) hx hb hr (fun t ht hW => ⟨⟨x32, (gs g 100 0 x1.toInt), rfl, ⟨(fun c j h100 => by rw [gs_c _ _ _ _ h100]), (by unfold oo_c; rw [if_neg (by omega), if_neg (by omega), if_neg (by omega), if_pos (by omega)]; omega)⟩, ok1 ht hG⟩, hS.F ht⟩) hS.2.2 dX9_ownerOf_80
        · skip
          refine lv_tableIn (tgt := 81) (off := 61) hx hb dX9_ownerOf_20 (by omega) (by omega) (by rw [q16]; rfl) (by decide) ?_
          refine lv_aload_n hx hb dX9_ownerOf_81 rfl (lv_at hl 0 rfl) ?_
          refine lv_iload_n hx hb dX9_ownerOf_82 rfl (lv_at hl 1 rfl) ?_
          refine cI (va_runV (C := RX9) (As := [.int p1]) (rest := []) ⟨hx, hb, hml, hown, hA⟩ (k_X9_owned l dC dI dA sz X Γ hU (gs g 100 0 x1.toInt) h0 t_h0 p1   ) ⟨callB_of 1 hA (al_A wd_5_218) rfl rfl rfl (hA _ wd_1_7) (hA _ wd_5_215) (by decide +kernel) ⟨Nat.le_of_ble_eq_true rfl, Nat.le_of_ble_eq_true rfl⟩, hA _ wd_5_217, hA _ ws_57⟩ ⟨bl, recv_X9 hE hG t_h0, fun U hU9 hW9 => ⟨rfl, by rw [hU9]; exact hG, hE.go hS hU9 hW9⟩⟩ rfl rfl hl.1 rfl (lv_room (Nat.le_of_ble_eq_true rfl)) dX9_ownerOf_83 ⟨Nat.zero_le _, Nat.zero_le _⟩) hS (fun x39 u37 H locs w38 hG hS => ?_)
          obtain ⟨eu40, w38⟩ := w38
          rw [eu40] at hG
          rw [show (gs g 100 0 x1.toInt) 109 = (g 109) by rw [gs_r _ _ _ (by decide)]] at w38
          exact W.iret (v := x39) hx hb hr (fun t ht hW => ⟨⟨x39, (gs g 100 0 x1.toInt), rfl, ⟨(fun c j h100 => by rw [gs_c _ _ _ _ h100]), (by unfold oo_c; rw [if_neg (by omega), if_neg (by omega), if_neg (by omega), if_neg (by omega), if_pos (by omega)]; omega)⟩, ok1 ht hG⟩, hS.F ht⟩) hS.2.2 dX9_ownerOf_86
        · skip
          refine lv_tableIn (tgt := 87) (off := 67) hx hb dX9_ownerOf_20 (by omega) (by omega) (by rw [q17]; rfl) (by decide) ?_
          refine lv_aload_n hx hb dX9_ownerOf_87 rfl (lv_at hl 0 rfl) ?_
          refine get_X9_8 hx hb hA hown hE hG t_h0 wd_4_138 dX9_ownerOf_88 (fun b41 (t_b41 : ty Γ b41 108) => ?_)
          refine lv_iload_n hx hb dX9_ownerOf_91 rfl (lv_at hl 1 rfl) ?_
          refine ald_mZ hx hb hE hG 8 rfl (n := 10) rfl (lo := 0) (hi := 1) rfl rfl t_b41 (by omega) dX9_ownerOf_92 (fun j43 x42 h44 h45 h46 => ?_)
          obtain rfl : j43 = p1.toInt.toNat := by omega
          rw [gs_c _ _ _ _ (by decide)] at h45
          replace h45 : x42.toInt = g 108 p1.toInt.toNat := h45
          refine ty_if_eq (tgt := 100) hx hb dX9_ownerOf_93 (by decide) (fun c47 => ?_) (fun c47 => ?_)
          · skip
            refine ty_iconst hx hb (0) dX9_ownerOf_100 (by decide) (fun x48 h49 => ?_)
            exact W.iret (v := x48) hx hb hr (fun t ht hW => ⟨⟨x48, (gs g 100 0 x1.toInt), rfl, ⟨(fun c j h100 => by rw [gs_c _ _ _ _ h100]), (by unfold oo_c; rw [if_neg (by omega), if_neg (by omega), if_neg (by omega), if_neg (by omega), if_neg (by omega), if_pos (by omega)]; omega)⟩, ok1 ht hG⟩, hS.F ht⟩) hS.2.2 dX9_ownerOf_101
          · skip
            refine ty_iconst hx hb (1) dX9_ownerOf_96 (by decide) (fun x50 h51 => ?_)
            refine lv_goto (tgt := 101) hx hb dX9_ownerOf_97 (by decide) ?_
            exact W.iret (v := x50) hx hb hr (fun t ht hW => ⟨⟨x50, (gs g 100 0 x1.toInt), rfl, ⟨(fun c j h100 => by rw [gs_c _ _ _ _ h100]), (by unfold oo_c; rw [if_neg (by omega), if_neg (by omega), if_neg (by omega), if_neg (by omega), if_neg (by omega), if_pos (by omega)]; omega)⟩, ok1 ht hG⟩, hS.F ht⟩) hS.2.2 dX9_ownerOf_101
        · skip
          refine lv_tableIn (tgt := 102) (off := 82) hx hb dX9_ownerOf_20 (by omega) (by omega) (by rw [q18]; rfl) (by decide) ?_
          refine lv_aload_n hx hb dX9_ownerOf_102 rfl (lv_at hl 0 rfl) ?_
          refine get_X9_35 hx hb hA hown hE hG t_h0 wd_4_165 dX9_ownerOf_103 (fun b52 (t_b52 : ty Γ b52 135) => ?_)
          refine ty_iconst hx hb (4) dX9_ownerOf_106 (by decide) (fun x53 h54 => ?_)
          refine ty_sipush hx hb (200) dX9_ownerOf_107 (by decide) (fun x55 h56 => ?_)
          refine lv_iload_n hx hb dX9_ownerOf_110 rfl (lv_at hl 1 rfl) ?_
          refine ty_iadd hx hb dX9_ownerOf_111 (fun x57 h58 => ?_)
          try have h59 : x57.toInt = x55.toInt + p1.toInt := ty_add h58 (by omega) (by omega)
          refine ty_imul hx hb dX9_ownerOf_112 (fun x60 h61 => ?_)
          try have h62 : x60.toInt = 4 * x57.toInt := ty_mull h61 (by omega) (by omega) (by omega)
          refine ty_iconst hx hb (3) dX9_ownerOf_113 (by decide) (fun x63 h64 => ?_)
          refine ty_iadd hx hb dX9_ownerOf_114 (fun x65 h66 => ?_)
          try have h67 : x65.toInt = x60.toInt + x63.toInt := ty_add h66 (by omega) (by omega)
          refine ald_mI hx hb hE hG 35 rfl (n := 840) rfl (lo := -2147483648) (hi := 2147483647) rfl rfl t_b52 (by omega) dX9_ownerOf_115 (fun j69 x68 h70 h71 h72 => ?_)
          clear h72
          obtain rfl : j69 = x65.toInt.toNat := by omega
          rw [gs_c _ _ _ _ (by decide)] at h71
          replace h71 : x68.toInt = g 135 x65.toInt.toNat := h71
          replace h71 : x68.toInt = g 135 (4 * (200 + p1.toInt.toNat) + 3) := by rw [h71, show x65.toInt.toNat = (4 * (200 + p1.toInt.toNat) + 3) by omega]
          refine ty_if_ne (tgt := 123) hx hb dX9_ownerOf_116 (by decide) (fun c73 => ?_) (fun c73 => ?_)
          · skip
            refine ty_iconst hx hb (1) dX9_ownerOf_123 (by decide) (fun x74 h75 => ?_)
            exact W.iret (v := x74) hx hb hr (fun t ht hW => ⟨⟨x74, (gs g 100 0 x1.toInt), rfl, ⟨(fun c j h100 => by rw [gs_c _ _ _ _ h100]), (by unfold oo_c; rw [if_neg (by omega), if_neg (by omega), if_neg (by omega), if_neg (by omega), if_neg (by omega), if_neg (by omega), if_pos (by omega)]; rw [if_pos (by omega)]; omega)⟩, ok1 ht hG⟩, hS.F ht⟩) hS.2.2 dX9_ownerOf_124
          · skip
            refine ty_iconst hx hb (0) dX9_ownerOf_119 (by decide) (fun x76 h77 => ?_)
            refine lv_goto (tgt := 124) hx hb dX9_ownerOf_120 (by decide) ?_
            exact W.iret (v := x76) hx hb hr (fun t ht hW => ⟨⟨x76, (gs g 100 0 x1.toInt), rfl, ⟨(fun c j h100 => by rw [gs_c _ _ _ _ h100]), (by unfold oo_c; rw [if_neg (by omega), if_neg (by omega), if_neg (by omega), if_neg (by omega), if_neg (by omega), if_neg (by omega), if_pos (by omega)]; rw [if_neg (by omega)]; omega)⟩, ok1 ht hG⟩, hS.F ht⟩) hS.2.2 dX9_ownerOf_124
    · skip
      refine ty_iconst hx hb (-1) dX9_ownerOf_17 (by decide) (fun x78 h79 => ?_)
      exact W.iret (v := x78) hx hb hr (fun t ht hW => ⟨⟨x78, (gs g 100 0 x1.toInt), rfl, ⟨(fun c j h100 => by rw [gs_c _ _ _ _ h100]), (by unfold oo_c; rw [if_pos (by omega)]; omega)⟩, ok1 ht hG⟩, hS.F ht⟩) hS.2.2 dX9_ownerOf_18

set_option maxHeartbeats 4000000 in
set_option maxRecDepth 100000 in
/-- WeekBankModel.count:  -/
theorem k_X9_count (l : Launch) (dC : Nat → ClassId) (dI : Nat → Nat → Nat) (dA : Nat → ClassId) (sz : Nat) (X : va_W) (Γ : ty_G) (hU : Un Γ) (g : gh) (h0 : Nat) (t_h0 : ty Γ h0 30) (p1 : Int32) (m4 : 0 ≤ g 104 0 ∧ g 104 0 ≤ 10) (m26 : 0 ≤ g 126 0 ∧ g 126 0 ≤ 200) (m22 : 0 ≤ g 122 0 ∧ g 122 0 ≤ 30) : Met l yX9_count (.code yX9_count cX9_count 4 (Option.some Jvm.ClassFile.FieldType.int) :: AL) ({ frames := 1, cells := 0, slots := 0, locals := 23 }) (PCx dC dI dA sz X Γ g [.ref h0, .int p1]) (va_Qi (fun (r : Int32) (u : gh) => (∀ c j : Nat, c ≠ 100 → u c j = g c j) ∧ ((r.toInt = ct_c (g 101 0) (g 104 0) (g 111 0) (g 112 0) (g 126 0) (g 114 0) (hb_f (g 123) (g 122 0).toNat) (g 132) (g 106) p1.toInt))) (okb dC dI dA sz X Γ) (ty_A sz)) 0 0 (ty_A sz) := by
  refine Met.ofW (cc := cX9_count) (maxL := 4) (ret := (Option.some Jvm.ClassFile.FieldType.int)) (by decide) rfl ?_
  intro p e s m args below meth c s₁ B hml hv
  obtain ⟨rfl, hG, hE⟩ := hv
  have hx := B.exec
  have hb := B.bytes
  have hr := B.returns
  have hts := atoms_spec B.pre
  have hA : ∀ w ∈ AL, w.before _ s = true := fun w h => hts w (List.mem_cons_of_mem _ h)
  have hown : s.vm.findClass RX9 = some m.cls := findClass_of_methodNamed B.named
  have hlocks := B.notSynchronized
  have hS : va_S (ty_A sz) s.heap s.heap [] := va_S.rf
  have hl := lv_entry ([.ref h0, .int p1]) (n := 4) (Nat.le_of_ble_eq_true rfl)
  rw [lg_entry_eq]
  generalize (lg_sl ([.ref h0, .int p1]) ++ List.replicate (4 - (lg_sl ([.ref h0, .int p1])).length) Slot.unset).toArray = ls at hl ⊢
  have hl : lv_has ls 4 [(0, .ref h0), (1, .int p1)] := hl
  refine lv_aload_n hx hb dX9_count_0 rfl (lv_at hl 0 rfl) ?_
  refine ty_iconst hx hb (0) dX9_count_1 (by decide) (fun x1 h2 => ?_)
  refine put_X9_0 hx hb hA hown hE hG hS hU t_h0 wd_4_130 dX9_count_2 (fun H locs hG hS => ?_)
  refine ty_iconst hx hb (0) dX9_count_5 (by decide) (fun x3 h4 => ?_)
  refine lv_istore_n (lv' := [(2, .int x3), (0, .ref h0), (1, .int p1)]) hx hb dX9_count_6 rfl hl (by decide) rfl (fun ls hl => ?_)
  refine lv_iload_n hx hb dX9_count_7 rfl (lv_at hl 2 rfl) ?_
  by_cases c5 : p1.toInt < 0 ∨ 9 < p1.toInt
  · skip
    refine lv_tableOut (tgt := 146) hx hb dX9_count_8 c5 (by decide) ?_
    refine ty_iconst hx hb (-1) dX9_count_146 (by decide) (fun x6 h7 => ?_)
    exact W.iret (v := x6) hx hb hr (fun t ht hW => ⟨⟨x6, (gs g 100 0 x1.toInt), rfl, ⟨(fun c j h100 => by rw [gs_c _ _ _ _ h100]), (by unfold ct_c; rw [if_neg (by omega), if_neg (by omega), if_neg (by omega), if_neg (by omega), if_neg (by omega), if_neg (by omega), if_neg (by omega), if_neg (by omega), if_neg (by omega), if_neg (by omega)]; omega)⟩, ok1 ht hG⟩, hS.F ht⟩) hS.2.2 dX9_count_147
  · skip
    rcases (show p1.toInt = 0 ∨ p1.toInt = 1 ∨ p1.toInt = 2 ∨ p1.toInt = 3 ∨ p1.toInt = 4 ∨ p1.toInt = 5 ∨ p1.toInt = 6 ∨ p1.toInt = 7 ∨ p1.toInt = 8 ∨ p1.toInt = 9 by omega) with q8 | q9 | q10 | q11 | q12 | q13 | q14 | q15 | q16 | q17
    · skip
      refine lv_tableIn (tgt := 64) (off := 56) hx hb dX9_count_8 (by omega) (by omega) (by rw [q8]; rfl) (by decide) ?_
      refine lv_aload_n hx hb dX9_count_64 rfl (lv_at hl 1 rfl) ?_
      refine get_X9_1 hx hb hA hown hE hG t_h0 wd_4_131 dX9_count_65 (fun x18 h19 => ?_)
      replace h19 : x18.toInt = g 101 0 := by rw [h19, gs_c _ _ _ _ (by decide)]
      exact W.iret (v := x18) hx hb hr (fun t ht hW => ⟨⟨x18, (gs g 100 0 x1.toInt), rfl, ⟨(fun c j h100 => by rw [gs_c _ _ _ _ h100]), (by unfold ct_c; rw [if_pos (by omega)]; omega)⟩, ok1 ht hG⟩, hS.F ht⟩) hS.2.2 dX9_count_68
    · skip
      refine lv_tableIn (tgt := 69) (off := 61) hx hb dX9_count_8 (by omega) (by omega) (by rw [q9]; rfl) (by decide) ?_
      refine lv_aload_n hx hb dX9_count_69 rfl (lv_at hl 1 rfl) ?_
      refine get_X9_4 hx hb hA hown hE hG t_h0 wd_4_134 dX9_count_70 (fun x21 h22 => ?_)
      replace h22 : x21.toInt = g 104 0 := by rw [h22, gs_c _ _ _ _ (by decide)]
      exact W.iret (v := x21) hx hb hr (fun t ht hW => ⟨⟨x21, (gs g 100 0 x1.toInt), rfl, ⟨(fun c j h100 => by rw [gs_c _ _ _ _ h100]), (by unfold ct_c; rw [if_neg (by omega), if_pos (by omega)]; omega)⟩, ok1 ht hG⟩, hS.F ht⟩) hS.2.2 dX9_count_73
    · skip
      refine lv_tableIn (tgt := 74) (off := 66) hx hb dX9_count_8 (by omega) (by omega) (by rw [q10]; rfl) (by decide) ?_
      refine lv_aload_n hx hb dX9_count_74 rfl (lv_at hl 1 rfl) ?_
      refine get_X9_11 hx hb hA hown hE hG t_h0 wd_4_141 dX9_count_75 (fun x24 h25 => ?_)
      replace h25 : x24.toInt = g 111 0 := by rw [h25, gs_c _ _ _ _ (by decide)]
      exact W.iret (v := x24) hx hb hr (fun t ht hW => ⟨⟨x24, (gs g 100 0 x1.toInt), rfl, ⟨(fun c j h100 => by rw [gs_c _ _ _ _ h100]), (by unfold ct_c; rw [if_neg (by omega), if_neg (by omega), if_pos (by omega)]; omega)⟩, ok1 ht hG⟩, hS.F ht⟩) hS.2.2 dX9_count_78
    · skip
      refine lv_tableIn (tgt := 79) (off := 71) hx hb dX9_count_8 (by omega) (by omega) (by rw [q11]; rfl) (by decide) ?_
      refine lv_aload_n hx hb dX9_count_79 rfl (lv_at hl 1 rfl) ?_
      refine get_X9_12 hx hb hA hown hE hG t_h0 wd_4_142 dX9_count_80 (fun x27 h28 => ?_)
      replace h28 : x27.toInt = g 112 0 := by rw [h28, gs_c _ _ _ _ (by decide)]
      exact W.iret (v := x27) hx hb hr (fun t ht hW => ⟨⟨x27, (gs g 100 0 x1.toInt), rfl, ⟨(fun c j h100 => by rw [gs_c _ _ _ _ h100]), (by unfold ct_c; rw [if_neg (by omega), if_neg (by omega), if_neg (by omega), if_pos (by omega)]; omega)⟩, ok1 ht hG⟩, hS.F ht⟩) hS.2.2 dX9_count_83
    · skip
      refine lv_tableIn (tgt := 84) (off := 76) hx hb dX9_count_8 (by omega) (by omega) (by rw [q12]; rfl) (by decide) ?_
      refine lv_aload_n hx hb dX9_count_84 rfl (lv_at hl 1 rfl) ?_
      refine get_X9_26 hx hb hA hown hE hG t_h0 wd_4_156 dX9_count_85 (fun x30 h31 => ?_)
      replace h31 : x30.toInt = g 126 0 := by rw [h31, gs_c _ _ _ _ (by decide)]
      exact W.iret (v := x30) hx hb hr (fun t ht hW => ⟨⟨x30, (gs g 100 0 x1.toInt), rfl, ⟨(fun c j h100 => by rw [gs_c _ _ _ _ h100]), (by unfold ct_c; rw [if_neg (by omega), if_neg (by omega), if_neg (by omega), if_neg (by omega), if_pos (by omega)]; omega)⟩, ok1 ht hG⟩, hS.F ht⟩) hS.2.2 dX9_count_88
    · skip
      refine lv_tableIn (tgt := 89) (off := 81) hx hb dX9_count_8 (by omega) (by omega) (by rw [q13]; rfl) (by decide) ?_
      refine lv_aload_n hx hb dX9_count_89 rfl (lv_at hl 1 rfl) ?_
      refine ty_iconst hx hb (0) dX9_count_90 (by decide) (fun x33 h34 => ?_)
      have e35 : (gs g 100 0 x1.toInt) 126 0 = g 126 0 := by rw [gs_c _ _ _ _ (by decide)]
      refine cI (va_runV (C := RX9) (As := [.int x33]) (rest := []) ⟨hx, hb, hml, hown, hA⟩ (k_X9_many l dC dI dA sz X Γ hU (gs g 100 0 x1.toInt) h0 t_h0 x33   (by omega)) ⟨callB_of 1 hA (al_A wd_5_128) rfl rfl rfl (hA _ wd_1_7) (hA _ wd_5_125) (by decide +kernel) ⟨Nat.le_of_ble_eq_true rfl, Nat.le_of_ble_eq_true rfl⟩, hA _ wd_5_127, hA _ ws_46⟩ ⟨bl, recv_X9 hE hG t_h0, fun U hU9 hW9 => ⟨rfl, by rw [hU9]; exact hG, hE.go hS hU9 hW9⟩⟩ rfl rfl hl.1 rfl (lv_room (Nat.le_of_ble_eq_true rfl)) dX9_count_91 ⟨Nat.zero_le _, Nat.zero_le _⟩) hS (fun x38 u36 H locs w37 hG hS => ?_)
      obtain ⟨eu39, w37⟩ := w37
      rw [eu39] at hG
      rw [show (gs g 100 0 x1.toInt) 126 = (g 126) by rw [gs_r _ _ _ (by decide)]] at w37
      rw [show (gs g 100 0 x1.toInt) 132 = (g 132) by rw [gs_r _ _ _ (by decide)]] at w37
      rw [show x33.toInt = 0 by omega] at w37
      exact W.iret (v := x38) hx hb hr (fun t ht hW => ⟨⟨x38, (gs g 100 0 x1.toInt), rfl, ⟨(fun c j h100 => by rw [gs_c _ _ _ _ h100]), (by unfold ct_c; rw [if_neg (by omega), if_neg (by omega), if_neg (by omega), if_neg (by omega), if_neg (by omega), if_pos (by omega)]; omega)⟩, ok1 ht hG⟩, hS.F ht⟩) hS.2.2 dX9_count_94
    · skip
      refine lv_tableIn (tgt := 95) (off := 87) hx hb dX9_count_8 (by omega) (by omega) (by rw [q14]; rfl) (by decide) ?_
      refine lv_aload_n hx hb dX9_count_95 rfl (lv_at hl 1 rfl) ?_
      refine ty_iconst hx hb (2) dX9_count_96 (by decide) (fun x40 h41 => ?_)
      have e42 : (gs g 100 0 x1.toInt) 126 0 = g 126 0 := by rw [gs_c _ _ _ _ (by decide)]
      refine cI (va_runV (C := RX9) (As := [.int x40]) (rest := []) ⟨hx, hb, hml, hown, hA⟩ (k_X9_many l dC dI dA sz X Γ hU (gs g 100 0 x1.toInt) h0 t_h0 x40   (by omega)) ⟨callB_of 1 hA (al_A wd_5_128) rfl rfl rfl (hA _ wd_1_7) (hA _ wd_5_125) (by decide +kernel) ⟨Nat.le_of_ble_eq_true rfl, Nat.le_of_ble_eq_true rfl⟩, hA _ wd_5_127, hA _ ws_46⟩ ⟨bl, recv_X9 hE hG t_h0, fun U hU9 hW9 => ⟨rfl, by rw [hU9]; exact hG, hE.go hS hU9 hW9⟩⟩ rfl rfl hl.1 rfl (lv_room (Nat.le_of_ble_eq_true rfl)) dX9_count_97 ⟨Nat.zero_le _, Nat.zero_le _⟩) hS (fun x45 u43 H locs w44 hG hS => ?_)
      obtain ⟨eu46, w44⟩ := w44
      rw [eu46] at hG
      rw [show (gs g 100 0 x1.toInt) 126 = (g 126) by rw [gs_r _ _ _ (by decide)]] at w44
      rw [show (gs g 100 0 x1.toInt) 132 = (g 132) by rw [gs_r _ _ _ (by decide)]] at w44
      rw [show x40.toInt = 2 by omega] at w44
      exact W.iret (v := x45) hx hb hr (fun t ht hW => ⟨⟨x45, (gs g 100 0 x1.toInt), rfl, ⟨(fun c j h100 => by rw [gs_c _ _ _ _ h100]), (by unfold ct_c; rw [if_neg (by omega), if_neg (by omega), if_neg (by omega), if_neg (by omega), if_neg (by omega), if_neg (by omega), if_pos (by omega)]; omega)⟩, ok1 ht hG⟩, hS.F ht⟩) hS.2.2 dX9_count_100
    · skip
      refine lv_tableIn (tgt := 101) (off := 93) hx hb dX9_count_8 (by omega) (by omega) (by rw [q15]; rfl) (by decide) ?_
      refine lv_aload_n hx hb dX9_count_101 rfl (lv_at hl 1 rfl) ?_
      refine get_X9_14 hx hb hA hown hE hG t_h0 wd_4_144 dX9_count_102 (fun x47 h48 => ?_)
      replace h48 : x47.toInt = g 114 0 := by rw [h48, gs_c _ _ _ _ (by decide)]
      exact W.iret (v := x47) hx hb hr (fun t ht hW => ⟨⟨x47, (gs g 100 0 x1.toInt), rfl, ⟨(fun c j h100 => by rw [gs_c _ _ _ _ h100]), (by unfold ct_c; rw [if_neg (by omega), if_neg (by omega), if_neg (by omega), if_neg (by omega), if_neg (by omega), if_neg (by omega), if_neg (by omega), if_pos (by omega)]; omega)⟩, ok1 ht hG⟩, hS.F ht⟩) hS.2.2 dX9_count_105
    · skip
      refine lv_tableIn (tgt := 106) (off := 98) hx hb dX9_count_8 (by omega) (by omega) (by rw [q16]; rfl) (by decide) ?_
      refine lv_aload_n hx hb dX9_count_106 rfl (lv_at hl 1 rfl) ?_
      have e50 : (gs g 100 0 x1.toInt) 122 0 = g 122 0 := by rw [gs_c _ _ _ _ (by decide)]
      refine cI (va_runV (C := RX9) (As := []) (rest := []) ⟨hx, hb, hml, hown, hA⟩ (k_X9_isBound l dC dI dA sz X Γ hU (gs g 100 0 x1.toInt) h0 t_h0   (by omega)) ⟨callB_of 0 hA (al_A wd_5_209) rfl rfl rfl (hA _ wd_1_7) (hA _ wd_5_206) (by decide +kernel) ⟨Nat.le_of_ble_eq_true rfl, Nat.le_of_ble_eq_true rfl⟩, hA _ wd_5_208, hA _ ws_56⟩ ⟨bl, recv_X9 hE hG t_h0, fun U hU9 hW9 => ⟨rfl, by rw [hU9]; exact hG, hE.go hS hU9 hW9⟩⟩ rfl rfl hl.1 rfl (lv_room (Nat.le_of_ble_eq_true rfl)) dX9_count_107 ⟨Nat.zero_le _, Nat.zero_le _⟩) hS (fun x53 u51 H locs w52 hG hS => ?_)
      obtain ⟨eu54, w52⟩ := w52
      rw [eu54] at hG
      rw [show (gs g 100 0 x1.toInt) 123 = (g 123) by rw [gs_r _ _ _ (by decide)]] at w52
      rw [show (gs g 100 0 x1.toInt) 122 = (g 122) by rw [gs_r _ _ _ (by decide)]] at w52
      refine ty_if_eq (tgt := 117) hx hb dX9_count_110 (by decide) (fun c55 => ?_) (fun c55 => ?_)
      · skip
        refine ty_iconst hx hb (0) dX9_count_117 (by decide) (fun x56 h57 => ?_)
        exact W.iret (v := x56) hx hb hr (fun t ht hW => ⟨⟨x56, (gs g 100 0 x1.toInt), rfl, ⟨(fun c j h100 => by rw [gs_c _ _ _ _ h100]), (by unfold ct_c; rw [if_neg (by omega), if_neg (by omega), if_neg (by omega), if_neg (by omega), if_neg (by omega), if_neg (by omega), if_neg (by omega), if_neg (by omega), if_pos (by omega)]; omega)⟩, ok1 ht hG⟩, hS.F ht⟩) hS.2.2 dX9_count_118
      · skip
        refine ty_iconst hx hb (1) dX9_count_113 (by decide) (fun x58 h59 => ?_)
        refine lv_goto (tgt := 118) hx hb dX9_count_114 (by decide) ?_
        exact W.iret (v := x58) hx hb hr (fun t ht hW => ⟨⟨x58, (gs g 100 0 x1.toInt), rfl, ⟨(fun c j h100 => by rw [gs_c _ _ _ _ h100]), (by unfold ct_c; rw [if_neg (by omega), if_neg (by omega), if_neg (by omega), if_neg (by omega), if_neg (by omega), if_neg (by omega), if_neg (by omega), if_neg (by omega), if_pos (by omega)]; omega)⟩, ok1 ht hG⟩, hS.F ht⟩) hS.2.2 dX9_count_118
    · skip
      refine lv_tableIn (tgt := 119) (off := 111) hx hb dX9_count_8 (by omega) (by omega) (by rw [q17]; rfl) (by decide) ?_
      refine ty_iconst hx hb (0) dX9_count_119 (by decide) (fun x60 h61 => ?_)
      refine lv_istore_n (lv' := [(3, .int x60), (2, .int x3), (0, .ref h0), (1, .int p1)]) hx hb dX9_count_120 rfl hl (by decide) rfl (fun ls hl => ?_)
      have e62 : (gs g 100 0 x1.toInt) 104 0 = g 104 0 := by rw [gs_c _ _ _ _ (by decide)]
      have L_121 : ∀ (n : Nat) (v3_121 : Int32) (v2_121 : Int32) (H : Heap) (locs : List Loc) (ls : Array Slot), ((gs g 100 0 x1.toInt) 104 0 - v3_121.toInt : Int) < n → 0 ≤ v3_121.toInt ∧ v3_121.toInt ≤ (gs g 100 0 x1.toInt) 104 0 → (v2_121.toInt = sp_f (g 106) v3_121.toInt.toNat) → ty_ok (dC, dI) vwCl Γ (TP dA Γ (gs g 100 0 x1.toInt)) sz X H → va_S (ty_A sz) s.heap H locs → lv_has ls 4 [(3, .int v3_121), (2, .int v2_121), (0, .ref h0), (1, .int p1)] → W p l e (headSpec (.code yX9_count cX9_count 4 (Option.some Jvm.ClassFile.FieldType.int) :: AL) ({ frames := 1, cells := 0, slots := 0, locals := 23 })).room s m ([.ref h0, .int p1] : List Value).toArray below meth c H locs 0 0 (MQ below (va_Qi (fun (r : Int32) (u : gh) => (∀ c j : Nat, c ≠ 100 → u c j = g c j) ∧ ((r.toInt = ct_c (g 101 0) (g 104 0) (g 111 0) (g 112 0) (g 126 0) (g 114 0) (hb_f (g 123) (g 122 0).toNat) (g 132) (g 106) p1.toInt))) (okb dC dI dA sz X Γ) (ty_A sz)) ([.ref h0, .int p1] : List Value).toArray s 0 0 (ty_A sz)) (F0 m 121 ls []) := by
        intro n
        induction n with
        | zero => intro v3_121 v2_121 H locs ls hm hi0 hq0 hG hS hl; exfalso; omega
        | succ n ih_121 =>
          intro v3_121 v2_121 H locs ls hm hi0 hq0 hG hS hl
          refine lv_iload_n hx hb dX9_count_121 rfl (lv_at hl 0 rfl) ?_
          refine lv_aload_n hx hb dX9_count_122 rfl (lv_at hl 2 rfl) ?_
          refine get_X9_4 hx hb hA hown hE hG t_h0 wd_4_134 dX9_count_123 (fun x64 h65 => ?_)
          replace h65 : x64.toInt = g 104 0 := by rw [h65, gs_c _ _ _ _ (by decide)]
          refine ty_icmp_ge (tgt := 144) hx hb dX9_count_126 (by decide) (fun c67 => ?_) (fun c67 => ?_)
          · skip
            refine lv_iload_n hx hb dX9_count_144 rfl (lv_at hl 1 rfl) ?_
            exact W.iret (v := v2_121) hx hb hr (fun t ht hW => ⟨⟨v2_121, (gs g 100 0 x1.toInt), rfl, ⟨(fun c j h100 => by rw [gs_c _ _ _ _ h100]), (by unfold ct_c; rw [if_neg (by omega), if_neg (by omega), if_neg (by omega), if_neg (by omega), if_neg (by omega), if_neg (by omega), if_neg (by omega), if_neg (by omega), if_neg (by omega), if_pos (by omega), hq0, show v3_121.toInt.toNat = (g 104 0).toNat by omega])⟩, ok1 ht hG⟩, hS.F ht⟩) hS.2.2 dX9_count_145
          · skip
            refine lv_iload_n hx hb dX9_count_129 rfl (lv_at hl 1 rfl) ?_
            refine lv_aload_n hx hb dX9_count_130 rfl (lv_at hl 2 rfl) ?_
            refine get_X9_6 hx hb hA hown hE hG t_h0 wd_4_136 dX9_count_131 (fun b68 (t_b68 : ty Γ b68 106) => ?_)
            refine lv_iload_n hx hb dX9_count_134 rfl (lv_at hl 0 rfl) ?_
            refine ald_mI hx hb hE hG 6 rfl (n := 10) rfl (lo := -2147483648) (hi := 2147483647) rfl rfl t_b68 (by omega) dX9_count_135 (fun j70 x69 h71 h72 h73 => ?_)
            clear h73
            obtain rfl : j70 = v3_121.toInt.toNat := by omega
            rw [gs_c _ _ _ _ (by decide)] at h72
            replace h72 : x69.toInt = g 106 v3_121.toInt.toNat := h72
            refine ty_iadd hx hb dX9_count_136 (fun x74 h75 => ?_)
            have h76 : x74.toInt = wa (v2_121.toInt) (g 106 v3_121.toInt.toNat) := by rw [ty_wa h75, h72]
            refine lv_istore_n (lv' := [(2, .int x74), (3, .int v3_121), (0, .ref h0), (1, .int p1)]) hx hb dX9_count_137 rfl hl (by decide) rfl (fun ls hl => ?_)
            obtain ⟨x77, h78⟩ : ∃ y : Int32, y = v3_121 + Int32.ofInt (1) := ⟨_, rfl⟩
            try have h79 : x77.toInt = v3_121.toInt + (1) := ty_inc h78 (by decide) (by omega) (by omega)
            refine lv_iinc (v := x77) (lv' := [(3, .int x77), (2, .int x74), (0, .ref h0), (1, .int p1)]) hx hb dX9_count_138 hl (k := 1) rfl h78.symm (by decide) rfl (fun ls hl => ?_)
            refine lv_goto (tgt := 121) hx hb dX9_count_141 (by decide) ?_
            have e80 : (gs g 100 0 x1.toInt) 104 0 = g 104 0 := by rw [gs_c _ _ _ _ (by decide)]
            exact ih_121 x77 x74 _ _ ls (by omega) (by omega) (by rw [show x77.toInt.toNat = v3_121.toInt.toNat + 1 by omega, h76, hq0]; rfl) hG hS (lv_sub hl [0, 1, 2, 3] rfl)
      have e81 : (gs g 100 0 x1.toInt) 104 0 = g 104 0 := by rw [gs_c _ _ _ _ (by decide)]
      exact L_121 (((gs g 100 0 x1.toInt) 104 0 - x60.toInt) + 1).toNat x60 x3 _ _ ls (by omega) (by omega) (by rw [show x60.toInt.toNat = 0 by omega]; show _ = (0 : Int); omega) hG hS (lv_sub hl [0, 1, 2, 3] rfl)

set_option maxHeartbeats 4000000 in
set_option maxRecDepth 100000 in
/-- WeekBankModel.feed:  -/
theorem k_X9_feed (l : Launch) (dC : Nat → ClassId) (dI : Nat → Nat → Nat) (dA : Nat → ClassId) (sz : Nat) (X : va_W) (Γ : ty_G) (hU : Un Γ) (g : gh) (h0 : Nat) (t_h0 : ty Γ h0 30) (p1 : Int32) (p2 : Int32) (p3 : Int32) (p4 : Int32) (p5 : Int32) (g1 : 0 ≤ g 114 0 ∧ g 114 0 ≤ 300) : Met l yX9_feed (.code yX9_feed cX9_feed 8 (Option.some Jvm.ClassFile.FieldType.int) :: AL) ({ frames := 0, cells := 0, slots := 0, locals := 0 }) (PCx dC dI dA sz X Γ g [.ref h0, .int p1, .int p2, .int p3, .int p4, .int p5]) (va_Qi (fun (r : Int32) (u : gh) => (∀ c j : Nat, c ≠ 100 → c ≠ 113 → c ≠ 114 → u c j = g c j) ∧ ((g 114 0 ≤ 280 → r.toInt = g 114 0 + 20 ∧ u 114 0 = g 114 0 + 20) ∧ (280 < g 114 0 → r.toInt = -1 ∧ u 114 0 = g 114 0)) ∧ ((g 114 0 ≤ 280 → pz_t u = pz_fk (pz_t g) (g 114 0).toNat p1 p2 p3 p4 p5 20) ∧ (280 < g 114 0 → pz_t u = pz_t g))) (okb dC dI dA sz X Γ) (ty_A sz)) 0 0 (ty_A sz) := by
  refine Met.ofW (cc := cX9_feed) (maxL := 8) (ret := (Option.some Jvm.ClassFile.FieldType.int)) (by decide) rfl ?_
  intro p e s m args below meth c s₁ B hml hv
  obtain ⟨rfl, hG, hE⟩ := hv
  have hx := B.exec
  have hb := B.bytes
  have hr := B.returns
  have hts := atoms_spec B.pre
  have hA : ∀ w ∈ AL, w.before _ s = true := fun w h => hts w (List.mem_cons_of_mem _ h)
  have hown : s.vm.findClass RX9 = some m.cls := findClass_of_methodNamed B.named
  have hlocks := B.notSynchronized
  have hS : va_S (ty_A sz) s.heap s.heap [] := va_S.rf
  have hl := lv_entry ([.ref h0, .int p1, .int p2, .int p3, .int p4, .int p5]) (n := 8) (Nat.le_of_ble_eq_true rfl)
  rw [lg_entry_eq]
  generalize (lg_sl ([.ref h0, .int p1, .int p2, .int p3, .int p4, .int p5]) ++ List.replicate (8 - (lg_sl ([.ref h0, .int p1, .int p2, .int p3, .int p4, .int p5])).length) Slot.unset).toArray = ls at hl ⊢
  have hl : lv_has ls 8 [(0, .ref h0), (1, .int p1), (2, .int p2), (3, .int p3), (4, .int p4), (5, .int p5)] := hl
  refine lv_aload_n hx hb dX9_feed_0 rfl (lv_at hl 0 rfl) ?_
  refine ty_iconst hx hb (0) dX9_feed_1 (by decide) (fun x1 h2 => ?_)
  refine put_X9_0 hx hb hA hown hE hG hS hU t_h0 wd_4_130 dX9_feed_2 (fun H locs hG hS => ?_)
  refine lv_aload_n hx hb dX9_feed_5 rfl (lv_at hl 0 rfl) ?_
  refine get_X9_14 hx hb hA hown hE hG t_h0 wd_4_144 dX9_feed_6 (fun x3 h4 => ?_)
  replace h4 : x3.toInt = g 114 0 := by rw [h4, gs_c _ _ _ _ (by decide)]
  refine ty_bipush hx hb (20) dX9_feed_9 (by decide) (fun x6 h7 => ?_)
  refine ty_iadd hx hb dX9_feed_11 (fun x8 h9 => ?_)
  try have h10 : x8.toInt = x3.toInt + x6.toInt := ty_add h9 (by omega) (by omega)
  refine ty_sipush hx hb (300) dX9_feed_12 (by decide) (fun x11 h12 => ?_)
  refine ty_icmp_le (tgt := 20) hx hb dX9_feed_15 (by decide) (fun c13 => ?_) (fun c13 => ?_)
  · skip
    refine ty_iconst hx hb (0) dX9_feed_20 (by decide) (fun x14 h15 => ?_)
    refine lv_istore (lv' := [(6, .int x14), (0, .ref h0), (1, .int p1), (2, .int p2), (3, .int p3), (4, .int p4), (5, .int p5)]) hx hb dX9_feed_21 hl (by decide) rfl (fun ls hl => ?_)
    have e17 : (gs g 100 0 x1.toInt) 114 0 = g 114 0 := by rw [gs_c _ _ _ _ (by decide)]
    have L_23 : ∀ (n : Nat) (k : Int32) (g16 : gh) (H : Heap) (locs : List Loc) (ls : Array Slot), (20 - k.toInt : Int) < n → 0 ≤ k.toInt ∧ k.toInt ≤ 20 → g16 114 0 = g 114 0 + k.toInt → (∀ c j : Nat, c ≠ 113 → c ≠ 114 → g16 c j = (gs g 100 0 x1.toInt) c j) → (pz_t g16 = pz_fk (pz_t g) (g 114 0).toNat p1 p2 p3 p4 p5 k.toInt.toNat) → ty_ok (dC, dI) vwCl Γ (TP dA Γ g16) sz X H → va_S (ty_A sz) s.heap H locs → lv_has ls 8 [(6, .int k), (0, .ref h0), (1, .int p1), (2, .int p2), (3, .int p3), (4, .int p4), (5, .int p5)] → W p l e (headSpec (.code yX9_feed cX9_feed 8 (Option.some Jvm.ClassFile.FieldType.int) :: AL) ({ frames := 0, cells := 0, slots := 0, locals := 0 })).room s m ([.ref h0, .int p1, .int p2, .int p3, .int p4, .int p5] : List Value).toArray below meth c H locs 0 0 (MQ below (va_Qi (fun (r : Int32) (u : gh) => (∀ c j : Nat, c ≠ 100 → c ≠ 113 → c ≠ 114 → u c j = g c j) ∧ ((g 114 0 ≤ 280 → r.toInt = g 114 0 + 20 ∧ u 114 0 = g 114 0 + 20) ∧ (280 < g 114 0 → r.toInt = -1 ∧ u 114 0 = g 114 0)) ∧ ((g 114 0 ≤ 280 → pz_t u = pz_fk (pz_t g) (g 114 0).toNat p1 p2 p3 p4 p5 20) ∧ (280 < g 114 0 → pz_t u = pz_t g))) (okb dC dI dA sz X Γ) (ty_A sz)) ([.ref h0, .int p1, .int p2, .int p3, .int p4, .int p5] : List Value).toArray s 0 0 (ty_A sz)) (F0 m 23 ls []) := by
      intro n
      induction n with
      | zero => intro k g16 H locs ls hm hi0 hi1 hf18 hq0 hG hS hl; exfalso; omega
      | succ n ih_23 =>
        intro k g16 H locs ls hm hi0 hi1 hf18 hq0 hG hS hl
        refine lv_iload hx hb dX9_feed_23 (lv_at hl 0 rfl) ?_
        refine ty_bipush hx hb (20) dX9_feed_25 (by decide) (fun x19 h20 => ?_)
        refine ty_icmp_ge (tgt := 117) hx hb dX9_feed_27 (by decide) (fun c21 => ?_) (fun c21 => ?_)
        · skip
          refine lv_aload_n hx hb dX9_feed_117 rfl (lv_at hl 1 rfl) ?_
          refine get_X9_14 hx hb hA hown hE hG t_h0 wd_4_144 dX9_feed_118 (fun x22 h23 => ?_)
          exact W.iret (v := x22) hx hb hr (fun t ht hW => ⟨⟨x22, g16, rfl, ⟨(fun c j h100 h113 h114 => by rw [hf18 c j h113 h114, gs_c _ _ _ _ h100]), (by omega), (⟨fun q => by have h9 := hq0; rw [show k.toInt.toNat = 20 by omega] at h9; exact h9, fun q => absurd q (by omega)⟩)⟩, ok1 ht hG⟩, hS.F ht⟩) hS.2.2 dX9_feed_121
        · skip
          refine lv_iload hx hb dX9_feed_30 (lv_at hl 0 rfl) ?_
          refine ty_iconst hx hb (4) dX9_feed_32 (by decide) (fun x25 h26 => ?_)
          refine ty_icmp_ge (tgt := 40) hx hb dX9_feed_33 (by decide) (fun c27 => ?_) (fun c27 => ?_)
          · skip
            refine lv_iload hx hb dX9_feed_40 (lv_at hl 0 rfl) ?_
            refine ty_bipush hx hb (8) dX9_feed_42 (by decide) (fun x28 h29 => ?_)
            refine ty_icmp_ge (tgt := 51) hx hb dX9_feed_44 (by decide) (fun c30 => ?_) (fun c30 => ?_)
            · skip
              refine lv_iload hx hb dX9_feed_51 (lv_at hl 0 rfl) ?_
              refine ty_bipush hx hb (12) dX9_feed_53 (by decide) (fun x31 h32 => ?_)
              refine ty_icmp_ge (tgt := 62) hx hb dX9_feed_55 (by decide) (fun c33 => ?_) (fun c33 => ?_)
              · skip
                refine lv_iload hx hb dX9_feed_62 (lv_at hl 0 rfl) ?_
                refine ty_bipush hx hb (16) dX9_feed_64 (by decide) (fun x34 h35 => ?_)
                refine ty_icmp_ge (tgt := 74) hx hb dX9_feed_66 (by decide) (fun c36 => ?_) (fun c36 => ?_)
                · skip
                  refine lv_iload hx hb dX9_feed_74 (lv_at hl 6 rfl) ?_
                  refine lv_istore (lv' := [(7, .int p5), (6, .int k), (0, .ref h0), (1, .int p1), (2, .int p2), (3, .int p3), (4, .int p4), (5, .int p5)]) hx hb dX9_feed_76 hl (by decide) rfl (fun ls hl => ?_)
                  refine lv_aload_n hx hb dX9_feed_78 rfl (lv_at hl 2 rfl) ?_
                  refine get_X9_13 hx hb hA hown hE hG t_h0 wd_4_143 dX9_feed_79 (fun b37 (t_b37 : ty Γ b37 113) => ?_)
                  refine lv_aload_n hx hb dX9_feed_82 rfl (lv_at hl 2 rfl) ?_
                  refine get_X9_14 hx hb hA hown hE hG t_h0 wd_4_144 dX9_feed_83 (fun x38 h39 => ?_)
                  refine lv_iload hx hb dX9_feed_86 (lv_at hl 0 rfl) ?_
                  refine ty_bipush hx hb (24) dX9_feed_88 (by decide) (fun x41 h42 => ?_)
                  refine ty_bipush hx hb (8) dX9_feed_90 (by decide) (fun x43 h44 => ?_)
                  refine lv_iload hx hb dX9_feed_92 (lv_at hl 1 rfl) ?_
                  refine ty_iconst hx hb (4) dX9_feed_94 (by decide) (fun x45 h46 => ?_)
                  refine lv_irem hx hb dX9_feed_95 (fun h0 => by have := ty_c0.mp h0; omega) ?_
                  refine lv_topi (fun x47 h48 => ?_)
                  have h49 := pz_rem4b (k := k) (y := x45) (by omega) (by omega) h48
                  refine ty_imul hx hb dX9_feed_96 (fun x50 h51 => ?_)
                  try have h52 : x50.toInt = 8 * x47.toInt := ty_mull h51 (by omega) (by omega) (by omega)
                  refine ty_isub hx hb dX9_feed_97 (fun x53 h54 => ?_)
                  try have h55 : x53.toInt = x41.toInt - x50.toInt := ty_sub h54 (by omega) (by omega)
                  refine lv_ishr hx hb dX9_feed_98 ?_
                  refine lv_topi (fun x56 h57 => ?_)
                  refine lv_i2b hx hb dX9_feed_99 rfl ?_
                  refine lv_topi (fun x58 h59 => ?_)
                  have hnb9 := (pz_nb x58).2
                  refine ast_mB hx hb hE hG hS hU 13 rfl (n := 300) rfl (lo := -128) (hi := 127) rfl rfl rfl t_b37 (by omega) (by omega) dX9_feed_100 (fun H locs hG hS => ?_)
                  refine lv_aload_n hx hb dX9_feed_101 rfl (lv_at hl 2 rfl) ?_
                  refine lv_dup hx hb dX9_feed_102 rfl ?_
                  refine get_X9_14 hx hb hA hown hE hG t_h0 wd_4_144 dX9_feed_103 (fun x60 h61 => ?_)
                  replace h61 : x60.toInt = g16 114 0 := by rw [h61, gs_c _ _ _ _ (by decide)]
                  refine ty_iconst hx hb (1) dX9_feed_106 (by decide) (fun x63 h64 => ?_)
                  refine ty_iadd hx hb dX9_feed_107 (fun x65 h66 => ?_)
                  try have h67 : x65.toInt = x60.toInt + x63.toInt := ty_add h66 (by omega) (by omega)
                  refine put_X9_14 hx hb hA hown hE hG hS hU t_h0 wd_4_144 dX9_feed_108 (fun H locs hG hS => ?_)
                  obtain ⟨x68, h69⟩ : ∃ y : Int32, y = k + Int32.ofInt (1) := ⟨_, rfl⟩
                  try have h70 : x68.toInt = k.toInt + (1) := ty_inc h69 (by decide) (by omega) (by omega)
                  refine lv_iinc (v := x68) (lv' := [(6, .int x68), (7, .int p5), (0, .ref h0), (1, .int p1), (2, .int p2), (3, .int p3), (4, .int p4), (5, .int p5)]) hx hb dX9_feed_111 hl (k := 1) rfl h69.symm (by decide) rfl (fun ls hl => ?_)
                  refine lv_goto (tgt := 23) hx hb dX9_feed_114 (by decide) ?_
                  have e71 : (gs (gs g16 113 x38.toInt.toNat (vp_nar .byte x58).toInt) 114 0 x65.toInt) 114 0 = x65.toInt := by rw [gs_self]
                  exact ih_23 x68 (gs (gs g16 113 x38.toInt.toNat (vp_nar .byte x58).toInt) 114 0 x65.toInt) _ _ ls (by omega) (by omega) (by omega) (fun c j h113 h114 => by rw [gs_c _ _ _ _ h114, gs_c _ _ _ _ h113, hf18 c j h113 h114]) (by rw [pz_t_up, hq0, show x68.toInt.toNat = k.toInt.toNat + 1 by omega]; show _ = pz_up (pz_fk (pz_t g) (g 114 0).toNat p1 p2 p3 p4 p5 k.toInt.toNat) ((g 114 0).toNat + k.toInt.toNat) (pz_by (pz_sel p1 p2 p3 p4 p5 k.toInt.toNat) (k.toInt.toNat % 4)); rw [pz_sel5 (by omega), show x38.toInt.toNat = (g 114 0).toNat + k.toInt.toNat by omega, pz_by_m (m := k.toInt.toNat % 4) (by omega) (by omega) h57 h59]) hG hS (lv_sub hl [0, 2, 3, 4, 5, 6, 7] rfl)
                · skip
                  refine lv_iload hx hb dX9_feed_69 (lv_at hl 5 rfl) ?_
                  refine lv_goto (tgt := 76) hx hb dX9_feed_71 (by decide) ?_
                  refine lv_istore (lv' := [(7, .int p4), (6, .int k), (0, .ref h0), (1, .int p1), (2, .int p2), (3, .int p3), (4, .int p4), (5, .int p5)]) hx hb dX9_feed_76 hl (by decide) rfl (fun ls hl => ?_)
                  refine lv_aload_n hx hb dX9_feed_78 rfl (lv_at hl 2 rfl) ?_
                  refine get_X9_13 hx hb hA hown hE hG t_h0 wd_4_143 dX9_feed_79 (fun b72 (t_b72 : ty Γ b72 113) => ?_)
                  refine lv_aload_n hx hb dX9_feed_82 rfl (lv_at hl 2 rfl) ?_
                  refine get_X9_14 hx hb hA hown hE hG t_h0 wd_4_144 dX9_feed_83 (fun x73 h74 => ?_)
                  refine lv_iload hx hb dX9_feed_86 (lv_at hl 0 rfl) ?_
                  refine ty_bipush hx hb (24) dX9_feed_88 (by decide) (fun x76 h77 => ?_)
                  refine ty_bipush hx hb (8) dX9_feed_90 (by decide) (fun x78 h79 => ?_)
                  refine lv_iload hx hb dX9_feed_92 (lv_at hl 1 rfl) ?_
                  refine ty_iconst hx hb (4) dX9_feed_94 (by decide) (fun x80 h81 => ?_)
                  refine lv_irem hx hb dX9_feed_95 (fun h0 => by have := ty_c0.mp h0; omega) ?_
                  refine lv_topi (fun x82 h83 => ?_)
                  have h84 := pz_rem4b (k := k) (y := x80) (by omega) (by omega) h83
                  refine ty_imul hx hb dX9_feed_96 (fun x85 h86 => ?_)
                  try have h87 : x85.toInt = 8 * x82.toInt := ty_mull h86 (by omega) (by omega) (by omega)
                  refine ty_isub hx hb dX9_feed_97 (fun x88 h89 => ?_)
                  try have h90 : x88.toInt = x76.toInt - x85.toInt := ty_sub h89 (by omega) (by omega)
                  refine lv_ishr hx hb dX9_feed_98 ?_
                  refine lv_topi (fun x91 h92 => ?_)
                  refine lv_i2b hx hb dX9_feed_99 rfl ?_
                  refine lv_topi (fun x93 h94 => ?_)
                  have hnb9 := (pz_nb x93).2
                  refine ast_mB hx hb hE hG hS hU 13 rfl (n := 300) rfl (lo := -128) (hi := 127) rfl rfl rfl t_b72 (by omega) (by omega) dX9_feed_100 (fun H locs hG hS => ?_)
                  refine lv_aload_n hx hb dX9_feed_101 rfl (lv_at hl 2 rfl) ?_
                  refine lv_dup hx hb dX9_feed_102 rfl ?_
                  refine get_X9_14 hx hb hA hown hE hG t_h0 wd_4_144 dX9_feed_103 (fun x95 h96 => ?_)
                  replace h96 : x95.toInt = g16 114 0 := by rw [h96, gs_c _ _ _ _ (by decide)]
                  refine ty_iconst hx hb (1) dX9_feed_106 (by decide) (fun x98 h99 => ?_)
                  refine ty_iadd hx hb dX9_feed_107 (fun x100 h101 => ?_)
                  try have h102 : x100.toInt = x95.toInt + x98.toInt := ty_add h101 (by omega) (by omega)
                  refine put_X9_14 hx hb hA hown hE hG hS hU t_h0 wd_4_144 dX9_feed_108 (fun H locs hG hS => ?_)
                  obtain ⟨x103, h104⟩ : ∃ y : Int32, y = k + Int32.ofInt (1) := ⟨_, rfl⟩
                  try have h105 : x103.toInt = k.toInt + (1) := ty_inc h104 (by decide) (by omega) (by omega)
                  refine lv_iinc (v := x103) (lv' := [(6, .int x103), (7, .int p4), (0, .ref h0), (1, .int p1), (2, .int p2), (3, .int p3), (4, .int p4), (5, .int p5)]) hx hb dX9_feed_111 hl (k := 1) rfl h104.symm (by decide) rfl (fun ls hl => ?_)
                  refine lv_goto (tgt := 23) hx hb dX9_feed_114 (by decide) ?_
                  have e106 : (gs (gs g16 113 x73.toInt.toNat (vp_nar .byte x93).toInt) 114 0 x100.toInt) 114 0 = x100.toInt := by rw [gs_self]
                  exact ih_23 x103 (gs (gs g16 113 x73.toInt.toNat (vp_nar .byte x93).toInt) 114 0 x100.toInt) _ _ ls (by omega) (by omega) (by omega) (fun c j h113 h114 => by rw [gs_c _ _ _ _ h114, gs_c _ _ _ _ h113, hf18 c j h113 h114]) (by rw [pz_t_up, hq0, show x103.toInt.toNat = k.toInt.toNat + 1 by omega]; show _ = pz_up (pz_fk (pz_t g) (g 114 0).toNat p1 p2 p3 p4 p5 k.toInt.toNat) ((g 114 0).toNat + k.toInt.toNat) (pz_by (pz_sel p1 p2 p3 p4 p5 k.toInt.toNat) (k.toInt.toNat % 4)); rw [pz_sel4 (by omega) (by omega), show x73.toInt.toNat = (g 114 0).toNat + k.toInt.toNat by omega, pz_by_m (m := k.toInt.toNat % 4) (by omega) (by omega) h92 h94]) hG hS (lv_sub hl [0, 2, 3, 4, 5, 6, 7] rfl)
              · skip
                refine lv_iload_n hx hb dX9_feed_58 rfl (lv_at hl 4 rfl) ?_
                refine lv_goto (tgt := 76) hx hb dX9_feed_59 (by decide) ?_
                refine lv_istore (lv' := [(7, .int p3), (6, .int k), (0, .ref h0), (1, .int p1), (2, .int p2), (3, .int p3), (4, .int p4), (5, .int p5)]) hx hb dX9_feed_76 hl (by decide) rfl (fun ls hl => ?_)
                refine lv_aload_n hx hb dX9_feed_78 rfl (lv_at hl 2 rfl) ?_
                refine get_X9_13 hx hb hA hown hE hG t_h0 wd_4_143 dX9_feed_79 (fun b107 (t_b107 : ty Γ b107 113) => ?_)
                refine lv_aload_n hx hb dX9_feed_82 rfl (lv_at hl 2 rfl) ?_
                refine get_X9_14 hx hb hA hown hE hG t_h0 wd_4_144 dX9_feed_83 (fun x108 h109 => ?_)
                refine lv_iload hx hb dX9_feed_86 (lv_at hl 0 rfl) ?_
                refine ty_bipush hx hb (24) dX9_feed_88 (by decide) (fun x111 h112 => ?_)
                refine ty_bipush hx hb (8) dX9_feed_90 (by decide) (fun x113 h114 => ?_)
                refine lv_iload hx hb dX9_feed_92 (lv_at hl 1 rfl) ?_
                refine ty_iconst hx hb (4) dX9_feed_94 (by decide) (fun x115 h116 => ?_)
                refine lv_irem hx hb dX9_feed_95 (fun h0 => by have := ty_c0.mp h0; omega) ?_
                refine lv_topi (fun x117 h118 => ?_)
                have h119 := pz_rem4b (k := k) (y := x115) (by omega) (by omega) h118
                refine ty_imul hx hb dX9_feed_96 (fun x120 h121 => ?_)
                try have h122 : x120.toInt = 8 * x117.toInt := ty_mull h121 (by omega) (by omega) (by omega)
                refine ty_isub hx hb dX9_feed_97 (fun x123 h124 => ?_)
                try have h125 : x123.toInt = x111.toInt - x120.toInt := ty_sub h124 (by omega) (by omega)
                refine lv_ishr hx hb dX9_feed_98 ?_
                refine lv_topi (fun x126 h127 => ?_)
                refine lv_i2b hx hb dX9_feed_99 rfl ?_
                refine lv_topi (fun x128 h129 => ?_)
                have hnb9 := (pz_nb x128).2
                refine ast_mB hx hb hE hG hS hU 13 rfl (n := 300) rfl (lo := -128) (hi := 127) rfl rfl rfl t_b107 (by omega) (by omega) dX9_feed_100 (fun H locs hG hS => ?_)
                refine lv_aload_n hx hb dX9_feed_101 rfl (lv_at hl 2 rfl) ?_
                refine lv_dup hx hb dX9_feed_102 rfl ?_
                refine get_X9_14 hx hb hA hown hE hG t_h0 wd_4_144 dX9_feed_103 (fun x130 h131 => ?_)
                replace h131 : x130.toInt = g16 114 0 := by rw [h131, gs_c _ _ _ _ (by decide)]
                refine ty_iconst hx hb (1) dX9_feed_106 (by decide) (fun x133 h134 => ?_)
                refine ty_iadd hx hb dX9_feed_107 (fun x135 h136 => ?_)
                try have h137 : x135.toInt = x130.toInt + x133.toInt := ty_add h136 (by omega) (by omega)
                refine put_X9_14 hx hb hA hown hE hG hS hU t_h0 wd_4_144 dX9_feed_108 (fun H locs hG hS => ?_)
                obtain ⟨x138, h139⟩ : ∃ y : Int32, y = k + Int32.ofInt (1) := ⟨_, rfl⟩
                try have h140 : x138.toInt = k.toInt + (1) := ty_inc h139 (by decide) (by omega) (by omega)
                refine lv_iinc (v := x138) (lv' := [(6, .int x138), (7, .int p3), (0, .ref h0), (1, .int p1), (2, .int p2), (3, .int p3), (4, .int p4), (5, .int p5)]) hx hb dX9_feed_111 hl (k := 1) rfl h139.symm (by decide) rfl (fun ls hl => ?_)
                refine lv_goto (tgt := 23) hx hb dX9_feed_114 (by decide) ?_
                have e141 : (gs (gs g16 113 x108.toInt.toNat (vp_nar .byte x128).toInt) 114 0 x135.toInt) 114 0 = x135.toInt := by rw [gs_self]
                exact ih_23 x138 (gs (gs g16 113 x108.toInt.toNat (vp_nar .byte x128).toInt) 114 0 x135.toInt) _ _ ls (by omega) (by omega) (by omega) (fun c j h113 h114 => by rw [gs_c _ _ _ _ h114, gs_c _ _ _ _ h113, hf18 c j h113 h114]) (by rw [pz_t_up, hq0, show x138.toInt.toNat = k.toInt.toNat + 1 by omega]; show _ = pz_up (pz_fk (pz_t g) (g 114 0).toNat p1 p2 p3 p4 p5 k.toInt.toNat) ((g 114 0).toNat + k.toInt.toNat) (pz_by (pz_sel p1 p2 p3 p4 p5 k.toInt.toNat) (k.toInt.toNat % 4)); rw [pz_sel3 (by omega) (by omega), show x108.toInt.toNat = (g 114 0).toNat + k.toInt.toNat by omega, pz_by_m (m := k.toInt.toNat % 4) (by omega) (by omega) h127 h129]) hG hS (lv_sub hl [0, 2, 3, 4, 5, 6, 7] rfl)
            · skip
              refine lv_iload_n hx hb dX9_feed_47 rfl (lv_at hl 3 rfl) ?_
              refine lv_goto (tgt := 76) hx hb dX9_feed_48 (by decide) ?_
              refine lv_istore (lv' := [(7, .int p2), (6, .int k), (0, .ref h0), (1, .int p1), (2, .int p2), (3, .int p3), (4, .int p4), (5, .int p5)]) hx hb dX9_feed_76 hl (by decide) rfl (fun ls hl => ?_)
              refine lv_aload_n hx hb dX9_feed_78 rfl (lv_at hl 2 rfl) ?_
              refine get_X9_13 hx hb hA hown hE hG t_h0 wd_4_143 dX9_feed_79 (fun b142 (t_b142 : ty Γ b142 113) => ?_)
              refine lv_aload_n hx hb dX9_feed_82 rfl (lv_at hl 2 rfl) ?_
              refine get_X9_14 hx hb hA hown hE hG t_h0 wd_4_144 dX9_feed_83 (fun x143 h144 => ?_)
              refine lv_iload hx hb dX9_feed_86 (lv_at hl 0 rfl) ?_
              refine ty_bipush hx hb (24) dX9_feed_88 (by decide) (fun x146 h147 => ?_)
              refine ty_bipush hx hb (8) dX9_feed_90 (by decide) (fun x148 h149 => ?_)
              refine lv_iload hx hb dX9_feed_92 (lv_at hl 1 rfl) ?_
              refine ty_iconst hx hb (4) dX9_feed_94 (by decide) (fun x150 h151 => ?_)
              refine lv_irem hx hb dX9_feed_95 (fun h0 => by have := ty_c0.mp h0; omega) ?_
              refine lv_topi (fun x152 h153 => ?_)
              have h154 := pz_rem4b (k := k) (y := x150) (by omega) (by omega) h153
              refine ty_imul hx hb dX9_feed_96 (fun x155 h156 => ?_)
              try have h157 : x155.toInt = 8 * x152.toInt := ty_mull h156 (by omega) (by omega) (by omega)
              refine ty_isub hx hb dX9_feed_97 (fun x158 h159 => ?_)
              try have h160 : x158.toInt = x146.toInt - x155.toInt := ty_sub h159 (by omega) (by omega)
              refine lv_ishr hx hb dX9_feed_98 ?_
              refine lv_topi (fun x161 h162 => ?_)
              refine lv_i2b hx hb dX9_feed_99 rfl ?_
              refine lv_topi (fun x163 h164 => ?_)
              have hnb9 := (pz_nb x163).2
              refine ast_mB hx hb hE hG hS hU 13 rfl (n := 300) rfl (lo := -128) (hi := 127) rfl rfl rfl t_b142 (by omega) (by omega) dX9_feed_100 (fun H locs hG hS => ?_)
              refine lv_aload_n hx hb dX9_feed_101 rfl (lv_at hl 2 rfl) ?_
              refine lv_dup hx hb dX9_feed_102 rfl ?_
              refine get_X9_14 hx hb hA hown hE hG t_h0 wd_4_144 dX9_feed_103 (fun x165 h166 => ?_)
              replace h166 : x165.toInt = g16 114 0 := by rw [h166, gs_c _ _ _ _ (by decide)]
              refine ty_iconst hx hb (1) dX9_feed_106 (by decide) (fun x168 h169 => ?_)
              refine ty_iadd hx hb dX9_feed_107 (fun x170 h171 => ?_)
              try have h172 : x170.toInt = x165.toInt + x168.toInt := ty_add h171 (by omega) (by omega)
              refine put_X9_14 hx hb hA hown hE hG hS hU t_h0 wd_4_144 dX9_feed_108 (fun H locs hG hS => ?_)
              obtain ⟨x173, h174⟩ : ∃ y : Int32, y = k + Int32.ofInt (1) := ⟨_, rfl⟩
              try have h175 : x173.toInt = k.toInt + (1) := ty_inc h174 (by decide) (by omega) (by omega)
              refine lv_iinc (v := x173) (lv' := [(6, .int x173), (7, .int p2), (0, .ref h0), (1, .int p1), (2, .int p2), (3, .int p3), (4, .int p4), (5, .int p5)]) hx hb dX9_feed_111 hl (k := 1) rfl h174.symm (by decide) rfl (fun ls hl => ?_)
              refine lv_goto (tgt := 23) hx hb dX9_feed_114 (by decide) ?_
              have e176 : (gs (gs g16 113 x143.toInt.toNat (vp_nar .byte x163).toInt) 114 0 x170.toInt) 114 0 = x170.toInt := by rw [gs_self]
              exact ih_23 x173 (gs (gs g16 113 x143.toInt.toNat (vp_nar .byte x163).toInt) 114 0 x170.toInt) _ _ ls (by omega) (by omega) (by omega) (fun c j h113 h114 => by rw [gs_c _ _ _ _ h114, gs_c _ _ _ _ h113, hf18 c j h113 h114]) (by rw [pz_t_up, hq0, show x173.toInt.toNat = k.toInt.toNat + 1 by omega]; show _ = pz_up (pz_fk (pz_t g) (g 114 0).toNat p1 p2 p3 p4 p5 k.toInt.toNat) ((g 114 0).toNat + k.toInt.toNat) (pz_by (pz_sel p1 p2 p3 p4 p5 k.toInt.toNat) (k.toInt.toNat % 4)); rw [pz_sel2 (by omega) (by omega), show x143.toInt.toNat = (g 114 0).toNat + k.toInt.toNat by omega, pz_by_m (m := k.toInt.toNat % 4) (by omega) (by omega) h162 h164]) hG hS (lv_sub hl [0, 2, 3, 4, 5, 6, 7] rfl)
          · skip
            refine lv_iload_n hx hb dX9_feed_36 rfl (lv_at hl 2 rfl) ?_
            refine lv_goto (tgt := 76) hx hb dX9_feed_37 (by decide) ?_
            refine lv_istore (lv' := [(7, .int p1), (6, .int k), (0, .ref h0), (1, .int p1), (2, .int p2), (3, .int p3), (4, .int p4), (5, .int p5)]) hx hb dX9_feed_76 hl (by decide) rfl (fun ls hl => ?_)
            refine lv_aload_n hx hb dX9_feed_78 rfl (lv_at hl 2 rfl) ?_
            refine get_X9_13 hx hb hA hown hE hG t_h0 wd_4_143 dX9_feed_79 (fun b177 (t_b177 : ty Γ b177 113) => ?_)
            refine lv_aload_n hx hb dX9_feed_82 rfl (lv_at hl 2 rfl) ?_
            refine get_X9_14 hx hb hA hown hE hG t_h0 wd_4_144 dX9_feed_83 (fun x178 h179 => ?_)
            refine lv_iload hx hb dX9_feed_86 (lv_at hl 0 rfl) ?_
            refine ty_bipush hx hb (24) dX9_feed_88 (by decide) (fun x181 h182 => ?_)
            refine ty_bipush hx hb (8) dX9_feed_90 (by decide) (fun x183 h184 => ?_)
            refine lv_iload hx hb dX9_feed_92 (lv_at hl 1 rfl) ?_
            refine ty_iconst hx hb (4) dX9_feed_94 (by decide) (fun x185 h186 => ?_)
            refine lv_irem hx hb dX9_feed_95 (fun h0 => by have := ty_c0.mp h0; omega) ?_
            refine lv_topi (fun x187 h188 => ?_)
            have h189 := pz_rem4b (k := k) (y := x185) (by omega) (by omega) h188
            refine ty_imul hx hb dX9_feed_96 (fun x190 h191 => ?_)
            try have h192 : x190.toInt = 8 * x187.toInt := ty_mull h191 (by omega) (by omega) (by omega)
            refine ty_isub hx hb dX9_feed_97 (fun x193 h194 => ?_)
            try have h195 : x193.toInt = x181.toInt - x190.toInt := ty_sub h194 (by omega) (by omega)
            refine lv_ishr hx hb dX9_feed_98 ?_
            refine lv_topi (fun x196 h197 => ?_)
            refine lv_i2b hx hb dX9_feed_99 rfl ?_
            refine lv_topi (fun x198 h199 => ?_)
            have hnb9 := (pz_nb x198).2
            refine ast_mB hx hb hE hG hS hU 13 rfl (n := 300) rfl (lo := -128) (hi := 127) rfl rfl rfl t_b177 (by omega) (by omega) dX9_feed_100 (fun H locs hG hS => ?_)
            refine lv_aload_n hx hb dX9_feed_101 rfl (lv_at hl 2 rfl) ?_
            refine lv_dup hx hb dX9_feed_102 rfl ?_
            refine get_X9_14 hx hb hA hown hE hG t_h0 wd_4_144 dX9_feed_103 (fun x200 h201 => ?_)
            replace h201 : x200.toInt = g16 114 0 := by rw [h201, gs_c _ _ _ _ (by decide)]
            refine ty_iconst hx hb (1) dX9_feed_106 (by decide) (fun x203 h204 => ?_)
            refine ty_iadd hx hb dX9_feed_107 (fun x205 h206 => ?_)
            try have h207 : x205.toInt = x200.toInt + x203.toInt := ty_add h206 (by omega) (by omega)
            refine put_X9_14 hx hb hA hown hE hG hS hU t_h0 wd_4_144 dX9_feed_108 (fun H locs hG hS => ?_)
            obtain ⟨x208, h209⟩ : ∃ y : Int32, y = k + Int32.ofInt (1) := ⟨_, rfl⟩
            try have h210 : x208.toInt = k.toInt + (1) := ty_inc h209 (by decide) (by omega) (by omega)
            refine lv_iinc (v := x208) (lv' := [(6, .int x208), (7, .int p1), (0, .ref h0), (1, .int p1), (2, .int p2), (3, .int p3), (4, .int p4), (5, .int p5)]) hx hb dX9_feed_111 hl (k := 1) rfl h209.symm (by decide) rfl (fun ls hl => ?_)
            refine lv_goto (tgt := 23) hx hb dX9_feed_114 (by decide) ?_
            have e211 : (gs (gs g16 113 x178.toInt.toNat (vp_nar .byte x198).toInt) 114 0 x205.toInt) 114 0 = x205.toInt := by rw [gs_self]
            exact ih_23 x208 (gs (gs g16 113 x178.toInt.toNat (vp_nar .byte x198).toInt) 114 0 x205.toInt) _ _ ls (by omega) (by omega) (by omega) (fun c j h113 h114 => by rw [gs_c _ _ _ _ h114, gs_c _ _ _ _ h113, hf18 c j h113 h114]) (by rw [pz_t_up, hq0, show x208.toInt.toNat = k.toInt.toNat + 1 by omega]; show _ = pz_up (pz_fk (pz_t g) (g 114 0).toNat p1 p2 p3 p4 p5 k.toInt.toNat) ((g 114 0).toNat + k.toInt.toNat) (pz_by (pz_sel p1 p2 p3 p4 p5 k.toInt.toNat) (k.toInt.toNat % 4)); rw [pz_sel1 (by omega), show x178.toInt.toNat = (g 114 0).toNat + k.toInt.toNat by omega, pz_by_m (m := k.toInt.toNat % 4) (by omega) (by omega) h197 h199]) hG hS (lv_sub hl [0, 2, 3, 4, 5, 6, 7] rfl)
    have e212 : (gs g 100 0 x1.toInt) 114 0 = g 114 0 := by rw [gs_c _ _ _ _ (by decide)]
    exact L_23 ((20 - x14.toInt) + 1).toNat x14 (gs g 100 0 x1.toInt) _ _ ls (by omega) (by omega) (by omega) (fun c j _ _ => rfl) (by rw [show x14.toInt.toNat = 0 by omega]; exact funext fun j => by show (gs g 100 0 x1.toInt) 113 j % 256 = g 113 j % 256; rw [gs_c _ _ _ _ (by decide)]) hG hS (lv_sub hl [0, 1, 2, 3, 4, 5, 6] rfl)
  · skip
    refine ty_iconst hx hb (-1) dX9_feed_18 (by decide) (fun x213 h214 => ?_)
    have e215 : (gs g 100 0 x1.toInt) 114 0 = g 114 0 := by rw [gs_c _ _ _ _ (by decide)]
    exact W.iret (v := x213) hx hb hr (fun t ht hW => ⟨⟨x213, (gs g 100 0 x1.toInt), rfl, ⟨(fun c j h100 h113 h114 => by rw [gs_c _ _ _ _ h100]), (by omega), (⟨fun q => absurd q (by omega), fun _ => funext fun j => by show (gs g 100 0 x1.toInt) 113 j % 256 = g 113 j % 256; rw [gs_c _ _ _ _ (by decide)]⟩)⟩, ok1 ht hG⟩, hS.F ht⟩) hS.2.2 dX9_feed_19
