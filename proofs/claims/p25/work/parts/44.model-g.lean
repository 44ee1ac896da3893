set_option maxHeartbeats 4000000 in
set_option maxRecDepth 100000 in
/-- WeekBankModel.dies:  -/
theorem k_X9_dies (l : Launch) (dC : Nat → ClassId) (dI : Nat → Nat → Nat) (dA : Nat → ClassId) (sz : Nat) (X : va_W) (Γ : ty_G) (hU : Un Γ) (g : gh) (h0 : Nat) (t_h0 : ty Γ h0 30) (p1 : Int32) (p2 : Int32) (p3 : Int32) (m4 : 0 ≤ g 104 0 ∧ g 104 0 ≤ 10) (m26 : 0 ≤ g 126 0 ∧ g 126 0 ≤ 200) (m22 : 0 ≤ g 122 0 ∧ g 122 0 ≤ 30) (hIJ : IJ g) : Met l yX9_dies (.code yX9_dies cX9_dies 7 (Option.some Jvm.ClassFile.FieldType.int) :: AL) ({ frames := 1, cells := 0, slots := 0, locals := 22 }) (PCx dC dI dA sz X Γ g [.ref h0, .int p1, .int p2, .int p3]) (va_Qi (fun (r : Int32) (u : gh) => (∀ c j : Nat, c ≠ 100 → c ≠ 106 → c ≠ 108 → c ≠ 109 → c ≠ 132 → c ≠ 135 → u c j = g c j) ∧ (IJ u) ∧ (((0 ≤ p1.toInt ∧ p1.toInt < g 104 0 ∧ g 108 p1.toInt.toNat = 0 ∧ 0 ≤ p2.toInt ∧ p2.toInt < g 104 0 ∧ g 108 p2.toInt.toNat = 0 ∧ p1.toInt ≠ p2.toInt) → r.toInt = (if hb_f (g 123) (g 122 0).toNat ≠ 0 ∨ p3.toInt ≠ 0 then (cnt 318 (g 109) p1.toInt : Int) else 0) ∧ u 108 = pz_up (g 108) p1.toInt.toNat 1 ∧ u 135 = pz_up (g 135) (4 * (200 + p1.toInt.toNat) + 3) 0 ∧ u 132 = dy_f (g 132) (g 127) p1.toInt (g 126 0).toNat ∧ u 109 = (if hb_f (g 123) (g 122 0).toNat ≠ 0 ∨ p3.toInt ≠ 0 then pr_f (g 109) p1.toInt p2.toInt 318 else pr_f (g 109) p1.toInt (-1) 318) ∧ u 106 = (if hb_f (g 123) (g 122 0).toNat ≠ 0 ∨ p3.toInt ≠ 0 then pz_up (pz_up (g 106) p2.toInt.toNat (wa (g 106 p2.toInt.toNat) (g 106 p1.toInt.toNat))) p1.toInt.toNat 0 else pz_up (g 106) p1.toInt.toNat 0)) ∧ (¬ ((0 ≤ p1.toInt ∧ p1.toInt < g 104 0 ∧ g 108 p1.toInt.toNat = 0 ∧ 0 ≤ p2.toInt ∧ p2.toInt < g 104 0 ∧ g 108 p2.toInt.toNat = 0 ∧ p1.toInt ≠ p2.toInt)) → r.toInt = -1 ∧ u 108 = g 108 ∧ u 135 = g 135 ∧ u 132 = g 132 ∧ u 109 = g 109 ∧ u 106 = g 106))) (okb dC dI dA sz X Γ) (ty_A sz)) 0 0 (ty_A sz) := by
  refine Met.ofW (cc := cX9_dies) (maxL := 7) (ret := (Option.some Jvm.ClassFile.FieldType.int)) (by decide) rfl ?_
  intro p e s m args below meth c s₁ B hml hv
  obtain ⟨rfl, hG, hE⟩ := hv
  have hx := B.exec
  have hb := B.bytes
  have hr := B.returns
  have hts := atoms_spec B.pre
  have hA : ∀ w ∈ AL, w.before _ s = true := fun w h => hts w (List.mem_cons_of_mem _ h)
  have hown : s.vm.findClass RX9 = some m.cls := findClass_of_methodNamed B.named
  have hlocks := B.notSynchronized
  have hS : va_S (ty_A sz) s.heap s.heap [] := va_S.rf
  have hl := lv_entry ([.ref h0, .int p1, .int p2, .int p3]) (n := 7) (Nat.le_of_ble_eq_true rfl)
  rw [lg_entry_eq]
  generalize (lg_sl ([.ref h0, .int p1, .int p2, .int p3]) ++ List.replicate (7 - (lg_sl ([.ref h0, .int p1, .int p2, .int p3])).length) Slot.unset).toArray = ls at hl ⊢
  have hl : lv_has ls 7 [(0, .ref h0), (1, .int p1), (2, .int p2), (3, .int p3)] := hl
  refine lv_aload_n hx hb dX9_dies_0 rfl (lv_at hl 0 rfl) ?_
  refine ty_iconst hx hb (0) dX9_dies_1 (by decide) (fun x1 h2 => ?_)
  refine put_X9_0 hx hb hA hown hE hG hS hU t_h0 wd_4_130 dX9_dies_2 (fun H locs hG hS => ?_)
  refine lv_aload_n hx hb dX9_dies_5 rfl (lv_at hl 0 rfl) ?_
  refine lv_iload_n hx hb dX9_dies_6 rfl (lv_at hl 1 rfl) ?_
  have e3 : (gs g 100 0 x1.toInt) 104 0 = g 104 0 := by rw [gs_c _ _ _ _ (by decide)]
  have e4 : (gs g 100 0 x1.toInt) 104 0 = g 104 0 := by rw [gs_c _ _ _ _ (by decide)]
  have e5 : (gs g 100 0 x1.toInt) 108 p1.toInt.toNat = g 108 p1.toInt.toNat := by rw [gs_c _ _ _ _ (by decide)]
  refine cI (va_runV (C := RX9) (As := [.int p1]) (rest := []) ⟨hx, hb, hml, hown, hA⟩ (k_X9_isAlive l dC dI dA sz X Γ hU (gs g 100 0 x1.toInt) h0 t_h0 p1   (by omega)) ⟨callB_of 1 hA (al_A wd_5_54) rfl rfl rfl (hA _ wd_1_7) (hA _ wd_5_51) (by decide +kernel) ⟨Nat.le_of_ble_eq_true rfl, Nat.le_of_ble_eq_true rfl⟩, hA _ wd_5_53, hA _ ws_37⟩ ⟨bl, recv_X9 hE hG t_h0, fun U hU9 hW9 => ⟨rfl, by rw [hU9]; exact hG, hE.go hS hU9 hW9⟩⟩ rfl rfl hl.1 rfl (lv_room (Nat.le_of_ble_eq_true rfl)) dX9_dies_7 ⟨Nat.zero_le _, Nat.zero_le _⟩) hS (fun x8 u6 H locs w7 hG hS => ?_)
  obtain ⟨eu9, w7⟩ := w7
  rw [eu9] at hG
  rcases pz_or w7 with w7 | w7
  · skip
    refine ty_if_eq (tgt := 26) hx hb dX9_dies_10 (by decide) (fun c10 => ?_) (fun c10 => ?_)
    · exfalso; omega
    · skip
      refine lv_aload_n hx hb dX9_dies_13 rfl (lv_at hl 0 rfl) ?_
      refine lv_iload_n hx hb dX9_dies_14 rfl (lv_at hl 2 rfl) ?_
      have e11 : (gs g 100 0 x1.toInt) 104 0 = g 104 0 := by rw [gs_c _ _ _ _ (by decide)]
      have e12 : (gs g 100 0 x1.toInt) 104 0 = g 104 0 := by rw [gs_c _ _ _ _ (by decide)]
      have e13 : (gs g 100 0 x1.toInt) 108 p2.toInt.toNat = g 108 p2.toInt.toNat := by rw [gs_c _ _ _ _ (by decide)]
      refine cI (va_runV (C := RX9) (As := [.int p2]) (rest := []) ⟨hx, hb, hml, hown, hA⟩ (k_X9_isAlive l dC dI dA sz X Γ hU (gs g 100 0 x1.toInt) h0 t_h0 p2   (by omega)) ⟨callB_of 1 hA (al_A wd_5_54) rfl rfl rfl (hA _ wd_1_7) (hA _ wd_5_51) (by decide +kernel) ⟨Nat.le_of_ble_eq_true rfl, Nat.le_of_ble_eq_true rfl⟩, hA _ wd_5_53, hA _ ws_37⟩ ⟨bl, recv_X9 hE hG t_h0, fun U hU9 hW9 => ⟨rfl, by rw [hU9]; exact hG, hE.go hS hU9 hW9⟩⟩ rfl rfl hl.1 rfl (lv_room (Nat.le_of_ble_eq_true rfl)) dX9_dies_15 ⟨Nat.zero_le _, Nat.zero_le _⟩) hS (fun x16 u14 H locs w15 hG hS => ?_)
      obtain ⟨eu17, w15⟩ := w15
      rw [eu17] at hG
      rcases pz_or w15 with w15 | w15
      · skip
        refine ty_if_eq (tgt := 26) hx hb dX9_dies_18 (by decide) (fun c18 => ?_) (fun c18 => ?_)
        · exfalso; omega
        · skip
          refine lv_iload_n hx hb dX9_dies_21 rfl (lv_at hl 1 rfl) ?_
          refine lv_iload_n hx hb dX9_dies_22 rfl (lv_at hl 2 rfl) ?_
          refine ty_icmp_ne (tgt := 28) hx hb dX9_dies_23 (by decide) (fun c19 => ?_) (fun c19 => ?_)
          · skip
            refine lv_iload_n hx hb dX9_dies_28 rfl (lv_at hl 3 rfl) ?_
            refine ty_if_ne (tgt := 39) hx hb dX9_dies_29 (by decide) (fun c20 => ?_) (fun c20 => ?_)
            · skip
              refine ty_iconst hx hb (1) dX9_dies_39 (by decide) (fun x21 h22 => ?_)
              refine lv_goto (tgt := 44) hx hb dX9_dies_40 (by decide) ?_
              refine lv_istore (lv' := [(4, .int x21), (0, .ref h0), (1, .int p1), (2, .int p2), (3, .int p3)]) hx hb dX9_dies_44 hl (by decide) rfl (fun ls hl => ?_)
              refine ty_iconst hx hb (0) dX9_dies_46 (by decide) (fun x23 h24 => ?_)
              refine lv_istore (lv' := [(5, .int x23), (4, .int x21), (0, .ref h0), (1, .int p1), (2, .int p2), (3, .int p3)]) hx hb dX9_dies_47 hl (by decide) rfl (fun ls hl => ?_)
              refine ty_iconst hx hb (0) dX9_dies_49 (by decide) (fun x25 h26 => ?_)
              refine lv_istore (lv' := [(6, .int x25), (5, .int x23), (4, .int x21), (0, .ref h0), (1, .int p1), (2, .int p2), (3, .int p3)]) hx hb dX9_dies_50 hl (by decide) rfl (fun ls hl => ?_)
              have L_52 : ∀ (n : Nat) (v6_52 : Int32) (v5_52 : Int32) (g27 : gh) (H : Heap) (locs : List Loc) (ls : Array Slot), (318 - v6_52.toInt : Int) < n → 0 ≤ v6_52.toInt ∧ v6_52.toInt ≤ 318 → (∀ c j : Nat, c ≠ 109 → g27 c j = (gs g 100 0 x1.toInt) c j) → (g27 109 = pr_f (g 109) p1.toInt p2.toInt v6_52.toInt.toNat) → (v5_52.toInt = (cnt v6_52.toInt.toNat (g 109) p1.toInt : Int)) → ty_ok (dC, dI) vwCl Γ (TP dA Γ g27) sz X H → va_S (ty_A sz) s.heap H locs → lv_has ls 7 [(6, .int v6_52), (5, .int v5_52), (4, .int x21), (0, .ref h0), (1, .int p1), (2, .int p2), (3, .int p3)] → W p l e (headSpec (.code yX9_dies cX9_dies 7 (Option.some Jvm.ClassFile.FieldType.int) :: AL) ({ frames := 1, cells := 0, slots := 0, locals := 22 })).room s m ([.ref h0, .int p1, .int p2, .int p3] : List Value).toArray below meth c H locs 0 0 (MQ below (va_Qi (fun (r : Int32) (u : gh) => (∀ c j : Nat, c ≠ 100 → c ≠ 106 → c ≠ 108 → c ≠ 109 → c ≠ 132 → c ≠ 135 → u c j = g c j) ∧ (IJ u) ∧ (((0 ≤ p1.toInt ∧ p1.toInt < g 104 0 ∧ g 108 p1.toInt.toNat = 0 ∧ 0 ≤ p2.toInt ∧ p2.toInt < g 104 0 ∧ g 108 p2.toInt.toNat = 0 ∧ p1.toInt ≠ p2.toInt) → r.toInt = (if hb_f (g 123) (g 122 0).toNat ≠ 0 ∨ p3.toInt ≠ 0 then (cnt 318 (g 109) p1.toInt : Int) else 0) ∧ u 108 = pz_up (g 108) p1.toInt.toNat 1 ∧ u 135 = pz_up (g 135) (4 * (200 + p1.toInt.toNat) + 3) 0 ∧ u 132 = dy_f (g 132) (g 127) p1.toInt (g 126 0).toNat ∧ u 109 = (if hb_f (g 123) (g 122 0).toNat ≠ 0 ∨ p3.toInt ≠ 0 then pr_f (g 109) p1.toInt p2.toInt 318 else pr_f (g 109) p1.toInt (-1) 318) ∧ u 106 = (if hb_f (g 123) (g 122 0).toNat ≠ 0 ∨ p3.toInt ≠ 0 then pz_up (pz_up (g 106) p2.toInt.toNat (wa (g 106 p2.toInt.toNat) (g 106 p1.toInt.toNat))) p1.toInt.toNat 0 else pz_up (g 106) p1.toInt.toNat 0)) ∧ (¬ ((0 ≤ p1.toInt ∧ p1.toInt < g 104 0 ∧ g 108 p1.toInt.toNat = 0 ∧ 0 ≤ p2.toInt ∧ p2.toInt < g 104 0 ∧ g 108 p2.toInt.toNat = 0 ∧ p1.toInt ≠ p2.toInt)) → r.toInt = -1 ∧ u 108 = g 108 ∧ u 135 = g 135 ∧ u 132 = g 132 ∧ u 109 = g 109 ∧ u 106 = g 106))) (okb dC dI dA sz X Γ) (ty_A sz)) ([.ref h0, .int p1, .int p2, .int p3] : List Value).toArray s 0 0 (ty_A sz)) (F0 m 52 ls []) := by
                intro n
                induction n with
                | zero => intro v6_52 v5_52 g27 H locs ls hm hi0 hf28 ha0 ha1 hG hS hl; exfalso; omega
                | succ n ih_52 =>
                  intro v6_52 v5_52 g27 H locs ls hm hi0 hf28 ha0 ha1 hG hS hl
                  have hj29 : IJ g27 := IJ_cg (hf28 126 0 (by decide)) (fun j => hf28 132 j (by decide)) (fun j => hf28 134 j (by decide)) (by (repeat (first | with_reducible assumption | (refine IJ_c (by decide) (by decide) (by decide) ?_) | (refine IJ_take (by omega) (by omega) ?_) | (refine IJ_how (by omega) ?_) | (refine IJ_by (by omega) ?_))))
                  have he9 : g27 109 v6_52.toInt.toNat = g 109 v6_52.toInt.toNat := by rw [ha0]; exact pr_at
                  refine lv_iload hx hb dX9_dies_52 (lv_at hl 0 rfl) ?_
                  refine ty_sipush hx hb (318) dX9_dies_54 (by decide) (fun x30 h31 => ?_)
                  refine ty_icmp_ge (tgt := 105) hx hb dX9_dies_57 (by decide) (fun c32 => ?_) (fun c32 => ?_)
                  · skip
                    refine lv_iload hx hb dX9_dies_105 (lv_at hl 2 rfl) ?_
                    refine ty_if_eq (tgt := 125) hx hb dX9_dies_107 (by decide) (fun c33 => ?_) (fun c33 => ?_)
                    · exfalso; omega
                    · skip
                      refine lv_aload_n hx hb dX9_dies_110 rfl (lv_at hl 3 rfl) ?_
                      refine get_X9_6 hx hb hA hown hE hG t_h0 wd_4_136 dX9_dies_111 (fun b34 (t_b34 : ty Γ b34 106) => ?_)
                      refine lv_iload_n hx hb dX9_dies_114 rfl (lv_at hl 5 rfl) ?_
                      refine lv_dup2_11 hx hb dX9_dies_115 rfl rfl ?_
                      refine ald_mI hx hb hE hG 6 rfl (n := 10) rfl (lo := -2147483648) (hi := 2147483647) rfl rfl t_b34 (by omega) dX9_dies_116 (fun j36 x35 h37 h38 h39 => ?_)
                      clear h39
                      obtain rfl : j36 = p2.toInt.toNat := by omega
                      replace h38 : x35.toInt = g27 106 p2.toInt.toNat := h38
                      have hk40 : g27 106 p2.toInt.toNat = (gs g 100 0 x1.toInt) 106 p2.toInt.toNat := hf28 106 p2.toInt.toNat (by decide)
                      replace hk40 : g27 106 p2.toInt.toNat = g 106 p2.toInt.toNat := by rw [hk40, gs_c _ _ _ _ (by decide)]
                      replace h38 : x35.toInt = g 106 p2.toInt.toNat := by rw [h38, hf28 106 p2.toInt.toNat (by decide), gs_c _ _ _ _ (by decide)]
                      refine lv_aload_n hx hb dX9_dies_117 rfl (lv_at hl 3 rfl) ?_
                      refine get_X9_6 hx hb hA hown hE hG t_h0 wd_4_136 dX9_dies_118 (fun b41 (t_b41 : ty Γ b41 106) => ?_)
                      refine lv_iload_n hx hb dX9_dies_121 rfl (lv_at hl 4 rfl) ?_
                      refine ald_mI hx hb hE hG 6 rfl (n := 10) rfl (lo := -2147483648) (hi := 2147483647) rfl rfl t_b41 (by omega) dX9_dies_122 (fun j43 x42 h44 h45 h46 => ?_)
                      clear h46
                      obtain rfl : j43 = p1.toInt.toNat := by omega
                      replace h45 : x42.toInt = g27 106 p1.toInt.toNat := h45
                      have hk47 : g27 106 p1.toInt.toNat = (gs g 100 0 x1.toInt) 106 p1.toInt.toNat := hf28 106 p1.toInt.toNat (by decide)
                      replace hk47 : g27 106 p1.toInt.toNat = g 106 p1.toInt.toNat := by rw [hk47, gs_c _ _ _ _ (by decide)]
                      replace h45 : x42.toInt = g 106 p1.toInt.toNat := by rw [h45, hf28 106 p1.toInt.toNat (by decide), gs_c _ _ _ _ (by decide)]
                      refine ty_iadd hx hb dX9_dies_123 (fun x48 h49 => ?_)
                      have h50 : x48.toInt = wa (g 106 p2.toInt.toNat) (g 106 p1.toInt.toNat) := by rw [ty_wa h49, h38, h45]
                      refine ast_mI hx hb hE hG hS hU 6 rfl (n := 10) rfl (lo := -2147483648) (hi := 2147483647) rfl rfl rfl t_b34 (rgD _) (by omega) dX9_dies_124 (fun H locs hG hS => ?_)
                      refine lv_aload_n hx hb dX9_dies_125 rfl (lv_at hl 3 rfl) ?_
                      refine get_X9_6 hx hb hA hown hE hG t_h0 wd_4_136 dX9_dies_126 (fun b51 (t_b51 : ty Γ b51 106) => ?_)
                      refine lv_iload_n hx hb dX9_dies_129 rfl (lv_at hl 4 rfl) ?_
                      refine ty_iconst hx hb (0) dX9_dies_130 (by decide) (fun x52 h53 => ?_)
                      refine ast_mI hx hb hE hG hS hU 6 rfl (n := 10) rfl (lo := -2147483648) (hi := 2147483647) rfl rfl rfl t_b51 (rgD _) (by omega) dX9_dies_131 (fun H locs hG hS => ?_)
                      refine lv_aload_n hx hb dX9_dies_132 rfl (lv_at hl 3 rfl) ?_
                      refine get_X9_8 hx hb hA hown hE hG t_h0 wd_4_138 dX9_dies_133 (fun b54 (t_b54 : ty Γ b54 108) => ?_)
                      refine lv_iload_n hx hb dX9_dies_136 rfl (lv_at hl 4 rfl) ?_
                      refine ty_iconst hx hb (1) dX9_dies_137 (by decide) (fun x55 h56 => ?_)
                      refine ast_mZ hx hb hE hG hS hU 8 rfl (n := 10) rfl (lo := 0) (hi := 1) rfl rfl rfl t_b54 (by omega) (by omega) (by omega) dX9_dies_138 (fun H locs hG hS => ?_)
                      generalize eg58 : (gs (gs (gs g27 106 p2.toInt.toNat x48.toInt) 106 p1.toInt.toNat x52.toInt) 108 p1.toInt.toNat x55.toInt) = g57 at hG
                      have hf59 : ∀ c j : Nat, c ≠ 106 → c ≠ 108 → g57 c j = g27 c j := fun c j h106 h108 => by rw [← eg58, gs_c _ _ _ _ h108, gs_c _ _ _ _ h106, gs_c _ _ _ _ h106]
                      have v60 : g57 106 p1.toInt.toNat = x52.toInt := by rw [← eg58, gs_c _ _ _ _ (by decide), gs_self]
                      have hw61 : g57 106 = (pz_up (pz_up (g 106) p2.toInt.toNat x48.toInt) p1.toInt.toNat x52.toInt) := by rw [← eg58, gs_r _ _ _ (by decide), pz_gs, pz_gs, (show g27 106 = (gs g 100 0 x1.toInt) 106 from funext fun j => hf28 106 j (by decide)), gs_r _ _ _ (by decide)]
                      have v62 : g57 108 p1.toInt.toNat = x55.toInt := by rw [← eg58, gs_self]
                      have hw63 : g57 108 = (pz_up (g 108) p1.toInt.toNat x55.toInt) := by rw [← eg58, pz_gs, gs_r _ _ _ (by decide), gs_r _ _ _ (by decide), (show g27 108 = (gs g 100 0 x1.toInt) 108 from funext fun j => hf28 108 j (by decide)), gs_r _ _ _ (by decide)]
                      have hj64 : IJ g57 := IJ_cg (hf59 126 0 (by decide) (by decide)) (fun j => hf59 132 j (by decide) (by decide)) (fun j => hf59 134 j (by decide) (by decide)) (by (repeat (first | with_reducible assumption | (refine IJ_c (by decide) (by decide) (by decide) ?_) | (refine IJ_take (by omega) (by omega) ?_) | (refine IJ_how (by omega) ?_) | (refine IJ_by (by omega) ?_))))
                      refine lv_aload_n hx hb dX9_dies_139 rfl (lv_at hl 3 rfl) ?_
                      refine get_X9_35 hx hb hA hown hE hG t_h0 wd_4_165 dX9_dies_140 (fun b65 (t_b65 : ty Γ b65 135) => ?_)
                      refine ty_iconst hx hb (4) dX9_dies_143 (by decide) (fun x66 h67 => ?_)
                      refine ty_sipush hx hb (200) dX9_dies_144 (by decide) (fun x68 h69 => ?_)
                      refine lv_iload_n hx hb dX9_dies_147 rfl (lv_at hl 4 rfl) ?_
                      refine ty_iadd hx hb dX9_dies_148 (fun x70 h71 => ?_)
                      try have h72 : x70.toInt = x68.toInt + p1.toInt := ty_add h71 (by omega) (by omega)
                      refine ty_imul hx hb dX9_dies_149 (fun x73 h74 => ?_)
                      try have h75 : x73.toInt = 4 * x70.toInt := ty_mull h74 (by omega) (by omega) (by omega)
                      refine ty_iconst hx hb (3) dX9_dies_150 (by decide) (fun x76 h77 => ?_)
                      refine ty_iadd hx hb dX9_dies_151 (fun x78 h79 => ?_)
                      try have h80 : x78.toInt = x73.toInt + x76.toInt := ty_add h79 (by omega) (by omega)
                      refine ty_iconst hx hb (0) dX9_dies_152 (by decide) (fun x81 h82 => ?_)
                      refine ast_mI hx hb hE hG hS hU 35 rfl (n := 840) rfl (lo := -2147483648) (hi := 2147483647) rfl rfl rfl t_b65 (rgD _) (by omega) dX9_dies_153 (fun H locs hG hS => ?_)
                      rw [show x78.toInt.toNat = (4 * (200 + p1.toInt.toNat) + 3) by omega] at hG
                      refine ty_iconst hx hb (0) dX9_dies_154 (by decide) (fun x83 h84 => ?_)
                      refine lv_istore (lv' := [(6, .int x83), (5, .int v5_52), (4, .int x21), (0, .ref h0), (1, .int p1), (2, .int p2), (3, .int p3)]) hx hb dX9_dies_155 hl (by decide) rfl (fun ls hl => ?_)
                      have hk86 : g57 126 0 = g27 126 0 := hf59 126 0 (by decide) (by decide)
                      have hk87 : g27 126 0 = (gs g 100 0 x1.toInt) 126 0 := hf28 126 0 (by decide)
                      replace hk87 : g27 126 0 = g 126 0 := by rw [hk87, gs_c _ _ _ _ (by decide)]
                      have e88 : (gs g57 135 (4 * (200 + p1.toInt.toNat) + 3) x81.toInt) 126 0 = g57 126 0 := by rw [gs_c _ _ _ _ (by decide)]
                      have L_157 : ∀ (n : Nat) (v6_157 : Int32) (g85 : gh) (H : Heap) (locs : List Loc) (ls : Array Slot), (g85 126 0 - v6_157.toInt : Int) < n → 0 ≤ v6_157.toInt ∧ v6_157.toInt ≤ g85 126 0 → (∀ c j : Nat, c ≠ 132 → g85 c j = (gs g57 135 (4 * (200 + p1.toInt.toNat) + 3) x81.toInt) c j) → (IJ g85) → (g85 132 = dy_f (g 132) (g 127) p1.toInt v6_157.toInt.toNat) → ty_ok (dC, dI) vwCl Γ (TP dA Γ g85) sz X H → va_S (ty_A sz) s.heap H locs → lv_has ls 7 [(6, .int v6_157), (5, .int v5_52), (4, .int x21), (0, .ref h0), (1, .int p1), (2, .int p2), (3, .int p3)] → W p l e (headSpec (.code yX9_dies cX9_dies 7 (Option.some Jvm.ClassFile.FieldType.int) :: AL) ({ frames := 1, cells := 0, slots := 0, locals := 22 })).room s m ([.ref h0, .int p1, .int p2, .int p3] : List Value).toArray below meth c H locs 0 0 (MQ below (va_Qi (fun (r : Int32) (u : gh) => (∀ c j : Nat, c ≠ 100 → c ≠ 106 → c ≠ 108 → c ≠ 109 → c ≠ 132 → c ≠ 135 → u c j = g c j) ∧ (IJ u) ∧ (((0 ≤ p1.toInt ∧ p1.toInt < g 104 0 ∧ g 108 p1.toInt.toNat = 0 ∧ 0 ≤ p2.toInt ∧ p2.toInt < g 104 0 ∧ g 108 p2.toInt.toNat = 0 ∧ p1.toInt ≠ p2.toInt) → r.toInt = (if hb_f (g 123) (g 122 0).toNat ≠ 0 ∨ p3.toInt ≠ 0 then (cnt 318 (g 109) p1.toInt : Int) else 0) ∧ u 108 = pz_up (g 108) p1.toInt.toNat 1 ∧ u 135 = pz_up (g 135) (4 * (200 + p1.toInt.toNat) + 3) 0 ∧ u 132 = dy_f (g 132) (g 127) p1.toInt (g 126 0).toNat ∧ u 109 = (if hb_f (g 123) (g 122 0).toNat ≠ 0 ∨ p3.toInt ≠ 0 then pr_f (g 109) p1.toInt p2.toInt 318 else pr_f (g 109) p1.toInt (-1) 318) ∧ u 106 = (if hb_f (g 123) (g 122 0).toNat ≠ 0 ∨ p3.toInt ≠ 0 then pz_up (pz_up (g 106) p2.toInt.toNat (wa (g 106 p2.toInt.toNat) (g 106 p1.toInt.toNat))) p1.toInt.toNat 0 else pz_up (g 106) p1.toInt.toNat 0)) ∧ (¬ ((0 ≤ p1.toInt ∧ p1.toInt < g 104 0 ∧ g 108 p1.toInt.toNat = 0 ∧ 0 ≤ p2.toInt ∧ p2.toInt < g 104 0 ∧ g 108 p2.toInt.toNat = 0 ∧ p1.toInt ≠ p2.toInt)) → r.toInt = -1 ∧ u 108 = g 108 ∧ u 135 = g 135 ∧ u 132 = g 132 ∧ u 109 = g 109 ∧ u 106 = g 106))) (okb dC dI dA sz X Γ) (ty_A sz)) ([.ref h0, .int p1, .int p2, .int p3] : List Value).toArray s 0 0 (ty_A sz)) (F0 m 157 ls []) := by
                        intro n
                        induction n with
                        | zero => intro v6_157 g85 H locs ls hm hi0 hf89 hq0 hq1 hG hS hl; exfalso; omega
                        | succ n ih_157 =>
                          intro v6_157 g85 H locs ls hm hi0 hf89 hq0 hq1 hG hS hl
                          have hk90 : g85 126 0 = (gs g57 135 (4 * (200 + p1.toInt.toNat) + 3) x81.toInt) 126 0 := hf89 126 0 (by decide)
                          replace hk90 : g85 126 0 = g57 126 0 := by rw [hk90, gs_c _ _ _ _ (by decide)]
                          have he8 : g85 132 v6_157.toInt.toNat = g 132 v6_157.toInt.toNat := by rw [hq1]; exact dy_at
                          refine lv_iload hx hb dX9_dies_157 (lv_at hl 0 rfl) ?_
                          refine lv_aload_n hx hb dX9_dies_159 rfl (lv_at hl 3 rfl) ?_
                          refine get_X9_26 hx hb hA hown hE hG t_h0 wd_4_156 dX9_dies_160 (fun x91 h92 => ?_)
                          replace h92 : x91.toInt = g 126 0 := by rw [h92, hf89 126 0 (by decide), gs_c _ _ _ _ (by decide), hf59 126 0 (by decide) (by decide), hf28 126 0 (by decide), gs_c _ _ _ _ (by decide)]
                          refine ty_icmp_ge (tgt := 201) hx hb dX9_dies_163 (by decide) (fun c94 => ?_) (fun c94 => ?_)
                          · skip
                            refine lv_iload hx hb dX9_dies_201 (lv_at hl 1 rfl) ?_
                            have hin9 : (hb_f (g 123) (g 122 0).toNat ≠ 0 ∨ p3.toInt ≠ 0) := by omega
                            exact W.iret (v := v5_52) hx hb hr (fun t ht hW => ⟨⟨v5_52, g85, rfl, ⟨(fun c j h100 h106 h108 h109 h132 h135 => by rw [hf89 c j h132, gs_c _ _ _ _ h135, hf59 c j h106 h108, hf28 c j h109, gs_c _ _ _ _ h100]), (by (repeat (first | with_reducible assumption | (refine IJ_c (by decide) (by decide) (by decide) ?_) | (refine IJ_take (by omega) (by omega) ?_) | (refine IJ_how (by omega) ?_) | (refine IJ_by (by omega) ?_)))), (⟨fun _ => ⟨(by rw [if_pos hin9]; rw [← show v6_52.toInt.toNat = 318 by omega]; omega), (by rw [(show g85 108 = (gs g57 135 (4 * (200 + p1.toInt.toNat) + 3) x81.toInt) 108 from funext fun j => hf89 108 j (by decide)), gs_r _ _ _ (by decide), hw63] <;> exact pz_upc (by omega) (by omega)), (by rw [(show g85 135 = (gs g57 135 (4 * (200 + p1.toInt.toNat) + 3) x81.toInt) 135 from funext fun j => hf89 135 j (by decide)), pz_gs, (show g57 135 = g27 135 from funext fun j => hf59 135 j (by decide) (by decide)), (show g27 135 = (gs g 100 0 x1.toInt) 135 from funext fun j => hf28 135 j (by decide)), gs_r _ _ _ (by decide)] <;> exact pz_upc (by omega) (by omega)), (by rw [hq1, show v6_157.toInt.toNat = (g 126 0).toNat by omega]), (by rw [if_pos hin9]; rw [(show g85 109 = (gs g57 135 (4 * (200 + p1.toInt.toNat) + 3) x81.toInt) 109 from funext fun j => hf89 109 j (by decide)), gs_r _ _ _ (by decide), (show g57 109 = g27 109 from funext fun j => hf59 109 j (by decide) (by decide)), ha0, show v6_52.toInt.toNat = 318 by omega]), (by rw [if_pos hin9]; rw [(show g85 106 = (gs g57 135 (4 * (200 + p1.toInt.toNat) + 3) x81.toInt) 106 from funext fun j => hf89 106 j (by decide)), gs_r _ _ _ (by decide), hw61] <;> exact pz_upc2 (by omega) (by omega) (by omega) (by omega))⟩, fun q => absurd (by omega) q⟩)⟩, ok1 ht hG⟩, hS.F ht⟩) hS.2.2 dX9_dies_203
                          · skip
                            refine lv_aload_n hx hb dX9_dies_166 rfl (lv_at hl 3 rfl) ?_
                            refine get_X9_27 hx hb hA hown hE hG t_h0 wd_4_157 dX9_dies_167 (fun b95 (t_b95 : ty Γ b95 127) => ?_)
                            refine lv_iload hx hb dX9_dies_170 (lv_at hl 0 rfl) ?_
                            refine ald_mI hx hb hE hG 27 rfl (n := 200) rfl (lo := 0) (hi := 9) rfl rfl t_b95 (by omega) dX9_dies_172 (fun j97 x96 h98 h99 h100 => ?_)
                            obtain rfl : j97 = v6_157.toInt.toNat := by omega
                            replace h99 : x96.toInt = g85 127 v6_157.toInt.toNat := h99
                            have hk101 : g85 127 v6_157.toInt.toNat = (gs g57 135 (4 * (200 + p1.toInt.toNat) + 3) x81.toInt) 127 v6_157.toInt.toNat := hf89 127 v6_157.toInt.toNat (by decide)
                            replace hk101 : g85 127 v6_157.toInt.toNat = g57 127 v6_157.toInt.toNat := by rw [hk101, gs_c _ _ _ _ (by decide)]
                            have hk102 : g57 127 v6_157.toInt.toNat = g27 127 v6_157.toInt.toNat := hf59 127 v6_157.toInt.toNat (by decide) (by decide)
                            have hk103 : g27 127 v6_157.toInt.toNat = (gs g 100 0 x1.toInt) 127 v6_157.toInt.toNat := hf28 127 v6_157.toInt.toNat (by decide)
                            replace hk103 : g27 127 v6_157.toInt.toNat = g 127 v6_157.toInt.toNat := by rw [hk103, gs_c _ _ _ _ (by decide)]
                            replace h99 : x96.toInt = g 127 v6_157.toInt.toNat := by rw [h99, hf89 127 v6_157.toInt.toNat (by decide), gs_c _ _ _ _ (by decide), hf59 127 v6_157.toInt.toNat (by decide) (by decide), hf28 127 v6_157.toInt.toNat (by decide), gs_c _ _ _ _ (by decide)]
                            refine lv_iload_n hx hb dX9_dies_173 rfl (lv_at hl 4 rfl) ?_
                            refine ty_icmp_ne (tgt := 195) hx hb dX9_dies_174 (by decide) (fun c104 => ?_) (fun c104 => ?_)
                            · skip
                              obtain ⟨x105, h106⟩ : ∃ y : Int32, y = v6_157 + Int32.ofInt (1) := ⟨_, rfl⟩
                              try have h107 : x105.toInt = v6_157.toInt + (1) := ty_inc h106 (by decide) (by omega) (by omega)
                              refine lv_iinc (v := x105) (lv' := [(6, .int x105), (5, .int v5_52), (4, .int x21), (0, .ref h0), (1, .int p1), (2, .int p2), (3, .int p3)]) hx hb dX9_dies_195 hl (k := 0) rfl h106.symm (by decide) rfl (fun ls hl => ?_)
                              refine lv_goto (tgt := 157) hx hb dX9_dies_198 (by decide) ?_
                              exact ih_157 x105 g85 _ _ ls (by omega) (by omega) (fun c j h132 => by rw [hf89 c j h132]) (by (repeat (first | with_reducible assumption | (refine IJ_c (by decide) (by decide) (by decide) ?_) | (refine IJ_take (by omega) (by omega) ?_) | (refine IJ_how (by omega) ?_) | (refine IJ_by (by omega) ?_)))) (dy_n (by omega) (by omega) hq1) hG hS (lv_sub hl [0, 1, 2, 3, 4, 5, 6] rfl)
                            · skip
                              refine lv_aload_n hx hb dX9_dies_177 rfl (lv_at hl 3 rfl) ?_
                              refine get_X9_32 hx hb hA hown hE hG t_h0 wd_4_162 dX9_dies_178 (fun b108 (t_b108 : ty Γ b108 132) => ?_)
                              refine lv_iload hx hb dX9_dies_181 (lv_at hl 0 rfl) ?_
                              refine ald_mI hx hb hE hG 32 rfl (n := 200) rfl (lo := 0) (hi := 5) rfl rfl t_b108 (by omega) dX9_dies_183 (fun j110 x109 h111 h112 h113 => ?_)
                              obtain rfl : j110 = v6_157.toInt.toNat := by omega
                              replace h112 : x109.toInt = g85 132 v6_157.toInt.toNat := h112
                              refine ty_if_ne (tgt := 195) hx hb dX9_dies_184 (by decide) (fun c114 => ?_) (fun c114 => ?_)
                              · skip
                                obtain ⟨x115, h116⟩ : ∃ y : Int32, y = v6_157 + Int32.ofInt (1) := ⟨_, rfl⟩
                                try have h117 : x115.toInt = v6_157.toInt + (1) := ty_inc h116 (by decide) (by omega) (by omega)
                                refine lv_iinc (v := x115) (lv' := [(6, .int x115), (5, .int v5_52), (4, .int x21), (0, .ref h0), (1, .int p1), (2, .int p2), (3, .int p3)]) hx hb dX9_dies_195 hl (k := 0) rfl h116.symm (by decide) rfl (fun ls hl => ?_)
                                refine lv_goto (tgt := 157) hx hb dX9_dies_198 (by decide) ?_
                                exact ih_157 x115 g85 _ _ ls (by omega) (by omega) (fun c j h132 => by rw [hf89 c j h132]) (by (repeat (first | with_reducible assumption | (refine IJ_c (by decide) (by decide) (by decide) ?_) | (refine IJ_take (by omega) (by omega) ?_) | (refine IJ_how (by omega) ?_) | (refine IJ_by (by omega) ?_)))) (dy_n (by omega) (by omega) hq1) hG hS (lv_sub hl [0, 1, 2, 3, 4, 5, 6] rfl)
                              · skip
                                refine lv_aload_n hx hb dX9_dies_187 rfl (lv_at hl 3 rfl) ?_
                                refine get_X9_32 hx hb hA hown hE hG t_h0 wd_4_162 dX9_dies_188 (fun b118 (t_b118 : ty Γ b118 132) => ?_)
                                refine lv_iload hx hb dX9_dies_191 (lv_at hl 0 rfl) ?_
                                refine ty_iconst hx hb (4) dX9_dies_193 (by decide) (fun x119 h120 => ?_)
                                refine ast_mI hx hb hE hG hS hU 32 rfl (n := 200) rfl (lo := 0) (hi := 5) rfl rfl rfl t_b118 (by omega) (by omega) dX9_dies_194 (fun H locs hG hS => ?_)
                                obtain ⟨x121, h122⟩ : ∃ y : Int32, y = v6_157 + Int32.ofInt (1) := ⟨_, rfl⟩
                                try have h123 : x121.toInt = v6_157.toInt + (1) := ty_inc h122 (by decide) (by omega) (by omega)
                                refine lv_iinc (v := x121) (lv' := [(6, .int x121), (5, .int v5_52), (4, .int x21), (0, .ref h0), (1, .int p1), (2, .int p2), (3, .int p3)]) hx hb dX9_dies_195 hl (k := 0) rfl h122.symm (by decide) rfl (fun ls hl => ?_)
                                refine lv_goto (tgt := 157) hx hb dX9_dies_198 (by decide) ?_
                                have e124 : (gs g85 132 v6_157.toInt.toNat x119.toInt) 126 0 = g85 126 0 := by rw [gs_c _ _ _ _ (by decide)]
                                exact ih_157 x121 (gs g85 132 v6_157.toInt.toNat x119.toInt) _ _ ls (by omega) (by omega) (fun c j h132 => by rw [gs_c _ _ _ _ h132, hf89 c j h132]) (by (repeat (first | with_reducible assumption | (refine IJ_c (by decide) (by decide) (by decide) ?_) | (refine IJ_take (by omega) (by omega) ?_) | (refine IJ_how (by omega) ?_) | (refine IJ_by (by omega) ?_)))) (by rw [pz_gs]; exact dy_s (by omega) (by omega) (by omega) (by omega) hq1) hG hS (lv_sub hl [0, 1, 2, 3, 4, 5, 6] rfl)
                      have e125 : (gs g57 135 (4 * (200 + p1.toInt.toNat) + 3) x81.toInt) 126 0 = g57 126 0 := by rw [gs_c _ _ _ _ (by decide)]
                      exact L_157 (((gs g57 135 (4 * (200 + p1.toInt.toNat) + 3) x81.toInt) 126 0 - x83.toInt) + 1).toNat x83 (gs g57 135 (4 * (200 + p1.toInt.toNat) + 3) x81.toInt) _ _ ls (by omega) (by omega) (fun c j _ => rfl) (by (repeat (first | with_reducible assumption | (refine IJ_c (by decide) (by decide) (by decide) ?_) | (refine IJ_take (by omega) (by omega) ?_) | (refine IJ_how (by omega) ?_) | (refine IJ_by (by omega) ?_)))) (by rw [gs_r _ _ _ (by decide), (show g57 132 = g27 132 from funext fun j => hf59 132 j (by decide) (by decide)), (show g27 132 = (gs g 100 0 x1.toInt) 132 from funext fun j => hf28 132 j (by decide)), gs_r _ _ _ (by decide)]; exact dy_0 (by omega)) hG hS (lv_sub hl [0, 1, 2, 3, 4, 5, 6] rfl)
                  · skip
                    refine lv_aload_n hx hb dX9_dies_60 rfl (lv_at hl 3 rfl) ?_
                    refine get_X9_9 hx hb hA hown hE hG t_h0 wd_4_139 dX9_dies_61 (fun b126 (t_b126 : ty Γ b126 109) => ?_)
                    refine lv_iload hx hb dX9_dies_64 (lv_at hl 0 rfl) ?_
                    refine ald_mI hx hb hE hG 9 rfl (n := 318) rfl (lo := -2147483648) (hi := 2147483647) rfl rfl t_b126 (by omega) dX9_dies_66 (fun j128 x127 h129 h130 h131 => ?_)
                    clear h131
                    obtain rfl : j128 = v6_52.toInt.toNat := by omega
                    replace h130 : x127.toInt = g27 109 v6_52.toInt.toNat := h130
                    refine lv_iload_n hx hb dX9_dies_67 rfl (lv_at hl 4 rfl) ?_
                    refine ty_icmp_eq (tgt := 74) hx hb dX9_dies_68 (by decide) (fun c132 => ?_) (fun c132 => ?_)
                    · skip
                      refine lv_aload_n hx hb dX9_dies_74 rfl (lv_at hl 3 rfl) ?_
                      refine get_X9_9 hx hb hA hown hE hG t_h0 wd_4_139 dX9_dies_75 (fun b133 (t_b133 : ty Γ b133 109) => ?_)
                      refine lv_iload hx hb dX9_dies_78 (lv_at hl 0 rfl) ?_
                      refine lv_iload hx hb dX9_dies_80 (lv_at hl 2 rfl) ?_
                      refine ty_if_eq (tgt := 89) hx hb dX9_dies_82 (by decide) (fun c134 => ?_) (fun c134 => ?_)
                      · exfalso; omega
                      · skip
                        refine lv_iload_n hx hb dX9_dies_85 rfl (lv_at hl 5 rfl) ?_
                        refine lv_goto (tgt := 90) hx hb dX9_dies_86 (by decide) ?_
                        refine ast_mI hx hb hE hG hS hU 9 rfl (n := 318) rfl (lo := -2147483648) (hi := 2147483647) rfl rfl rfl t_b133 (rgD _) (by omega) dX9_dies_90 (fun H locs hG hS => ?_)
                        refine lv_iload hx hb dX9_dies_91 (lv_at hl 2 rfl) ?_
                        refine ty_if_eq (tgt := 99) hx hb dX9_dies_93 (by decide) (fun c135 => ?_) (fun c135 => ?_)
                        · exfalso; omega
                        · skip
                          have hcl := cnt_le v6_52.toInt.toNat (g 109) p1.toInt
                          obtain ⟨x136, h137⟩ : ∃ y : Int32, y = v5_52 + Int32.ofInt (1) := ⟨_, rfl⟩
                          try have h138 : x136.toInt = v5_52.toInt + (1) := ty_inc h137 (by decide) (by omega) (by omega)
                          refine lv_iinc (v := x136) (lv' := [(5, .int x136), (6, .int v6_52), (4, .int x21), (0, .ref h0), (1, .int p1), (2, .int p2), (3, .int p3)]) hx hb dX9_dies_96 hl (k := 1) rfl h137.symm (by decide) rfl (fun ls hl => ?_)
                          obtain ⟨x139, h140⟩ : ∃ y : Int32, y = v6_52 + Int32.ofInt (1) := ⟨_, rfl⟩
                          try have h141 : x139.toInt = v6_52.toInt + (1) := ty_inc h140 (by decide) (by omega) (by omega)
                          refine lv_iinc (v := x139) (lv' := [(6, .int x139), (5, .int x136), (4, .int x21), (0, .ref h0), (1, .int p1), (2, .int p2), (3, .int p3)]) hx hb dX9_dies_99 hl (k := 1) rfl h140.symm (by decide) rfl (fun ls hl => ?_)
                          refine lv_goto (tgt := 52) hx hb dX9_dies_102 (by decide) ?_
                          exact ih_52 x139 x136 (gs g27 109 v6_52.toInt.toNat p2.toInt) _ _ ls (by omega) (by omega) (fun c j h109 => by rw [gs_c _ _ _ _ h109, hf28 c j h109]) (by rw [pz_gs]; exact pr_s (n := v6_52.toInt.toNat) (by omega) (by omega) rfl (by omega) ha0) (by have h9 := cnt_at (g 109) p1.toInt (i := v6_52) (i' := x139) (by omega) (by omega); omega) hG hS (lv_sub hl [0, 1, 2, 3, 4, 5, 6] rfl)
                    · skip
                      refine lv_goto (tgt := 99) hx hb dX9_dies_71 (by decide) ?_
                      obtain ⟨x142, h143⟩ : ∃ y : Int32, y = v6_52 + Int32.ofInt (1) := ⟨_, rfl⟩
                      try have h144 : x142.toInt = v6_52.toInt + (1) := ty_inc h143 (by decide) (by omega) (by omega)
                      refine lv_iinc (v := x142) (lv' := [(6, .int x142), (5, .int v5_52), (4, .int x21), (0, .ref h0), (1, .int p1), (2, .int p2), (3, .int p3)]) hx hb dX9_dies_99 hl (k := 0) rfl h143.symm (by decide) rfl (fun ls hl => ?_)
                      refine lv_goto (tgt := 52) hx hb dX9_dies_102 (by decide) ?_
                      exact ih_52 x142 v5_52 g27 _ _ ls (by omega) (by omega) (fun c j h109 => by rw [hf28 c j h109]) (pr_n (n := v6_52.toInt.toNat) (by omega) (by omega) ha0) (by have h9 := cnt_at (g 109) p1.toInt (i := v6_52) (i' := x142) (by omega) (by omega); omega) hG hS (lv_sub hl [0, 1, 2, 3, 4, 5, 6] rfl)
              exact L_52 ((318 - x25.toInt) + 1).toNat x25 x23 (gs g 100 0 x1.toInt) _ _ ls (by omega) (by omega) (fun c j _ => rfl) (by rw [gs_r _ _ _ (by decide)]; exact pr_0 (by omega)) (by rw [show x25.toInt.toNat = 0 by omega]; show _ = (0 : Int); omega) hG hS (lv_sub hl [0, 1, 2, 3, 4, 5, 6] rfl)
            · skip
              refine lv_aload_n hx hb dX9_dies_32 rfl (lv_at hl 0 rfl) ?_
              have e145 : (gs g 100 0 x1.toInt) 122 0 = g 122 0 := by rw [gs_c _ _ _ _ (by decide)]
              refine cI (va_runV (C := RX9) (As := []) (rest := []) ⟨hx, hb, hml, hown, hA⟩ (k_X9_isBound l dC dI dA sz X Γ hU (gs g 100 0 x1.toInt) h0 t_h0   (by omega)) ⟨callB_of 0 hA (al_A wd_5_209) rfl rfl rfl (hA _ wd_1_7) (hA _ wd_5_206) (by decide +kernel) ⟨Nat.le_of_ble_eq_true rfl, Nat.le_of_ble_eq_true rfl⟩, hA _ wd_5_208, hA _ ws_56⟩ ⟨bl, recv_X9 hE hG t_h0, fun U hU9 hW9 => ⟨rfl, by rw [hU9]; exact hG, hE.go hS hU9 hW9⟩⟩ rfl rfl hl.1 rfl (lv_room (Nat.le_of_ble_eq_true rfl)) dX9_dies_33 ⟨Nat.zero_le _, Nat.zero_le _⟩) hS (fun x148 u146 H locs w147 hG hS => ?_)
              obtain ⟨eu149, w147⟩ := w147
              rw [eu149] at hG
              rw [show (gs g 100 0 x1.toInt) 123 = (g 123) by rw [gs_r _ _ _ (by decide)]] at w147
              rw [show (gs g 100 0 x1.toInt) 122 = (g 122) by rw [gs_r _ _ _ (by decide)]] at w147
              refine ty_if_eq (tgt := 43) hx hb dX9_dies_36 (by decide) (fun c150 => ?_) (fun c150 => ?_)
              · skip
                refine ty_iconst hx hb (0) dX9_dies_43 (by decide) (fun x151 h152 => ?_)
                refine lv_istore (lv' := [(4, .int x151), (0, .ref h0), (1, .int p1), (2, .int p2), (3, .int p3)]) hx hb dX9_dies_44 hl (by decide) rfl (fun ls hl => ?_)
                refine ty_iconst hx hb (0) dX9_dies_46 (by decide) (fun x153 h154 => ?_)
                refine lv_istore (lv' := [(5, .int x153), (4, .int x151), (0, .ref h0), (1, .int p1), (2, .int p2), (3, .int p3)]) hx hb dX9_dies_47 hl (by decide) rfl (fun ls hl => ?_)
                refine ty_iconst hx hb (0) dX9_dies_49 (by decide) (fun x155 h156 => ?_)
                refine lv_istore (lv' := [(6, .int x155), (5, .int x153), (4, .int x151), (0, .ref h0), (1, .int p1), (2, .int p2), (3, .int p3)]) hx hb dX9_dies_50 hl (by decide) rfl (fun ls hl => ?_)
                have L_52 : ∀ (n : Nat) (v6_52 : Int32) (v5_52 : Int32) (g157 : gh) (H : Heap) (locs : List Loc) (ls : Array Slot), (318 - v6_52.toInt : Int) < n → 0 ≤ v6_52.toInt ∧ v6_52.toInt ≤ 318 → (∀ c j : Nat, c ≠ 109 → g157 c j = (gs g 100 0 x1.toInt) c j) → (g157 109 = pr_f (g 109) p1.toInt (-1) v6_52.toInt.toNat) → (v5_52.toInt = 0) → ty_ok (dC, dI) vwCl Γ (TP dA Γ g157) sz X H → va_S (ty_A sz) s.heap H locs → lv_has ls 7 [(6, .int v6_52), (5, .int v5_52), (4, .int x151), (0, .ref h0), (1, .int p1), (2, .int p2), (3, .int p3)] → W p l e (headSpec (.code yX9_dies cX9_dies 7 (Option.some Jvm.ClassFile.FieldType.int) :: AL) ({ frames := 1, cells := 0, slots := 0, locals := 22 })).room s m ([.ref h0, .int p1, .int p2, .int p3] : List Value).toArray below meth c H locs 0 0 (MQ below (va_Qi (fun (r : Int32) (u : gh) => (∀ c j : Nat, c ≠ 100 → c ≠ 106 → c ≠ 108 → c ≠ 109 → c ≠ 132 → c ≠ 135 → u c j = g c j) ∧ (IJ u) ∧ (((0 ≤ p1.toInt ∧ p1.toInt < g 104 0 ∧ g 108 p1.toInt.toNat = 0 ∧ 0 ≤ p2.toInt ∧ p2.toInt < g 104 0 ∧ g 108 p2.toInt.toNat = 0 ∧ p1.toInt ≠ p2.toInt) → r.toInt = (if hb_f (g 123) (g 122 0).toNat ≠ 0 ∨ p3.toInt ≠ 0 then (cnt 318 (g 109) p1.toInt : Int) else 0) ∧ u 108 = pz_up (g 108) p1.toInt.toNat 1 ∧ u 135 = pz_up (g 135) (4 * (200 + p1.toInt.toNat) + 3) 0 ∧ u 132 = dy_f (g 132) (g 127) p1.toInt (g 126 0).toNat ∧ u 109 = (if hb_f (g 123) (g 122 0).toNat ≠ 0 ∨ p3.toInt ≠ 0 then pr_f (g 109) p1.toInt p2.toInt 318 else pr_f (g 109) p1.toInt (-1) 318) ∧ u 106 = (if hb_f (g 123) (g 122 0).toNat ≠ 0 ∨ p3.toInt ≠ 0 then pz_up (pz_up (g 106) p2.toInt.toNat (wa (g 106 p2.toInt.toNat) (g 106 p1.toInt.toNat))) p1.toInt.toNat 0 else pz_up (g 106) p1.toInt.toNat 0)) ∧ (¬ ((0 ≤ p1.toInt ∧ p1.toInt < g 104 0 ∧ g 108 p1.toInt.toNat = 0 ∧ 0 ≤ p2.toInt ∧ p2.toInt < g 104 0 ∧ g 108 p2.toInt.toNat = 0 ∧ p1.toInt ≠ p2.toInt)) → r.toInt = -1 ∧ u 108 = g 108 ∧ u 135 = g 135 ∧ u 132 = g 132 ∧ u 109 = g 109 ∧ u 106 = g 106))) (okb dC dI dA sz X Γ) (ty_A sz)) ([.ref h0, .int p1, .int p2, .int p3] : List Value).toArray s 0 0 (ty_A sz)) (F0 m 52 ls []) := by
                  intro n
                  induction n with
                  | zero => intro v6_52 v5_52 g157 H locs ls hm hi0 hf158 ha0 ha1 hG hS hl; exfalso; omega
                  | succ n ih_52 =>
                    intro v6_52 v5_52 g157 H locs ls hm hi0 hf158 ha0 ha1 hG hS hl
                    have hj159 : IJ g157 := IJ_cg (hf158 126 0 (by decide)) (fun j => hf158 132 j (by decide)) (fun j => hf158 134 j (by decide)) (by (repeat (first | with_reducible assumption | (refine IJ_c (by decide) (by decide) (by decide) ?_) | (refine IJ_take (by omega) (by omega) ?_) | (refine IJ_how (by omega) ?_) | (refine IJ_by (by omega) ?_))))
                    have he9 : g157 109 v6_52.toInt.toNat = g 109 v6_52.toInt.toNat := by rw [ha0]; exact pr_at
                    refine lv_iload hx hb dX9_dies_52 (lv_at hl 0 rfl) ?_
                    refine ty_sipush hx hb (318) dX9_dies_54 (by decide) (fun x160 h161 => ?_)
                    refine ty_icmp_ge (tgt := 105) hx hb dX9_dies_57 (by decide) (fun c162 => ?_) (fun c162 => ?_)
                    · skip
                      refine lv_iload hx hb dX9_dies_105 (lv_at hl 2 rfl) ?_
                      refine ty_if_eq (tgt := 125) hx hb dX9_dies_107 (by decide) (fun c163 => ?_) (fun c163 => ?_)
                      · skip
                        refine lv_aload_n hx hb dX9_dies_125 rfl (lv_at hl 3 rfl) ?_
                        refine get_X9_6 hx hb hA hown hE hG t_h0 wd_4_136 dX9_dies_126 (fun b164 (t_b164 : ty Γ b164 106) => ?_)
                        refine lv_iload_n hx hb dX9_dies_129 rfl (lv_at hl 4 rfl) ?_
                        refine ty_iconst hx hb (0) dX9_dies_130 (by decide) (fun x165 h166 => ?_)
                        refine ast_mI hx hb hE hG hS hU 6 rfl (n := 10) rfl (lo := -2147483648) (hi := 2147483647) rfl rfl rfl t_b164 (rgD _) (by omega) dX9_dies_131 (fun H locs hG hS => ?_)
                        refine lv_aload_n hx hb dX9_dies_132 rfl (lv_at hl 3 rfl) ?_
                        refine get_X9_8 hx hb hA hown hE hG t_h0 wd_4_138 dX9_dies_133 (fun b167 (t_b167 : ty Γ b167 108) => ?_)
                        refine lv_iload_n hx hb dX9_dies_136 rfl (lv_at hl 4 rfl) ?_
                        refine ty_iconst hx hb (1) dX9_dies_137 (by decide) (fun x168 h169 => ?_)
                        refine ast_mZ hx hb hE hG hS hU 8 rfl (n := 10) rfl (lo := 0) (hi := 1) rfl rfl rfl t_b167 (by omega) (by omega) (by omega) dX9_dies_138 (fun H locs hG hS => ?_)
                        refine lv_aload_n hx hb dX9_dies_139 rfl (lv_at hl 3 rfl) ?_
                        refine get_X9_35 hx hb hA hown hE hG t_h0 wd_4_165 dX9_dies_140 (fun b170 (t_b170 : ty Γ b170 135) => ?_)
                        refine ty_iconst hx hb (4) dX9_dies_143 (by decide) (fun x171 h172 => ?_)
                        refine ty_sipush hx hb (200) dX9_dies_144 (by decide) (fun x173 h174 => ?_)
                        refine lv_iload_n hx hb dX9_dies_147 rfl (lv_at hl 4 rfl) ?_
                        refine ty_iadd hx hb dX9_dies_148 (fun x175 h176 => ?_)
                        try have h177 : x175.toInt = x173.toInt + p1.toInt := ty_add h176 (by omega) (by omega)
                        refine ty_imul hx hb dX9_dies_149 (fun x178 h179 => ?_)
                        try have h180 : x178.toInt = 4 * x175.toInt := ty_mull h179 (by omega) (by omega) (by omega)
                        refine ty_iconst hx hb (3) dX9_dies_150 (by decide) (fun x181 h182 => ?_)
                        refine ty_iadd hx hb dX9_dies_151 (fun x183 h184 => ?_)
                        try have h185 : x183.toInt = x178.toInt + x181.toInt := ty_add h184 (by omega) (by omega)
                        refine ty_iconst hx hb (0) dX9_dies_152 (by decide) (fun x186 h187 => ?_)
                        refine ast_mI hx hb hE hG hS hU 35 rfl (n := 840) rfl (lo := -2147483648) (hi := 2147483647) rfl rfl rfl t_b170 (rgD _) (by omega) dX9_dies_153 (fun H locs hG hS => ?_)
                        rw [show x183.toInt.toNat = (4 * (200 + p1.toInt.toNat) + 3) by omega] at hG
                        generalize eg189 : (gs (gs (gs g157 106 p1.toInt.toNat x165.toInt) 108 p1.toInt.toNat x168.toInt) 135 (4 * (200 + p1.toInt.toNat) + 3) x186.toInt) = g188 at hG
                        have hf190 : ∀ c j : Nat, c ≠ 106 → c ≠ 108 → c ≠ 135 → g188 c j = g157 c j := fun c j h106 h108 h135 => by rw [← eg189, gs_c _ _ _ _ h135, gs_c _ _ _ _ h108, gs_c _ _ _ _ h106]
                        have v191 : g188 106 p1.toInt.toNat = x165.toInt := by rw [← eg189, gs_c _ _ _ _ (by decide), gs_c _ _ _ _ (by decide), gs_self]
                        have hw192 : g188 106 = (pz_up (g 106) p1.toInt.toNat x165.toInt) := by rw [← eg189, gs_r _ _ _ (by decide), gs_r _ _ _ (by decide), pz_gs, (show g157 106 = (gs g 100 0 x1.toInt) 106 from funext fun j => hf158 106 j (by decide)), gs_r _ _ _ (by decide)]
                        have v193 : g188 108 p1.toInt.toNat = x168.toInt := by rw [← eg189, gs_c _ _ _ _ (by decide), gs_self]
                        have hw194 : g188 108 = (pz_up (g 108) p1.toInt.toNat x168.toInt) := by rw [← eg189, gs_r _ _ _ (by decide), pz_gs, gs_r _ _ _ (by decide), (show g157 108 = (gs g 100 0 x1.toInt) 108 from funext fun j => hf158 108 j (by decide)), gs_r _ _ _ (by decide)]
                        have v195 : g188 135 (4 * (200 + p1.toInt.toNat) + 3) = x186.toInt := by rw [← eg189, gs_self]
                        have hw196 : g188 135 = (pz_up (g 135) (4 * (200 + p1.toInt.toNat) + 3) x186.toInt) := by rw [← eg189, pz_gs, gs_r _ _ _ (by decide), gs_r _ _ _ (by decide), (show g157 135 = (gs g 100 0 x1.toInt) 135 from funext fun j => hf158 135 j (by decide)), gs_r _ _ _ (by decide)]
                        have hj197 : IJ g188 := IJ_cg (hf190 126 0 (by decide) (by decide) (by decide)) (fun j => hf190 132 j (by decide) (by decide) (by decide)) (fun j => hf190 134 j (by decide) (by decide) (by decide)) (by (repeat (first | with_reducible assumption | (refine IJ_c (by decide) (by decide) (by decide) ?_) | (refine IJ_take (by omega) (by omega) ?_) | (refine IJ_how (by omega) ?_) | (refine IJ_by (by omega) ?_))))
                        refine ty_iconst hx hb (0) dX9_dies_154 (by decide) (fun x198 h199 => ?_)
                        refine lv_istore (lv' := [(6, .int x198), (5, .int v5_52), (4, .int x151), (0, .ref h0), (1, .int p1), (2, .int p2), (3, .int p3)]) hx hb dX9_dies_155 hl (by decide) rfl (fun ls hl => ?_)
                        have L_157 : ∀ (n : Nat) (v6_157 : Int32) (g200 : gh) (H : Heap) (locs : List Loc) (ls : Array Slot), (g200 126 0 - v6_157.toInt : Int) < n → 0 ≤ v6_157.toInt ∧ v6_157.toInt ≤ g200 126 0 → (∀ c j : Nat, c ≠ 132 → g200 c j = g188 c j) → (IJ g200) → (g200 132 = dy_f (g 132) (g 127) p1.toInt v6_157.toInt.toNat) → ty_ok (dC, dI) vwCl Γ (TP dA Γ g200) sz X H → va_S (ty_A sz) s.heap H locs → lv_has ls 7 [(6, .int v6_157), (5, .int v5_52), (4, .int x151), (0, .ref h0), (1, .int p1), (2, .int p2), (3, .int p3)] → W p l e (headSpec (.code yX9_dies cX9_dies 7 (Option.some Jvm.ClassFile.FieldType.int) :: AL) ({ frames := 1, cells := 0, slots := 0, locals := 22 })).room s m ([.ref h0, .int p1, .int p2, .int p3] : List Value).toArray below meth c H locs 0 0 (MQ below (va_Qi (fun (r : Int32) (u : gh) => (∀ c j : Nat, c ≠ 100 → c ≠ 106 → c ≠ 108 → c ≠ 109 → c ≠ 132 → c ≠ 135 → u c j = g c j) ∧ (IJ u) ∧ (((0 ≤ p1.toInt ∧ p1.toInt < g 104 0 ∧ g 108 p1.toInt.toNat = 0 ∧ 0 ≤ p2.toInt ∧ p2.toInt < g 104 0 ∧ g 108 p2.toInt.toNat = 0 ∧ p1.toInt ≠ p2.toInt) → r.toInt = (if hb_f (g 123) (g 122 0).toNat ≠ 0 ∨ p3.toInt ≠ 0 then (cnt 318 (g 109) p1.toInt : Int) else 0) ∧ u 108 = pz_up (g 108) p1.toInt.toNat 1 ∧ u 135 = pz_up (g 135) (4 * (200 + p1.toInt.toNat) + 3) 0 ∧ u 132 = dy_f (g 132) (g 127) p1.toInt (g 126 0).toNat ∧ u 109 = (if hb_f (g 123) (g 122 0).toNat ≠ 0 ∨ p3.toInt ≠ 0 then pr_f (g 109) p1.toInt p2.toInt 318 else pr_f (g 109) p1.toInt (-1) 318) ∧ u 106 = (if hb_f (g 123) (g 122 0).toNat ≠ 0 ∨ p3.toInt ≠ 0 then pz_up (pz_up (g 106) p2.toInt.toNat (wa (g 106 p2.toInt.toNat) (g 106 p1.toInt.toNat))) p1.toInt.toNat 0 else pz_up (g 106) p1.toInt.toNat 0)) ∧ (¬ ((0 ≤ p1.toInt ∧ p1.toInt < g 104 0 ∧ g 108 p1.toInt.toNat = 0 ∧ 0 ≤ p2.toInt ∧ p2.toInt < g 104 0 ∧ g 108 p2.toInt.toNat = 0 ∧ p1.toInt ≠ p2.toInt)) → r.toInt = -1 ∧ u 108 = g 108 ∧ u 135 = g 135 ∧ u 132 = g 132 ∧ u 109 = g 109 ∧ u 106 = g 106))) (okb dC dI dA sz X Γ) (ty_A sz)) ([.ref h0, .int p1, .int p2, .int p3] : List Value).toArray s 0 0 (ty_A sz)) (F0 m 157 ls []) := by
                          intro n
                          induction n with
                          | zero => intro v6_157 g200 H locs ls hm hi0 hf201 hq0 hq1 hG hS hl; exfalso; omega
                          | succ n ih_157 =>
                            intro v6_157 g200 H locs ls hm hi0 hf201 hq0 hq1 hG hS hl
                            have hk202 : g200 126 0 = g188 126 0 := hf201 126 0 (by decide)
                            have hk203 : g188 126 0 = g157 126 0 := hf190 126 0 (by decide) (by decide) (by decide)
                            have hk204 : g157 126 0 = (gs g 100 0 x1.toInt) 126 0 := hf158 126 0 (by decide)
                            replace hk204 : g157 126 0 = g 126 0 := by rw [hk204, gs_c _ _ _ _ (by decide)]
                            have he8 : g200 132 v6_157.toInt.toNat = g 132 v6_157.toInt.toNat := by rw [hq1]; exact dy_at
                            refine lv_iload hx hb dX9_dies_157 (lv_at hl 0 rfl) ?_
                            refine lv_aload_n hx hb dX9_dies_159 rfl (lv_at hl 3 rfl) ?_
                            refine get_X9_26 hx hb hA hown hE hG t_h0 wd_4_156 dX9_dies_160 (fun x205 h206 => ?_)
                            replace h206 : x205.toInt = g 126 0 := by rw [h206, hf201 126 0 (by decide), hf190 126 0 (by decide) (by decide) (by decide), hf158 126 0 (by decide), gs_c _ _ _ _ (by decide)]
                            refine ty_icmp_ge (tgt := 201) hx hb dX9_dies_163 (by decide) (fun c208 => ?_) (fun c208 => ?_)
                            · skip
                              refine lv_iload hx hb dX9_dies_201 (lv_at hl 1 rfl) ?_
                              have hin9 : ¬ (hb_f (g 123) (g 122 0).toNat ≠ 0 ∨ p3.toInt ≠ 0) := by omega
                              exact W.iret (v := v5_52) hx hb hr (fun t ht hW => ⟨⟨v5_52, g200, rfl, ⟨(fun c j h100 h106 h108 h109 h132 h135 => by rw [hf201 c j h132, hf190 c j h106 h108 h135, hf158 c j h109, gs_c _ _ _ _ h100]), (by (repeat (first | with_reducible assumption | (refine IJ_c (by decide) (by decide) (by decide) ?_) | (refine IJ_take (by omega) (by omega) ?_) | (refine IJ_how (by omega) ?_) | (refine IJ_by (by omega) ?_)))), (⟨fun _ => ⟨(by rw [if_neg hin9]; omega), (by rw [(show g200 108 = g188 108 from funext fun j => hf201 108 j (by decide)), hw194] <;> exact pz_upc (by omega) (by omega)), (by rw [(show g200 135 = g188 135 from funext fun j => hf201 135 j (by decide)), hw196] <;> exact pz_upc (by omega) (by omega)), (by rw [hq1, show v6_157.toInt.toNat = (g 126 0).toNat by omega]), (by rw [if_neg hin9]; rw [(show g200 109 = g188 109 from funext fun j => hf201 109 j (by decide)), (show g188 109 = g157 109 from funext fun j => hf190 109 j (by decide) (by decide) (by decide)), ha0, show v6_52.toInt.toNat = 318 by omega]), (by rw [if_neg hin9]; rw [(show g200 106 = g188 106 from funext fun j => hf201 106 j (by decide)), hw192] <;> exact pz_upc (by omega) (by omega))⟩, fun q => absurd (by omega) q⟩)⟩, ok1 ht hG⟩, hS.F ht⟩) hS.2.2 dX9_dies_203
                            · skip
                              refine lv_aload_n hx hb dX9_dies_166 rfl (lv_at hl 3 rfl) ?_
                              refine get_X9_27 hx hb hA hown hE hG t_h0 wd_4_157 dX9_dies_167 (fun b209 (t_b209 : ty Γ b209 127) => ?_)
                              refine lv_iload hx hb dX9_dies_170 (lv_at hl 0 rfl) ?_
                              refine ald_mI hx hb hE hG 27 rfl (n := 200) rfl (lo := 0) (hi := 9) rfl rfl t_b209 (by omega) dX9_dies_172 (fun j211 x210 h212 h213 h214 => ?_)
                              obtain rfl : j211 = v6_157.toInt.toNat := by omega
                              replace h213 : x210.toInt = g200 127 v6_157.toInt.toNat := h213
                              have hk215 : g200 127 v6_157.toInt.toNat = g188 127 v6_157.toInt.toNat := hf201 127 v6_157.toInt.toNat (by decide)
                              have hk216 : g188 127 v6_157.toInt.toNat = g157 127 v6_157.toInt.toNat := hf190 127 v6_157.toInt.toNat (by decide) (by decide) (by decide)
                              have hk217 : g157 127 v6_157.toInt.toNat = (gs g 100 0 x1.toInt) 127 v6_157.toInt.toNat := hf158 127 v6_157.toInt.toNat (by decide)
                              replace hk217 : g157 127 v6_157.toInt.toNat = g 127 v6_157.toInt.toNat := by rw [hk217, gs_c _ _ _ _ (by decide)]
                              replace h213 : x210.toInt = g 127 v6_157.toInt.toNat := by rw [h213, hf201 127 v6_157.toInt.toNat (by decide), hf190 127 v6_157.toInt.toNat (by decide) (by decide) (by decide), hf158 127 v6_157.toInt.toNat (by decide), gs_c _ _ _ _ (by decide)]
                              refine lv_iload_n hx hb dX9_dies_173 rfl (lv_at hl 4 rfl) ?_
                              refine ty_icmp_ne (tgt := 195) hx hb dX9_dies_174 (by decide) (fun c218 => ?_) (fun c218 => ?_)
                              · skip
                                obtain ⟨x219, h220⟩ : ∃ y : Int32, y = v6_157 + Int32.ofInt (1) := ⟨_, rfl⟩
                                try have h221 : x219.toInt = v6_157.toInt + (1) := ty_inc h220 (by decide) (by omega) (by omega)
                                refine lv_iinc (v := x219) (lv' := [(6, .int x219), (5, .int v5_52), (4, .int x151), (0, .ref h0), (1, .int p1), (2, .int p2), (3, .int p3)]) hx hb dX9_dies_195 hl (k := 0) rfl h220.symm (by decide) rfl (fun ls hl => ?_)
                                refine lv_goto (tgt := 157) hx hb dX9_dies_198 (by decide) ?_
                                exact ih_157 x219 g200 _ _ ls (by omega) (by omega) (fun c j h132 => by rw [hf201 c j h132]) (by (repeat (first | with_reducible assumption | (refine IJ_c (by decide) (by decide) (by decide) ?_) | (refine IJ_take (by omega) (by omega) ?_) | (refine IJ_how (by omega) ?_) | (refine IJ_by (by omega) ?_)))) (dy_n (by omega) (by omega) hq1) hG hS (lv_sub hl [0, 1, 2, 3, 4, 5, 6] rfl)
                              · skip
                                refine lv_aload_n hx hb dX9_dies_177 rfl (lv_at hl 3 rfl) ?_
                                refine get_X9_32 hx hb hA hown hE hG t_h0 wd_4_162 dX9_dies_178 (fun b222 (t_b222 : ty Γ b222 132) => ?_)
                                refine lv_iload hx hb dX9_dies_181 (lv_at hl 0 rfl) ?_
                                refine ald_mI hx hb hE hG 32 rfl (n := 200) rfl (lo := 0) (hi := 5) rfl rfl t_b222 (by omega) dX9_dies_183 (fun j224 x223 h225 h226 h227 => ?_)
                                obtain rfl : j224 = v6_157.toInt.toNat := by omega
                                replace h226 : x223.toInt = g200 132 v6_157.toInt.toNat := h226
                                refine ty_if_ne (tgt := 195) hx hb dX9_dies_184 (by decide) (fun c228 => ?_) (fun c228 => ?_)
                                · skip
                                  obtain ⟨x229, h230⟩ : ∃ y : Int32, y = v6_157 + Int32.ofInt (1) := ⟨_, rfl⟩
                                  try have h231 : x229.toInt = v6_157.toInt + (1) := ty_inc h230 (by decide) (by omega) (by omega)
                                  refine lv_iinc (v := x229) (lv' := [(6, .int x229), (5, .int v5_52), (4, .int x151), (0, .ref h0), (1, .int p1), (2, .int p2), (3, .int p3)]) hx hb dX9_dies_195 hl (k := 0) rfl h230.symm (by decide) rfl (fun ls hl => ?_)
                                  refine lv_goto (tgt := 157) hx hb dX9_dies_198 (by decide) ?_
                                  exact ih_157 x229 g200 _ _ ls (by omega) (by omega) (fun c j h132 => by rw [hf201 c j h132]) (by (repeat (first | with_reducible assumption | (refine IJ_c (by decide) (by decide) (by decide) ?_) | (refine IJ_take (by omega) (by omega) ?_) | (refine IJ_how (by omega) ?_) | (refine IJ_by (by omega) ?_)))) (dy_n (by omega) (by omega) hq1) hG hS (lv_sub hl [0, 1, 2, 3, 4, 5, 6] rfl)
                                · skip
                                  refine lv_aload_n hx hb dX9_dies_187 rfl (lv_at hl 3 rfl) ?_
                                  refine get_X9_32 hx hb hA hown hE hG t_h0 wd_4_162 dX9_dies_188 (fun b232 (t_b232 : ty Γ b232 132) => ?_)
                                  refine lv_iload hx hb dX9_dies_191 (lv_at hl 0 rfl) ?_
                                  refine ty_iconst hx hb (4) dX9_dies_193 (by decide) (fun x233 h234 => ?_)
                                  refine ast_mI hx hb hE hG hS hU 32 rfl (n := 200) rfl (lo := 0) (hi := 5) rfl rfl rfl t_b232 (by omega) (by omega) dX9_dies_194 (fun H locs hG hS => ?_)
                                  obtain ⟨x235, h236⟩ : ∃ y : Int32, y = v6_157 + Int32.ofInt (1) := ⟨_, rfl⟩
                                  try have h237 : x235.toInt = v6_157.toInt + (1) := ty_inc h236 (by decide) (by omega) (by omega)
                                  refine lv_iinc (v := x235) (lv' := [(6, .int x235), (5, .int v5_52), (4, .int x151), (0, .ref h0), (1, .int p1), (2, .int p2), (3, .int p3)]) hx hb dX9_dies_195 hl (k := 0) rfl h236.symm (by decide) rfl (fun ls hl => ?_)
                                  refine lv_goto (tgt := 157) hx hb dX9_dies_198 (by decide) ?_
                                  have e238 : (gs g200 132 v6_157.toInt.toNat x233.toInt) 126 0 = g200 126 0 := by rw [gs_c _ _ _ _ (by decide)]
                                  exact ih_157 x235 (gs g200 132 v6_157.toInt.toNat x233.toInt) _ _ ls (by omega) (by omega) (fun c j h132 => by rw [gs_c _ _ _ _ h132, hf201 c j h132]) (by (repeat (first | with_reducible assumption | (refine IJ_c (by decide) (by decide) (by decide) ?_) | (refine IJ_take (by omega) (by omega) ?_) | (refine IJ_how (by omega) ?_) | (refine IJ_by (by omega) ?_)))) (by rw [pz_gs]; exact dy_s (by omega) (by omega) (by omega) (by omega) hq1) hG hS (lv_sub hl [0, 1, 2, 3, 4, 5, 6] rfl)
                        have hk239 : g188 126 0 = g157 126 0 := hf190 126 0 (by decide) (by decide) (by decide)
                        have hk240 : g157 126 0 = (gs g 100 0 x1.toInt) 126 0 := hf158 126 0 (by decide)
                        replace hk240 : g157 126 0 = g 126 0 := by rw [hk240, gs_c _ _ _ _ (by decide)]
                        exact L_157 ((g188 126 0 - x198.toInt) + 1).toNat x198 g188 _ _ ls (by omega) (by omega) (fun c j _ => rfl) (by (repeat (first | with_reducible assumption | (refine IJ_c (by decide) (by decide) (by decide) ?_) | (refine IJ_take (by omega) (by omega) ?_) | (refine IJ_how (by omega) ?_) | (refine IJ_by (by omega) ?_)))) (by rw [(show g188 132 = g157 132 from funext fun j => hf190 132 j (by decide) (by decide) (by decide)), (show g157 132 = (gs g 100 0 x1.toInt) 132 from funext fun j => hf158 132 j (by decide)), gs_r _ _ _ (by decide)]; exact dy_0 (by omega)) hG hS (lv_sub hl [0, 1, 2, 3, 4, 5, 6] rfl)
                      · exfalso; omega
                    · skip
                      refine lv_aload_n hx hb dX9_dies_60 rfl (lv_at hl 3 rfl) ?_
                      refine get_X9_9 hx hb hA hown hE hG t_h0 wd_4_139 dX9_dies_61 (fun b241 (t_b241 : ty Γ b241 109) => ?_)
                      refine lv_iload hx hb dX9_dies_64 (lv_at hl 0 rfl) ?_
                      refine ald_mI hx hb hE hG 9 rfl (n := 318) rfl (lo := -2147483648) (hi := 2147483647) rfl rfl t_b241 (by omega) dX9_dies_66 (fun j243 x242 h244 h245 h246 => ?_)
                      clear h246
                      obtain rfl : j243 = v6_52.toInt.toNat := by omega
                      replace h245 : x242.toInt = g157 109 v6_52.toInt.toNat := h245
                      refine lv_iload_n hx hb dX9_dies_67 rfl (lv_at hl 4 rfl) ?_
                      refine ty_icmp_eq (tgt := 74) hx hb dX9_dies_68 (by decide) (fun c247 => ?_) (fun c247 => ?_)
                      · skip
                        refine lv_aload_n hx hb dX9_dies_74 rfl (lv_at hl 3 rfl) ?_
                        refine get_X9_9 hx hb hA hown hE hG t_h0 wd_4_139 dX9_dies_75 (fun b248 (t_b248 : ty Γ b248 109) => ?_)
                        refine lv_iload hx hb dX9_dies_78 (lv_at hl 0 rfl) ?_
                        refine lv_iload hx hb dX9_dies_80 (lv_at hl 2 rfl) ?_
                        refine ty_if_eq (tgt := 89) hx hb dX9_dies_82 (by decide) (fun c249 => ?_) (fun c249 => ?_)
                        · skip
                          refine ty_iconst hx hb (-1) dX9_dies_89 (by decide) (fun x250 h251 => ?_)
                          refine ast_mI hx hb hE hG hS hU 9 rfl (n := 318) rfl (lo := -2147483648) (hi := 2147483647) rfl rfl rfl t_b248 (rgD _) (by omega) dX9_dies_90 (fun H locs hG hS => ?_)
                          refine lv_iload hx hb dX9_dies_91 (lv_at hl 2 rfl) ?_
                          refine ty_if_eq (tgt := 99) hx hb dX9_dies_93 (by decide) (fun c252 => ?_) (fun c252 => ?_)
                          · skip
                            obtain ⟨x253, h254⟩ : ∃ y : Int32, y = v6_52 + Int32.ofInt (1) := ⟨_, rfl⟩
                            try have h255 : x253.toInt = v6_52.toInt + (1) := ty_inc h254 (by decide) (by omega) (by omega)
                            refine lv_iinc (v := x253) (lv' := [(6, .int x253), (5, .int v5_52), (4, .int x151), (0, .ref h0), (1, .int p1), (2, .int p2), (3, .int p3)]) hx hb dX9_dies_99 hl (k := 0) rfl h254.symm (by decide) rfl (fun ls hl => ?_)
                            refine lv_goto (tgt := 52) hx hb dX9_dies_102 (by decide) ?_
                            exact ih_52 x253 v5_52 (gs g157 109 v6_52.toInt.toNat x250.toInt) _ _ ls (by omega) (by omega) (fun c j h109 => by rw [gs_c _ _ _ _ h109, hf158 c j h109]) (by rw [pz_gs]; exact pr_s (n := v6_52.toInt.toNat) (by omega) (by omega) rfl (by omega) ha0) (by omega) hG hS (lv_sub hl [0, 1, 2, 3, 4, 5, 6] rfl)
                          · exfalso; omega
                        · exfalso; omega
                      · skip
                        refine lv_goto (tgt := 99) hx hb dX9_dies_71 (by decide) ?_
                        obtain ⟨x256, h257⟩ : ∃ y : Int32, y = v6_52 + Int32.ofInt (1) := ⟨_, rfl⟩
                        try have h258 : x256.toInt = v6_52.toInt + (1) := ty_inc h257 (by decide) (by omega) (by omega)
                        refine lv_iinc (v := x256) (lv' := [(6, .int x256), (5, .int v5_52), (4, .int x151), (0, .ref h0), (1, .int p1), (2, .int p2), (3, .int p3)]) hx hb dX9_dies_99 hl (k := 0) rfl h257.symm (by decide) rfl (fun ls hl => ?_)
                        refine lv_goto (tgt := 52) hx hb dX9_dies_102 (by decide) ?_
                        exact ih_52 x256 v5_52 g157 _ _ ls (by omega) (by omega) (fun c j h109 => by rw [hf158 c j h109]) (pr_n (n := v6_52.toInt.toNat) (by omega) (by omega) ha0) (by omega) hG hS (lv_sub hl [0, 1, 2, 3, 4, 5, 6] rfl)
                exact L_52 ((318 - x155.toInt) + 1).toNat x155 x153 (gs g 100 0 x1.toInt) _ _ ls (by omega) (by omega) (fun c j _ => rfl) (by rw [gs_r _ _ _ (by decide)]; exact pr_0 (by omega)) (by omega) hG hS (lv_sub hl [0, 1, 2, 3, 4, 5, 6] rfl)
              · skip
                refine ty_iconst hx hb (1) dX9_dies_39 (by decide) (fun x259 h260 => ?_)
                refine lv_goto (tgt := 44) hx hb dX9_dies_40 (by decide) ?_
                refine lv_istore (lv' := [(4, .int x259), (0, .ref h0), (1, .int p1), (2, .int p2), (3, .int p3)]) hx hb dX9_dies_44 hl (by decide) rfl (fun ls hl => ?_)
                refine ty_iconst hx hb (0) dX9_dies_46 (by decide) (fun x261 h262 => ?_)
                refine lv_istore (lv' := [(5, .int x261), (4, .int x259), (0, .ref h0), (1, .int p1), (2, .int p2), (3, .int p3)]) hx hb dX9_dies_47 hl (by decide) rfl (fun ls hl => ?_)
                refine ty_iconst hx hb (0) dX9_dies_49 (by decide) (fun x263 h264 => ?_)
                refine lv_istore (lv' := [(6, .int x263), (5, .int x261), (4, .int x259), (0, .ref h0), (1, .int p1), (2, .int p2), (3, .int p3)]) hx hb dX9_dies_50 hl (by decide) rfl (fun ls hl => ?_)
                have L_52 : ∀ (n : Nat) (v6_52 : Int32) (v5_52 : Int32) (g265 : gh) (H : Heap) (locs : List Loc) (ls : Array Slot), (318 - v6_52.toInt : Int) < n → 0 ≤ v6_52.toInt ∧ v6_52.toInt ≤ 318 → (∀ c j : Nat, c ≠ 109 → g265 c j = (gs g 100 0 x1.toInt) c j) → (g265 109 = pr_f (g 109) p1.toInt p2.toInt v6_52.toInt.toNat) → (v5_52.toInt = (cnt v6_52.toInt.toNat (g 109) p1.toInt : Int)) → ty_ok (dC, dI) vwCl Γ (TP dA Γ g265) sz X H → va_S (ty_A sz) s.heap H locs → lv_has ls 7 [(6, .int v6_52), (5, .int v5_52), (4, .int x259), (0, .ref h0), (1, .int p1), (2, .int p2), (3, .int p3)] → W p l e (headSpec (.code yX9_dies cX9_dies 7 (Option.some Jvm.ClassFile.FieldType.int) :: AL) ({ frames := 1, cells := 0, slots := 0, locals := 22 })).room s m ([.ref h0, .int p1, .int p2, .int p3] : List Value).toArray below meth c H locs 0 0 (MQ below (va_Qi (fun (r : Int32) (u : gh) => (∀ c j : Nat, c ≠ 100 → c ≠ 106 → c ≠ 108 → c ≠ 109 → c ≠ 132 → c ≠ 135 → u c j = g c j) ∧ (IJ u) ∧ (((0 ≤ p1.toInt ∧ p1.toInt < g 104 0 ∧ g 108 p1.toInt.toNat = 0 ∧ 0 ≤ p2.toInt ∧ p2.toInt < g 104 0 ∧ g 108 p2.toInt.toNat = 0 ∧ p1.toInt ≠ p2.toInt) → r.toInt = (if hb_f (g 123) (g 122 0).toNat ≠ 0 ∨ p3.toInt ≠ 0 then (cnt 318 (g 109) p1.toInt : Int) else 0) ∧ u 108 = pz_up (g 108) p1.toInt.toNat 1 ∧ u 135 = pz_up (g 135) (4 * (200 + p1.toInt.toNat) + 3) 0 ∧ u 132 = dy_f (g 132) (g 127) p1.toInt (g 126 0).toNat ∧ u 109 = (if hb_f (g 123) (g 122 0).toNat ≠ 0 ∨ p3.toInt ≠ 0 then pr_f (g 109) p1.toInt p2.toInt 318 else pr_f (g 109) p1.toInt (-1) 318) ∧ u 106 = (if hb_f (g 123) (g 122 0).toNat ≠ 0 ∨ p3.toInt ≠ 0 then pz_up (pz_up (g 106) p2.toInt.toNat (wa (g 106 p2.toInt.toNat) (g 106 p1.toInt.toNat))) p1.toInt.toNat 0 else pz_up (g 106) p1.toInt.toNat 0)) ∧ (¬ ((0 ≤ p1.toInt ∧ p1.toInt < g 104 0 ∧ g 108 p1.toInt.toNat = 0 ∧ 0 ≤ p2.toInt ∧ p2.toInt < g 104 0 ∧ g 108 p2.toInt.toNat = 0 ∧ p1.toInt ≠ p2.toInt)) → r.toInt = -1 ∧ u 108 = g 108 ∧ u 135 = g 135 ∧ u 132 = g 132 ∧ u 109 = g 109 ∧ u 106 = g 106))) (okb dC dI dA sz X Γ) (ty_A sz)) ([.ref h0, .int p1, .int p2, .int p3] : List Value).toArray s 0 0 (ty_A sz)) (F0 m 52 ls []) := by
                  intro n
                  induction n with
                  | zero => intro v6_52 v5_52 g265 H locs ls hm hi0 hf266 ha0 ha1 hG hS hl; exfalso; omega
                  | succ n ih_52 =>
                    intro v6_52 v5_52 g265 H locs ls hm hi0 hf266 ha0 ha1 hG hS hl
                    have hj267 : IJ g265 := IJ_cg (hf266 126 0 (by decide)) (fun j => hf266 132 j (by decide)) (fun j => hf266 134 j (by decide)) (by (repeat (first | with_reducible assumption | (refine IJ_c (by decide) (by decide) (by decide) ?_) | (refine IJ_take (by omega) (by omega) ?_) | (refine IJ_how (by omega) ?_) | (refine IJ_by (by omega) ?_))))
                    have he9 : g265 109 v6_52.toInt.toNat = g 109 v6_52.toInt.toNat := by rw [ha0]; exact pr_at
                    refine lv_iload hx hb dX9_dies_52 (lv_at hl 0 rfl) ?_
                    refine ty_sipush hx hb (318) dX9_dies_54 (by decide) (fun x268 h269 => ?_)
                    refine ty_icmp_ge (tgt := 105) hx hb dX9_dies_57 (by decide) (fun c270 => ?_) (fun c270 => ?_)
                    · skip
                      refine lv_iload hx hb dX9_dies_105 (lv_at hl 2 rfl) ?_
                      refine ty_if_eq (tgt := 125) hx hb dX9_dies_107 (by decide) (fun c271 => ?_) (fun c271 => ?_)
                      · exfalso; omega
                      · skip
                        refine lv_aload_n hx hb dX9_dies_110 rfl (lv_at hl 3 rfl) ?_
                        refine get_X9_6 hx hb hA hown hE hG t_h0 wd_4_136 dX9_dies_111 (fun b272 (t_b272 : ty Γ b272 106) => ?_)
                        refine lv_iload_n hx hb dX9_dies_114 rfl (lv_at hl 5 rfl) ?_
                        refine lv_dup2_11 hx hb dX9_dies_115 rfl rfl ?_
                        refine ald_mI hx hb hE hG 6 rfl (n := 10) rfl (lo := -2147483648) (hi := 2147483647) rfl rfl t_b272 (by omega) dX9_dies_116 (fun j274 x273 h275 h276 h277 => ?_)
                        clear h277
                        obtain rfl : j274 = p2.toInt.toNat := by omega
                        replace h276 : x273.toInt = g265 106 p2.toInt.toNat := h276
                        have hk278 : g265 106 p2.toInt.toNat = (gs g 100 0 x1.toInt) 106 p2.toInt.toNat := hf266 106 p2.toInt.toNat (by decide)
                        replace hk278 : g265 106 p2.toInt.toNat = g 106 p2.toInt.toNat := by rw [hk278, gs_c _ _ _ _ (by decide)]
                        replace h276 : x273.toInt = g 106 p2.toInt.toNat := by rw [h276, hf266 106 p2.toInt.toNat (by decide), gs_c _ _ _ _ (by decide)]
                        refine lv_aload_n hx hb dX9_dies_117 rfl (lv_at hl 3 rfl) ?_
                        refine get_X9_6 hx hb hA hown hE hG t_h0 wd_4_136 dX9_dies_118 (fun b279 (t_b279 : ty Γ b279 106) => ?_)
                        refine lv_iload_n hx hb dX9_dies_121 rfl (lv_at hl 4 rfl) ?_
                        refine ald_mI hx hb hE hG 6 rfl (n := 10) rfl (lo := -2147483648) (hi := 2147483647) rfl rfl t_b279 (by omega) dX9_dies_122 (fun j281 x280 h282 h283 h284 => ?_)
                        clear h284
                        obtain rfl : j281 = p1.toInt.toNat := by omega
                        replace h283 : x280.toInt = g265 106 p1.toInt.toNat := h283
                        have hk285 : g265 106 p1.toInt.toNat = (gs g 100 0 x1.toInt) 106 p1.toInt.toNat := hf266 106 p1.toInt.toNat (by decide)
                        replace hk285 : g265 106 p1.toInt.toNat = g 106 p1.toInt.toNat := by rw [hk285, gs_c _ _ _ _ (by decide)]
                        replace h283 : x280.toInt = g 106 p1.toInt.toNat := by rw [h283, hf266 106 p1.toInt.toNat (by decide), gs_c _ _ _ _ (by decide)]
                        refine ty_iadd hx hb dX9_dies_123 (fun x286 h287 => ?_)
                        have h288 : x286.toInt = wa (g 106 p2.toInt.toNat) (g 106 p1.toInt.toNat) := by rw [ty_wa h287, h276, h283]
                        refine ast_mI hx hb hE hG hS hU 6 rfl (n := 10) rfl (lo := -2147483648) (hi := 2147483647) rfl rfl rfl t_b272 (rgD _) (by omega) dX9_dies_124 (fun H locs hG hS => ?_)
                        refine lv_aload_n hx hb dX9_dies_125 rfl (lv_at hl 3 rfl) ?_
                        refine get_X9_6 hx hb hA hown hE hG t_h0 wd_4_136 dX9_dies_126 (fun b289 (t_b289 : ty Γ b289 106) => ?_)
                        refine lv_iload_n hx hb dX9_dies_129 rfl (lv_at hl 4 rfl) ?_
                        refine ty_iconst hx hb (0) dX9_dies_130 (by decide) (fun x290 h291 => ?_)
                        refine ast_mI hx hb hE hG hS hU 6 rfl (n := 10) rfl (lo := -2147483648) (hi := 2147483647) rfl rfl rfl t_b289 (rgD _) (by omega) dX9_dies_131 (fun H locs hG hS => ?_)
                        refine lv_aload_n hx hb dX9_dies_132 rfl (lv_at hl 3 rfl) ?_
                        refine get_X9_8 hx hb hA hown hE hG t_h0 wd_4_138 dX9_dies_133 (fun b292 (t_b292 : ty Γ b292 108) => ?_)
                        refine lv_iload_n hx hb dX9_dies_136 rfl (lv_at hl 4 rfl) ?_
                        refine ty_iconst hx hb (1) dX9_dies_137 (by decide) (fun x293 h294 => ?_)
                        refine ast_mZ hx hb hE hG hS hU 8 rfl (n := 10) rfl (lo := 0) (hi := 1) rfl rfl rfl t_b292 (by omega) (by omega) (by omega) dX9_dies_138 (fun H locs hG hS => ?_)
                        generalize eg296 : (gs (gs (gs g265 106 p2.toInt.toNat x286.toInt) 106 p1.toInt.toNat x290.toInt) 108 p1.toInt.toNat x293.toInt) = g295 at hG
                        have hf297 : ∀ c j : Nat, c ≠ 106 → c ≠ 108 → g295 c j = g265 c j := fun c j h106 h108 => by rw [← eg296, gs_c _ _ _ _ h108, gs_c _ _ _ _ h106, gs_c _ _ _ _ h106]
                        have v298 : g295 106 p1.toInt.toNat = x290.toInt := by rw [← eg296, gs_c _ _ _ _ (by decide), gs_self]
                        have hw299 : g295 106 = (pz_up (pz_up (g 106) p2.toInt.toNat x286.toInt) p1.toInt.toNat x290.toInt) := by rw [← eg296, gs_r _ _ _ (by decide), pz_gs, pz_gs, (show g265 106 = (gs g 100 0 x1.toInt) 106 from funext fun j => hf266 106 j (by decide)), gs_r _ _ _ (by decide)]
                        have v300 : g295 108 p1.toInt.toNat = x293.toInt := by rw [← eg296, gs_self]
                        have hw301 : g295 108 = (pz_up (g 108) p1.toInt.toNat x293.toInt) := by rw [← eg296, pz_gs, gs_r _ _ _ (by decide), gs_r _ _ _ (by decide), (show g265 108 = (gs g 100 0 x1.toInt) 108 from funext fun j => hf266 108 j (by decide)), gs_r _ _ _ (by decide)]
                        have hj302 : IJ g295 := IJ_cg (hf297 126 0 (by decide) (by decide)) (fun j => hf297 132 j (by decide) (by decide)) (fun j => hf297 134 j (by decide) (by decide)) (by (repeat (first | with_reducible assumption | (refine IJ_c (by decide) (by decide) (by decide) ?_) | (refine IJ_take (by omega) (by omega) ?_) | (refine IJ_how (by omega) ?_) | (refine IJ_by (by omega) ?_))))
                        refine lv_aload_n hx hb dX9_dies_139 rfl (lv_at hl 3 rfl) ?_
                        refine get_X9_35 hx hb hA hown hE hG t_h0 wd_4_165 dX9_dies_140 (fun b303 (t_b303 : ty Γ b303 135) => ?_)
                        refine ty_iconst hx hb (4) dX9_dies_143 (by decide) (fun x304 h305 => ?_)
                        refine ty_sipush hx hb (200) dX9_dies_144 (by decide) (fun x306 h307 => ?_)
                        refine lv_iload_n hx hb dX9_dies_147 rfl (lv_at hl 4 rfl) ?_
                        refine ty_iadd hx hb dX9_dies_148 (fun x308 h309 => ?_)
                        try have h310 : x308.toInt = x306.toInt + p1.toInt := ty_add h309 (by omega) (by omega)
                        refine ty_imul hx hb dX9_dies_149 (fun x311 h312 => ?_)
                        try have h313 : x311.toInt = 4 * x308.toInt := ty_mull h312 (by omega) (by omega) (by omega)
                        refine ty_iconst hx hb (3) dX9_dies_150 (by decide) (fun x314 h315 => ?_)
                        refine ty_iadd hx hb dX9_dies_151 (fun x316 h317 => ?_)
                        try have h318 : x316.toInt = x311.toInt + x314.toInt := ty_add h317 (by omega) (by omega)
                        refine ty_iconst hx hb (0) dX9_dies_152 (by decide) (fun x319 h320 => ?_)
                        refine ast_mI hx hb hE hG hS hU 35 rfl (n := 840) rfl (lo := -2147483648) (hi := 2147483647) rfl rfl rfl t_b303 (rgD _) (by omega) dX9_dies_153 (fun H locs hG hS => ?_)
                        rw [show x316.toInt.toNat = (4 * (200 + p1.toInt.toNat) + 3) by omega] at hG
                        refine ty_iconst hx hb (0) dX9_dies_154 (by decide) (fun x321 h322 => ?_)
                        refine lv_istore (lv' := [(6, .int x321), (5, .int v5_52), (4, .int x259), (0, .ref h0), (1, .int p1), (2, .int p2), (3, .int p3)]) hx hb dX9_dies_155 hl (by decide) rfl (fun ls hl => ?_)
                        have hk324 : g295 126 0 = g265 126 0 := hf297 126 0 (by decide) (by decide)
                        have hk325 : g265 126 0 = (gs g 100 0 x1.toInt) 126 0 := hf266 126 0 (by decide)
                        replace hk325 : g265 126 0 = g 126 0 := by rw [hk325, gs_c _ _ _ _ (by decide)]
                        have e326 : (gs g295 135 (4 * (200 + p1.toInt.toNat) + 3) x319.toInt) 126 0 = g295 126 0 := by rw [gs_c _ _ _ _ (by decide)]
                        have L_157 : ∀ (n : Nat) (v6_157 : Int32) (g323 : gh) (H : Heap) (locs : List Loc) (ls : Array Slot), (g323 126 0 - v6_157.toInt : Int) < n → 0 ≤ v6_157.toInt ∧ v6_157.toInt ≤ g323 126 0 → (∀ c j : Nat, c ≠ 132 → g323 c j = (gs g295 135 (4 * (200 + p1.toInt.toNat) + 3) x319.toInt) c j) → (IJ g323) → (g323 132 = dy_f (g 132) (g 127) p1.toInt v6_157.toInt.toNat) → ty_ok (dC, dI) vwCl Γ (TP dA Γ g323) sz X H → va_S (ty_A sz) s.heap H locs → lv_has ls 7 [(6, .int v6_157), (5, .int v5_52), (4, .int x259), (0, .ref h0), (1, .int p1), (2, .int p2), (3, .int p3)] → W p l e (headSpec (.code yX9_dies cX9_dies 7 (Option.some Jvm.ClassFile.FieldType.int) :: AL) ({ frames := 1, cells := 0, slots := 0, locals := 22 })).room s m ([.ref h0, .int p1, .int p2, .int p3] : List Value).toArray below meth c H locs 0 0 (MQ below (va_Qi (fun (r : Int32) (u : gh) => (∀ c j : Nat, c ≠ 100 → c ≠ 106 → c ≠ 108 → c ≠ 109 → c ≠ 132 → c ≠ 135 → u c j = g c j) ∧ (IJ u) ∧ (((0 ≤ p1.toInt ∧ p1.toInt < g 104 0 ∧ g 108 p1.toInt.toNat = 0 ∧ 0 ≤ p2.toInt ∧ p2.toInt < g 104 0 ∧ g 108 p2.toInt.toNat = 0 ∧ p1.toInt ≠ p2.toInt) → r.toInt = (if hb_f (g 123) (g 122 0).toNat ≠ 0 ∨ p3.toInt ≠ 0 then (cnt 318 (g 109) p1.toInt : Int) else 0) ∧ u 108 = pz_up (g 108) p1.toInt.toNat 1 ∧ u 135 = pz_up (g 135) (4 * (200 + p1.toInt.toNat) + 3) 0 ∧ u 132 = dy_f (g 132) (g 127) p1.toInt (g 126 0).toNat ∧ u 109 = (if hb_f (g 123) (g 122 0).toNat ≠ 0 ∨ p3.toInt ≠ 0 then pr_f (g 109) p1.toInt p2.toInt 318 else pr_f (g 109) p1.toInt (-1) 318) ∧ u 106 = (if hb_f (g 123) (g 122 0).toNat ≠ 0 ∨ p3.toInt ≠ 0 then pz_up (pz_up (g 106) p2.toInt.toNat (wa (g 106 p2.toInt.toNat) (g 106 p1.toInt.toNat))) p1.toInt.toNat 0 else pz_up (g 106) p1.toInt.toNat 0)) ∧ (¬ ((0 ≤ p1.toInt ∧ p1.toInt < g 104 0 ∧ g 108 p1.toInt.toNat = 0 ∧ 0 ≤ p2.toInt ∧ p2.toInt < g 104 0 ∧ g 108 p2.toInt.toNat = 0 ∧ p1.toInt ≠ p2.toInt)) → r.toInt = -1 ∧ u 108 = g 108 ∧ u 135 = g 135 ∧ u 132 = g 132 ∧ u 109 = g 109 ∧ u 106 = g 106))) (okb dC dI dA sz X Γ) (ty_A sz)) ([.ref h0, .int p1, .int p2, .int p3] : List Value).toArray s 0 0 (ty_A sz)) (F0 m 157 ls []) := by
                          intro n
                          induction n with
                          | zero => intro v6_157 g323 H locs ls hm hi0 hf327 hq0 hq1 hG hS hl; exfalso; omega
                          | succ n ih_157 =>
                            intro v6_157 g323 H locs ls hm hi0 hf327 hq0 hq1 hG hS hl
                            have hk328 : g323 126 0 = (gs g295 135 (4 * (200 + p1.toInt.toNat) + 3) x319.toInt) 126 0 := hf327 126 0 (by decide)
                            replace hk328 : g323 126 0 = g295 126 0 := by rw [hk328, gs_c _ _ _ _ (by decide)]
                            have he8 : g323 132 v6_157.toInt.toNat = g 132 v6_157.toInt.toNat := by rw [hq1]; exact dy_at
                            refine lv_iload hx hb dX9_dies_157 (lv_at hl 0 rfl) ?_
                            refine lv_aload_n hx hb dX9_dies_159 rfl (lv_at hl 3 rfl) ?_
                            refine get_X9_26 hx hb hA hown hE hG t_h0 wd_4_156 dX9_dies_160 (fun x329 h330 => ?_)
                            replace h330 : x329.toInt = g 126 0 := by rw [h330, hf327 126 0 (by decide), gs_c _ _ _ _ (by decide), hf297 126 0 (by decide) (by decide), hf266 126 0 (by decide), gs_c _ _ _ _ (by decide)]
                            refine ty_icmp_ge (tgt := 201) hx hb dX9_dies_163 (by decide) (fun c332 => ?_) (fun c332 => ?_)
                            · skip
                              refine lv_iload hx hb dX9_dies_201 (lv_at hl 1 rfl) ?_
                              have hin9 : (hb_f (g 123) (g 122 0).toNat ≠ 0 ∨ p3.toInt ≠ 0) := by omega
                              exact W.iret (v := v5_52) hx hb hr (fun t ht hW => ⟨⟨v5_52, g323, rfl, ⟨(fun c j h100 h106 h108 h109 h132 h135 => by rw [hf327 c j h132, gs_c _ _ _ _ h135, hf297 c j h106 h108, hf266 c j h109, gs_c _ _ _ _ h100]), (by (repeat (first | with_reducible assumption | (refine IJ_c (by decide) (by decide) (by decide) ?_) | (refine IJ_take (by omega) (by omega) ?_) | (refine IJ_how (by omega) ?_) | (refine IJ_by (by omega) ?_)))), (⟨fun _ => ⟨(by rw [if_pos hin9]; rw [← show v6_52.toInt.toNat = 318 by omega]; omega), (by rw [(show g323 108 = (gs g295 135 (4 * (200 + p1.toInt.toNat) + 3) x319.toInt) 108 from funext fun j => hf327 108 j (by decide)), gs_r _ _ _ (by decide), hw301] <;> exact pz_upc (by omega) (by omega)), (by rw [(show g323 135 = (gs g295 135 (4 * (200 + p1.toInt.toNat) + 3) x319.toInt) 135 from funext fun j => hf327 135 j (by decide)), pz_gs, (show g295 135 = g265 135 from funext fun j => hf297 135 j (by decide) (by decide)), (show g265 135 = (gs g 100 0 x1.toInt) 135 from funext fun j => hf266 135 j (by decide)), gs_r _ _ _ (by decide)] <;> exact pz_upc (by omega) (by omega)), (by rw [hq1, show v6_157.toInt.toNat = (g 126 0).toNat by omega]), (by rw [if_pos hin9]; rw [(show g323 109 = (gs g295 135 (4 * (200 + p1.toInt.toNat) + 3) x319.toInt) 109 from funext fun j => hf327 109 j (by decide)), gs_r _ _ _ (by decide), (show g295 109 = g265 109 from funext fun j => hf297 109 j (by decide) (by decide)), ha0, show v6_52.toInt.toNat = 318 by omega]), (by rw [if_pos hin9]; rw [(show g323 106 = (gs g295 135 (4 * (200 + p1.toInt.toNat) + 3) x319.toInt) 106 from funext fun j => hf327 106 j (by decide)), gs_r _ _ _ (by decide), hw299] <;> exact pz_upc2 (by omega) (by omega) (by omega) (by omega))⟩, fun q => absurd (by omega) q⟩)⟩, ok1 ht hG⟩, hS.F ht⟩) hS.2.2 dX9_dies_203
                            · skip
                              refine lv_aload_n hx hb dX9_dies_166 rfl (lv_at hl 3 rfl) ?_
                              refine get_X9_27 hx hb hA hown hE hG t_h0 wd_4_157 dX9_dies_167 (fun b333 (t_b333 : ty Γ b333 127) => ?_)
                              refine lv_iload hx hb dX9_dies_170 (lv_at hl 0 rfl) ?_
                              refine ald_mI hx hb hE hG 27 rfl (n := 200) rfl (lo := 0) (hi := 9) rfl rfl t_b333 (by omega) dX9_dies_172 (fun j335 x334 h336 h337 h338 => ?_)
                              obtain rfl : j335 = v6_157.toInt.toNat := by omega
                              replace h337 : x334.toInt = g323 127 v6_157.toInt.toNat := h337
                              have hk339 : g323 127 v6_157.toInt.toNat = (gs g295 135 (4 * (200 + p1.toInt.toNat) + 3) x319.toInt) 127 v6_157.toInt.toNat := hf327 127 v6_157.toInt.toNat (by decide)
                              replace hk339 : g323 127 v6_157.toInt.toNat = g295 127 v6_157.toInt.toNat := by rw [hk339, gs_c _ _ _ _ (by decide)]
                              have hk340 : g295 127 v6_157.toInt.toNat = g265 127 v6_157.toInt.toNat := hf297 127 v6_157.toInt.toNat (by decide) (by decide)
                              have hk341 : g265 127 v6_157.toInt.toNat = (gs g 100 0 x1.toInt) 127 v6_157.toInt.toNat := hf266 127 v6_157.toInt.toNat (by decide)
                              replace hk341 : g265 127 v6_157.toInt.toNat = g 127 v6_157.toInt.toNat := by rw [hk341, gs_c _ _ _ _ (by decide)]
                              replace h337 : x334.toInt = g 127 v6_157.toInt.toNat := by rw [h337, hf327 127 v6_157.toInt.toNat (by decide), gs_c _ _ _ _ (by decide), hf297 127 v6_157.toInt.toNat (by decide) (by decide), hf266 127 v6_157.toInt.toNat (by decide), gs_c _ _ _ _ (by decide)]
                              refine lv_iload_n hx hb dX9_dies_173 rfl (lv_at hl 4 rfl) ?_
                              refine ty_icmp_ne (tgt := 195) hx hb dX9_dies_174 (by decide) (fun c342 => ?_) (fun c342 => ?_)
                              · skip
                                obtain ⟨x343, h344⟩ : ∃ y : Int32, y = v6_157 + Int32.ofInt (1) := ⟨_, rfl⟩
                                try have h345 : x343.toInt = v6_157.toInt + (1) := ty_inc h344 (by decide) (by omega) (by omega)
                                refine lv_iinc (v := x343) (lv' := [(6, .int x343), (5, .int v5_52), (4, .int x259), (0, .ref h0), (1, .int p1), (2, .int p2), (3, .int p3)]) hx hb dX9_dies_195 hl (k := 0) rfl h344.symm (by decide) rfl (fun ls hl => ?_)
                                refine lv_goto (tgt := 157) hx hb dX9_dies_198 (by decide) ?_
                                exact ih_157 x343 g323 _ _ ls (by omega) (by omega) (fun c j h132 => by rw [hf327 c j h132]) (by (repeat (first | with_reducible assumption | (refine IJ_c (by decide) (by decide) (by decide) ?_) | (refine IJ_take (by omega) (by omega) ?_) | (refine IJ_how (by omega) ?_) | (refine IJ_by (by omega) ?_)))) (dy_n (by omega) (by omega) hq1) hG hS (lv_sub hl [0, 1, 2, 3, 4, 5, 6] rfl)
                              · skip
                                refine lv_aload_n hx hb dX9_dies_177 rfl (lv_at hl 3 rfl) ?_
                                refine get_X9_32 hx hb hA hown hE hG t_h0 wd_4_162 dX9_dies_178 (fun b346 (t_b346 : ty Γ b346 132) => ?_)
                                refine lv_iload hx hb dX9_dies_181 (lv_at hl 0 rfl) ?_
                                refine ald_mI hx hb hE hG 32 rfl (n := 200) rfl (lo := 0) (hi := 5) rfl rfl t_b346 (by omega) dX9_dies_183 (fun j348 x347 h349 h350 h351 => ?_)
                                obtain rfl : j348 = v6_157.toInt.toNat := by omega
                                replace h350 : x347.toInt = g323 132 v6_157.toInt.toNat := h350
                                refine ty_if_ne (tgt := 195) hx hb dX9_dies_184 (by decide) (fun c352 => ?_) (fun c352 => ?_)
                                · skip
                                  obtain ⟨x353, h354⟩ : ∃ y : Int32, y = v6_157 + Int32.ofInt (1) := ⟨_, rfl⟩
                                  try have h355 : x353.toInt = v6_157.toInt + (1) := ty_inc h354 (by decide) (by omega) (by omega)
                                  refine lv_iinc (v := x353) (lv' := [(6, .int x353), (5, .int v5_52), (4, .int x259), (0, .ref h0), (1, .int p1), (2, .int p2), (3, .int p3)]) hx hb dX9_dies_195 hl (k := 0) rfl h354.symm (by decide) rfl (fun ls hl => ?_)
                                  refine lv_goto (tgt := 157) hx hb dX9_dies_198 (by decide) ?_
                                  exact ih_157 x353 g323 _ _ ls (by omega) (by omega) (fun c j h132 => by rw [hf327 c j h132]) (by (repeat (first | with_reducible assumption | (refine IJ_c (by decide) (by decide) (by decide) ?_) | (refine IJ_take (by omega) (by omega) ?_) | (refine IJ_how (by omega) ?_) | (refine IJ_by (by omega) ?_)))) (dy_n (by omega) (by omega) hq1) hG hS (lv_sub hl [0, 1, 2, 3, 4, 5, 6] rfl)
                                · skip
                                  refine lv_aload_n hx hb dX9_dies_187 rfl (lv_at hl 3 rfl) ?_
                                  refine get_X9_32 hx hb hA hown hE hG t_h0 wd_4_162 dX9_dies_188 (fun b356 (t_b356 : ty Γ b356 132) => ?_)
                                  refine lv_iload hx hb dX9_dies_191 (lv_at hl 0 rfl) ?_
                                  refine ty_iconst hx hb (4) dX9_dies_193 (by decide) (fun x357 h358 => ?_)
                                  refine ast_mI hx hb hE hG hS hU 32 rfl (n := 200) rfl (lo := 0) (hi := 5) rfl rfl rfl t_b356 (by omega) (by omega) dX9_dies_194 (fun H locs hG hS => ?_)
                                  obtain ⟨x359, h360⟩ : ∃ y : Int32, y = v6_157 + Int32.ofInt (1) := ⟨_, rfl⟩
                                  try have h361 : x359.toInt = v6_157.toInt + (1) := ty_inc h360 (by decide) (by omega) (by omega)
                                  refine lv_iinc (v := x359) (lv' := [(6, .int x359), (5, .int v5_52), (4, .int x259), (0, .ref h0), (1, .int p1), (2, .int p2), (3, .int p3)]) hx hb dX9_dies_195 hl (k := 0) rfl h360.symm (by decide) rfl (fun ls hl => ?_)
                                  refine lv_goto (tgt := 157) hx hb dX9_dies_198 (by decide) ?_
                                  have e362 : (gs g323 132 v6_157.toInt.toNat x357.toInt) 126 0 = g323 126 0 := by rw [gs_c _ _ _ _ (by decide)]
                                  exact ih_157 x359 (gs g323 132 v6_157.toInt.toNat x357.toInt) _ _ ls (by omega) (by omega) (fun c j h132 => by rw [gs_c _ _ _ _ h132, hf327 c j h132]) (by (repeat (first | with_reducible assumption | (refine IJ_c (by decide) (by decide) (by decide) ?_) | (refine IJ_take (by omega) (by omega) ?_) | (refine IJ_how (by omega) ?_) | (refine IJ_by (by omega) ?_)))) (by rw [pz_gs]; exact dy_s (by omega) (by omega) (by omega) (by omega) hq1) hG hS (lv_sub hl [0, 1, 2, 3, 4, 5, 6] rfl)
                        have e363 : (gs g295 135 (4 * (200 + p1.toInt.toNat) + 3) x319.toInt) 126 0 = g295 126 0 := by rw [gs_c _ _ _ _ (by decide)]
                        exact L_157 (((gs g295 135 (4 * (200 + p1.toInt.toNat) + 3) x319.toInt) 126 0 - x321.toInt) + 1).toNat x321 (gs g295 135 (4 * (200 + p1.toInt.toNat) + 3) x319.toInt) _ _ ls (by omega) (by omega) (fun c j _ => rfl) (by (repeat (first | with_reducible assumption | (refine IJ_c (by decide) (by decide) (by decide) ?_) | (refine IJ_take (by omega) (by omega) ?_) | (refine IJ_how (by omega) ?_) | (refine IJ_by (by omega) ?_)))) (by rw [gs_r _ _ _ (by decide), (show g295 132 = g265 132 from funext fun j => hf297 132 j (by decide) (by decide)), (show g265 132 = (gs g 100 0 x1.toInt) 132 from funext fun j => hf266 132 j (by decide)), gs_r _ _ _ (by decide)]; exact dy_0 (by omega)) hG hS (lv_sub hl [0, 1, 2, 3, 4, 5, 6] rfl)
                    · skip
                      refine lv_aload_n hx hb dX9_dies_60 rfl (lv_at hl 3 rfl) ?_
                      refine get_X9_9 hx hb hA hown hE hG t_h0 wd_4_139 dX9_dies_61 (fun b364 (t_b364 : ty Γ b364 109) => ?_)
                      refine lv_iload hx hb dX9_dies_64 (lv_at hl 0 rfl) ?_
                      refine ald_mI hx hb hE hG 9 rfl (n := 318) rfl (lo := -2147483648) (hi := 2147483647) rfl rfl t_b364 (by omega) dX9_dies_66 (fun j366 x365 h367 h368 h369 => ?_)
                      clear h369
                      obtain rfl : j366 = v6_52.toInt.toNat := by omega
                      replace h368 : x365.toInt = g265 109 v6_52.toInt.toNat := h368
                      refine lv_iload_n hx hb dX9_dies_67 rfl (lv_at hl 4 rfl) ?_
                      refine ty_icmp_eq (tgt := 74) hx hb dX9_dies_68 (by decide) (fun c370 => ?_) (fun c370 => ?_)
                      · skip
                        refine lv_aload_n hx hb dX9_dies_74 rfl (lv_at hl 3 rfl) ?_
                        refine get_X9_9 hx hb hA hown hE hG t_h0 wd_4_139 dX9_dies_75 (fun b371 (t_b371 : ty Γ b371 109) => ?_)
                        refine lv_iload hx hb dX9_dies_78 (lv_at hl 0 rfl) ?_
                        refine lv_iload hx hb dX9_dies_80 (lv_at hl 2 rfl) ?_
                        refine ty_if_eq (tgt := 89) hx hb dX9_dies_82 (by decide) (fun c372 => ?_) (fun c372 => ?_)
                        · exfalso; omega
                        · skip
                          refine lv_iload_n hx hb dX9_dies_85 rfl (lv_at hl 5 rfl) ?_
                          refine lv_goto (tgt := 90) hx hb dX9_dies_86 (by decide) ?_
                          refine ast_mI hx hb hE hG hS hU 9 rfl (n := 318) rfl (lo := -2147483648) (hi := 2147483647) rfl rfl rfl t_b371 (rgD _) (by omega) dX9_dies_90 (fun H locs hG hS => ?_)
                          refine lv_iload hx hb dX9_dies_91 (lv_at hl 2 rfl) ?_
                          refine ty_if_eq (tgt := 99) hx hb dX9_dies_93 (by decide) (fun c373 => ?_) (fun c373 => ?_)
                          · exfalso; omega
                          · skip
                            have hcl := cnt_le v6_52.toInt.toNat (g 109) p1.toInt
                            obtain ⟨x374, h375⟩ : ∃ y : Int32, y = v5_52 + Int32.ofInt (1) := ⟨_, rfl⟩
                            try have h376 : x374.toInt = v5_52.toInt + (1) := ty_inc h375 (by decide) (by omega) (by omega)
                            refine lv_iinc (v := x374) (lv' := [(5, .int x374), (6, .int v6_52), (4, .int x259), (0, .ref h0), (1, .int p1), (2, .int p2), (3, .int p3)]) hx hb dX9_dies_96 hl (k := 1) rfl h375.symm (by decide) rfl (fun ls hl => ?_)
                            obtain ⟨x377, h378⟩ : ∃ y : Int32, y = v6_52 + Int32.ofInt (1) := ⟨_, rfl⟩
                            try have h379 : x377.toInt = v6_52.toInt + (1) := ty_inc h378 (by decide) (by omega) (by omega)
                            refine lv_iinc (v := x377) (lv' := [(6, .int x377), (5, .int x374), (4, .int x259), (0, .ref h0), (1, .int p1), (2, .int p2), (3, .int p3)]) hx hb dX9_dies_99 hl (k := 1) rfl h378.symm (by decide) rfl (fun ls hl => ?_)
                            refine lv_goto (tgt := 52) hx hb dX9_dies_102 (by decide) ?_
                            exact ih_52 x377 x374 (gs g265 109 v6_52.toInt.toNat p2.toInt) _ _ ls (by omega) (by omega) (fun c j h109 => by rw [gs_c _ _ _ _ h109, hf266 c j h109]) (by rw [pz_gs]; exact pr_s (n := v6_52.toInt.toNat) (by omega) (by omega) rfl (by omega) ha0) (by have h9 := cnt_at (g 109) p1.toInt (i := v6_52) (i' := x377) (by omega) (by omega); omega) hG hS (lv_sub hl [0, 1, 2, 3, 4, 5, 6] rfl)
                      · skip
                        refine lv_goto (tgt := 99) hx hb dX9_dies_71 (by decide) ?_
                        obtain ⟨x380, h381⟩ : ∃ y : Int32, y = v6_52 + Int32.ofInt (1) := ⟨_, rfl⟩
                        try have h382 : x380.toInt = v6_52.toInt + (1) := ty_inc h381 (by decide) (by omega) (by omega)
                        refine lv_iinc (v := x380) (lv' := [(6, .int x380), (5, .int v5_52), (4, .int x259), (0, .ref h0), (1, .int p1), (2, .int p2), (3, .int p3)]) hx hb dX9_dies_99 hl (k := 0) rfl h381.symm (by decide) rfl (fun ls hl => ?_)
                        refine lv_goto (tgt := 52) hx hb dX9_dies_102 (by decide) ?_
                        exact ih_52 x380 v5_52 g265 _ _ ls (by omega) (by omega) (fun c j h109 => by rw [hf266 c j h109]) (pr_n (n := v6_52.toInt.toNat) (by omega) (by omega) ha0) (by have h9 := cnt_at (g 109) p1.toInt (i := v6_52) (i' := x380) (by omega) (by omega); omega) hG hS (lv_sub hl [0, 1, 2, 3, 4, 5, 6] rfl)
                exact L_52 ((318 - x263.toInt) + 1).toNat x263 x261 (gs g 100 0 x1.toInt) _ _ ls (by omega) (by omega) (fun c j _ => rfl) (by rw [gs_r _ _ _ (by decide)]; exact pr_0 (by omega)) (by rw [show x263.toInt.toNat = 0 by omega]; show _ = (0 : Int); omega) hG hS (lv_sub hl [0, 1, 2, 3, 4, 5, 6] rfl)
          · skip
            refine ty_iconst hx hb (-1) dX9_dies_26 (by decide) (fun x383 h384 => ?_)
            exact W.iret (v := x383) hx hb hr (fun t ht hW => ⟨⟨x383, (gs g 100 0 x1.toInt), rfl, ⟨(fun c j h100 h106 h108 h109 h132 h135 => by rw [gs_c _ _ _ _ h100]), (by (repeat (first | with_reducible assumption | (refine IJ_c (by decide) (by decide) (by decide) ?_) | (refine IJ_take (by omega) (by omega) ?_) | (refine IJ_how (by omega) ?_) | (refine IJ_by (by omega) ?_)))), (⟨fun q => absurd q (by omega), fun _ => ⟨(by omega), (by rw [gs_r _ _ _ (by decide)]), (by rw [gs_r _ _ _ (by decide)]), (by rw [gs_r _ _ _ (by decide)]), (by rw [gs_r _ _ _ (by decide)]), (by rw [gs_r _ _ _ (by decide)])⟩⟩)⟩, ok1 ht hG⟩, hS.F ht⟩) hS.2.2 dX9_dies_27
      · skip
        refine ty_if_eq (tgt := 26) hx hb dX9_dies_18 (by decide) (fun c385 => ?_) (fun c385 => ?_)
        · skip
          refine ty_iconst hx hb (-1) dX9_dies_26 (by decide) (fun x386 h387 => ?_)
          exact W.iret (v := x386) hx hb hr (fun t ht hW => ⟨⟨x386, (gs g 100 0 x1.toInt), rfl, ⟨(fun c j h100 h106 h108 h109 h132 h135 => by rw [gs_c _ _ _ _ h100]), (by (repeat (first | with_reducible assumption | (refine IJ_c (by decide) (by decide) (by decide) ?_) | (refine IJ_take (by omega) (by omega) ?_) | (refine IJ_how (by omega) ?_) | (refine IJ_by (by omega) ?_)))), (⟨fun q => absurd q (by omega), fun _ => ⟨(by omega), (by rw [gs_r _ _ _ (by decide)]), (by rw [gs_r _ _ _ (by decide)]), (by rw [gs_r _ _ _ (by decide)]), (by rw [gs_r _ _ _ (by decide)]), (by rw [gs_r _ _ _ (by decide)])⟩⟩)⟩, ok1 ht hG⟩, hS.F ht⟩) hS.2.2 dX9_dies_27
        · exfalso; omega
  · skip
    refine ty_if_eq (tgt := 26) hx hb dX9_dies_10 (by decide) (fun c388 => ?_) (fun c388 => ?_)
    · skip
      refine ty_iconst hx hb (-1) dX9_dies_26 (by decide) (fun x389 h390 => ?_)
      exact W.iret (v := x389) hx hb hr (fun t ht hW => ⟨⟨x389, (gs g 100 0 x1.toInt), rfl, ⟨(fun c j h100 h106 h108 h109 h132 h135 => by rw [gs_c _ _ _ _ h100]), (by (repeat (first | with_reducible assumption | (refine IJ_c (by decide) (by decide) (by decide) ?_) | (refine IJ_take (by omega) (by omega) ?_) | (refine IJ_how (by omega) ?_) | (refine IJ_by (by omega) ?_)))), (⟨fun q => absurd q (by omega), fun _ => ⟨(by omega), (by rw [gs_r _ _ _ (by decide)]), (by rw [gs_r _ _ _ (by decide)]), (by rw [gs_r _ _ _ (by decide)]), (by rw [gs_r _ _ _ (by decide)]), (by rw [gs_r _ _ _ (by decide)])⟩⟩)⟩, ok1 ht hG⟩, hS.F ht⟩) hS.2.2 dX9_dies_27
    · exfalso; omega

set_option maxHeartbeats 4000000 in
set_option maxRecDepth 100000 in
/-- WeekBankModel.weeksThatStay:  -/
theorem k_X9_weeksThatStay (l : Launch) (dC : Nat → ClassId) (dI : Nat → Nat → Nat) (dA : Nat → ClassId) (sz : Nat) (X : va_W) (Γ : ty_G) (hU : Un Γ) (g : gh) (h0 : Nat) (t_h0 : ty Γ h0 30) (m4 : 0 ≤ g 104 0 ∧ g 104 0 ≤ 10) : Met l yX9_weeksThatStay (.code yX9_weeksThatStay cX9_weeksThatStay 3 (Option.some Jvm.ClassFile.FieldType.int) :: AL) ({ frames := 1, cells := 0, slots := 0, locals := 23 }) (PCx dC dI dA sz X Γ g [.ref h0]) (va_Qi (fun (r : Int32) (u : gh) => u = g) (okb dC dI dA sz X Γ) (ty_A sz)) 0 0 (ty_A sz) := by
  refine Met.ofW (cc := cX9_weeksThatStay) (maxL := 3) (ret := (Option.some Jvm.ClassFile.FieldType.int)) (by decide) rfl ?_
  intro p e s m args below meth c s₁ B hml hv
  obtain ⟨rfl, hG, hE⟩ := hv
  have hx := B.exec
  have hb := B.bytes
  have hr := B.returns
  have hts := atoms_spec B.pre
  have hA : ∀ w ∈ AL, w.before _ s = true := fun w h => hts w (List.mem_cons_of_mem _ h)
  have hown : s.vm.findClass RX9 = some m.cls := findClass_of_methodNamed B.named
  have hlocks := B.notSynchronized
  have hS : va_S (ty_A sz) s.heap s.heap [] := va_S.rf
  have hl := lv_entry ([.ref h0]) (n := 3) (Nat.le_of_ble_eq_true rfl)
  rw [lg_entry_eq]
  generalize (lg_sl ([.ref h0]) ++ List.replicate (3 - (lg_sl ([.ref h0])).length) Slot.unset).toArray = ls at hl ⊢
  have hl : lv_has ls 3 [(0, .ref h0)] := hl
  refine ty_iconst hx hb (0) dX9_weeksThatStay_0 (by decide) (fun x1 h2 => ?_)
  refine lv_istore_n (lv' := [(1, .int x1), (0, .ref h0)]) hx hb dX9_weeksThatStay_1 rfl hl (by decide) rfl (fun ls hl => ?_)
  refine ty_iconst hx hb (0) dX9_weeksThatStay_2 (by decide) (fun x3 h4 => ?_)
  refine lv_istore_n (lv' := [(2, .int x3), (1, .int x1), (0, .ref h0)]) hx hb dX9_weeksThatStay_3 rfl hl (by decide) rfl (fun ls hl => ?_)
  have L_4 : ∀ (n : Nat) (v2_4 : Int32) (v1_4 : Int32) (H : Heap) (locs : List Loc) (ls : Array Slot), (g 104 0 - v2_4.toInt : Int) < n → 0 ≤ v2_4.toInt ∧ v2_4.toInt ≤ g 104 0 → ty_ok (dC, dI) vwCl Γ (TP dA Γ g) sz X H → va_S (ty_A sz) s.heap H locs → lv_has ls 3 [(2, .int v2_4), (1, .int v1_4), (0, .ref h0)] → W p l e (headSpec (.code yX9_weeksThatStay cX9_weeksThatStay 3 (Option.some Jvm.ClassFile.FieldType.int) :: AL) ({ frames := 1, cells := 0, slots := 0, locals := 23 })).room s m ([.ref h0] : List Value).toArray below meth c H locs 0 0 (MQ below (va_Qi (fun (r : Int32) (u : gh) => u = g) (okb dC dI dA sz X Γ) (ty_A sz)) ([.ref h0] : List Value).toArray s 0 0 (ty_A sz)) (F0 m 4 ls []) := by
    intro n
    induction n with
    | zero => intro v2_4 v1_4 H locs ls hm hi0 hG hS hl; exfalso; omega
    | succ n ih_4 =>
      intro v2_4 v1_4 H locs ls hm hi0 hG hS hl
      refine lv_iload_n hx hb dX9_weeksThatStay_4 rfl (lv_at hl 0 rfl) ?_
      refine lv_aload_n hx hb dX9_weeksThatStay_5 rfl (lv_at hl 2 rfl) ?_
      refine get_X9_4 hx hb hA hown hE hG t_h0 wd_4_134 dX9_weeksThatStay_6 (fun x6 h7 => ?_)
      refine ty_icmp_ge (tgt := 35) hx hb dX9_weeksThatStay_9 (by decide) (fun c9 => ?_) (fun c9 => ?_)
      · skip
        refine lv_iload_n hx hb dX9_weeksThatStay_35 rfl (lv_at hl 1 rfl) ?_
        exact W.iret (v := v1_4) hx hb hr (fun t ht hW => ⟨⟨v1_4, g, rfl, rfl, ok1 ht hG⟩, hS.F ht⟩) hS.2.2 dX9_weeksThatStay_36
      · skip
        refine lv_aload_n hx hb dX9_weeksThatStay_12 rfl (lv_at hl 2 rfl) ?_
        refine get_X9_46 hx hb hA hown hE hG t_h0 wd_4_176 dX9_weeksThatStay_13 (fun b10 (t_b10 : ty Γ b10 146) => ?_)
        refine lv_iload_n hx hb dX9_weeksThatStay_16 rfl (lv_at hl 0 rfl) ?_
        refine ald_mZ hx hb hE hG 46 rfl (n := 10) rfl (lo := 0) (hi := 1) rfl rfl t_b10 (by omega) dX9_weeksThatStay_17 (fun j12 x11 h13 h14 h15 => ?_)
        refine ty_if_eq (tgt := 29) hx hb dX9_weeksThatStay_18 (by decide) (fun c16 => ?_) (fun c16 => ?_)
        · skip
          obtain ⟨x17, h18⟩ : ∃ y : Int32, y = v2_4 + Int32.ofInt (1) := ⟨_, rfl⟩
          try have h19 : x17.toInt = v2_4.toInt + (1) := ty_inc h18 (by decide) (by omega) (by omega)
          refine lv_iinc (v := x17) (lv' := [(2, .int x17), (1, .int v1_4), (0, .ref h0)]) hx hb dX9_weeksThatStay_29 hl (k := 0) rfl h18.symm (by decide) rfl (fun ls hl => ?_)
          refine lv_goto (tgt := 4) hx hb dX9_weeksThatStay_32 (by decide) ?_
          exact ih_4 x17 v1_4 _ _ ls (by omega) (by omega) hG hS (lv_sub hl [0, 1, 2] rfl)
        · skip
          refine lv_iload_n hx hb dX9_weeksThatStay_21 rfl (lv_at hl 1 rfl) ?_
          refine lv_aload_n hx hb dX9_weeksThatStay_22 rfl (lv_at hl 2 rfl) ?_
          refine lv_iload_n hx hb dX9_weeksThatStay_23 rfl (lv_at hl 0 rfl) ?_
          refine cI (va_runV (C := RX9) (As := [.int v2_4]) (rest := [.int v1_4]) ⟨hx, hb, hml, hown, hA⟩ (k_X9_owned l dC dI dA sz X Γ hU g h0 t_h0 v2_4   ) ⟨callB_of 1 hA (al_A wd_5_218) rfl rfl rfl (hA _ wd_1_7) (hA _ wd_5_215) (by decide +kernel) ⟨Nat.le_of_ble_eq_true rfl, Nat.le_of_ble_eq_true rfl⟩, hA _ wd_5_217, hA _ ws_57⟩ ⟨bl, recv_X9 hE hG t_h0, fun U hU9 hW9 => ⟨rfl, by rw [hU9]; exact hG, hE.go hS hU9 hW9⟩⟩ rfl rfl hl.1 rfl (lv_room (Nat.le_of_ble_eq_true rfl)) dX9_weeksThatStay_24 ⟨Nat.zero_le _, Nat.zero_le _⟩) hS (fun x22 u20 H locs w21 hG hS => ?_)
          obtain ⟨eu23, w21⟩ := w21
          rw [eu23] at hG
          refine ty_iadd hx hb dX9_weeksThatStay_27 (fun x24 h25 => ?_)
          try have h26 : x24.toInt = v1_4.toInt + x22.toInt := ty_add h25 (by omega) (by omega)
          refine lv_istore_n (lv' := [(1, .int x24), (2, .int v2_4), (0, .ref h0)]) hx hb dX9_weeksThatStay_28 rfl hl (by decide) rfl (fun ls hl => ?_)
          obtain ⟨x27, h28⟩ : ∃ y : Int32, y = v2_4 + Int32.ofInt (1) := ⟨_, rfl⟩
          try have h29 : x27.toInt = v2_4.toInt + (1) := ty_inc h28 (by decide) (by omega) (by omega)
          refine lv_iinc (v := x27) (lv' := [(2, .int x27), (1, .int x24), (0, .ref h0)]) hx hb dX9_weeksThatStay_29 hl (k := 1) rfl h28.symm (by decide) rfl (fun ls hl => ?_)
          refine lv_goto (tgt := 4) hx hb dX9_weeksThatStay_32 (by decide) ?_
          exact ih_4 x27 x24 _ _ ls (by omega) (by omega) hG hS (lv_sub hl [0, 1, 2] rfl)
  exact L_4 ((g 104 0 - x3.toInt) + 1).toNat x3 x1 _ _ ls (by omega) (by omega) hG hS (lv_sub hl [0, 1, 2] rfl)
