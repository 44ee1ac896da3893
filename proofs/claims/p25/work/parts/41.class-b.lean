set_option maxHeartbeats 4000000 in
set_option maxRecDepth 100000 in
/-- WeekBank.shut:  -/
theorem k_X8_shut (l : Launch) (dC : Nat → ClassId) (dI : Nat → Nat → Nat) (dA : Nat → ClassId) (sz : Nat) (X : va_W) (Γ : ty_G) (hU : Un Γ) (g : gh) (h0 : Nat) (t_h0 : ty Γ h0 1) (p1 : Int32) (p2 : Int32) (p3 : Int32) (g1 : g 1 0 = g 33 0 ∧ 0 ≤ g 1 0 ∧ g 1 0 ≤ 6) (g3 : g 3 0 = g 35 0 ∧ 0 ≤ g 3 0 ∧ g 3 0 ≤ 200) (g5 : 0 ≤ g 5 0 ∧ g 5 0 ≤ 52) : Met l yX8_shut (.code yX8_shut cX8_shut 9 (Option.some Jvm.ClassFile.FieldType.int) :: AL) ({ frames := 2, cells := 0, slots := 0, locals := 40 }) (PCx dC dI dA sz X Γ g [.ref h0, .int p1, .int p2, .int p3]) (va_Qi (fun (r : Int32) (u : gh) => (∀ c j : Nat, c ≠ 44 → c ≠ 51 → c ≠ 65 → u c j = g c j) ∧ (((0 ≤ p1.toInt ∧ p1.toInt < g 1 0 ∧ g 5 0 ≤ p2.toInt ∧ p2.toInt ≤ p3.toInt ∧ p3.toInt ≤ 52) → r.toInt = (sh_f (g 60) (g 68) (g 64) (g 61) (g 62) (g 63) p1.toInt p2.toInt p3.toInt (g 4 0) (g 51) (g 65) (g 3 0).toNat).2.2 ∧ u 44 = fz (g 44) (53 * p1.toInt.toNat + p2.toInt.toNat) 1 (p3.toInt - p2.toInt + 1).toNat ∧ u 51 = (sh_f (g 60) (g 68) (g 64) (g 61) (g 62) (g 63) p1.toInt p2.toInt p3.toInt (g 4 0) (g 51) (g 65) (g 3 0).toNat).1 ∧ u 65 = (sh_f (g 60) (g 68) (g 64) (g 61) (g 62) (g 63) p1.toInt p2.toInt p3.toInt (g 4 0) (g 51) (g 65) (g 3 0).toNat).2.1) ∧ (¬ ((0 ≤ p1.toInt ∧ p1.toInt < g 1 0 ∧ g 5 0 ≤ p2.toInt ∧ p2.toInt ≤ p3.toInt ∧ p3.toInt ≤ 52)) → r.toInt = -1 ∧ u 44 = g 44 ∧ u 51 = g 51 ∧ u 65 = g 65))) (okb dC dI dA sz X Γ) (ty_A sz)) 0 0 (ty_A sz) := by
  refine Met.ofW (cc := cX8_shut) (maxL := 9) (ret := (Option.some Jvm.ClassFile.FieldType.int)) (by decide) rfl ?_
  intro p e s m args below meth c s₁ B hml hv
  obtain ⟨rfl, hG, hE⟩ := hv
  have hx := B.exec
  have hb := B.bytes
  have hr := B.returns
  have hts := atoms_spec B.pre
  have hA : ∀ w ∈ AL, w.before _ s = true := fun w h => hts w (List.mem_cons_of_mem _ h)
  have hown : s.vm.findClass RX8 = some m.cls := findClass_of_methodNamed B.named
  have hlocks := B.notSynchronized
  have hS : va_S (ty_A sz) s.heap s.heap [] := va_S.rf
  have hl := lv_entry ([.ref h0, .int p1, .int p2, .int p3]) (n := 9) (Nat.le_of_ble_eq_true rfl)
  rw [lg_entry_eq]
  generalize (lg_sl ([.ref h0, .int p1, .int p2, .int p3]) ++ List.replicate (9 - (lg_sl ([.ref h0, .int p1, .int p2, .int p3])).length) Slot.unset).toArray = ls at hl ⊢
  have hl : lv_has ls 9 [(0, .ref h0), (1, .int p1), (2, .int p2), (3, .int p3)] := hl
  refine lv_aload_n hx hb dX8_shut_0 rfl (lv_at hl 0 rfl) ?_
  refine lv_iload_n hx hb dX8_shut_1 rfl (lv_at hl 1 rfl) ?_
  refine cQ (va_runV (C := RX8) (As := [.int p1]) (rest := []) ⟨hx, hb, hml, hown, hA⟩ (k_X8_flatAt l dC dI dA sz X Γ hU g h0 t_h0 p1   (by omega)) ⟨callB_of 1 hA (al_A wd_2_48) rfl rfl rfl (hA _ wd_1_1) (hA _ wd_2_45) (by decide +kernel) ⟨Nat.le_of_ble_eq_true rfl, Nat.le_of_ble_eq_true rfl⟩, hA _ wd_2_47, hA _ ws_0⟩ ⟨bl, recv_X8 hE hG t_h0, fun U hU9 hW9 => ⟨rfl, by rw [hU9]; exact hG, hE.go hS hU9 hW9⟩⟩ rfl rfl hl.1 rfl (lv_room (Nat.le_of_ble_eq_true rfl)) dX8_shut_2 ⟨Nat.zero_le _, Nat.zero_le _⟩) hS (fun r3 u1 H locs w2 hG hS => ?_)
  obtain ⟨z_r3, n_r3, t_r3, w2⟩ := w2
  obtain ⟨eu4, w2⟩ := w2
  rw [eu4] at hG
  rcases pz_or w2 with w2 | w2
  · skip
    obtain ⟨b5, h6⟩ := Option.ne_none_iff_exists'.mp (fun h9 => absurd (n_r3 h9) (by omega))
    obtain ⟨t_b5, p_b5⟩ := t_r3 b5 h6
    clear t_r3 n_r3
    subst h6
    replace t_b5 : Γ b5 = (2, (p1.toInt).toNat) := by rw [t_b5, show z_r3 = p1.toInt by omega]
    replace p_b5 : 0 ≤ p1.toInt := by omega
    refine lv_astore (lv' := [(4, .ref b5), (0, .ref h0), (1, .int p1), (2, .int p2), (3, .int p3)]) hx hb dX8_shut_5 hl (by decide) rfl (fun ls hl => ?_)
    refine lv_aload hx hb dX8_shut_7 (lv_at hl 0 rfl) ?_
    refine lv_ifnull hx hb dX8_shut_9 ?_
    refine lv_iload_n hx hb dX8_shut_12 rfl (lv_at hl 3 rfl) ?_
    refine lv_aload_n hx hb dX8_shut_13 rfl (lv_at hl 1 rfl) ?_
    refine get_X8_10 hx hb hA hown hE hG t_h0 wd_1_167 dX8_shut_14 (fun x7 h8 => ?_)
    refine ty_icmp_lt (tgt := 31) hx hb dX8_shut_17 (by decide) (fun c10 => ?_) (fun c10 => ?_)
    · skip
      refine ty_iconst hx hb (-1) dX8_shut_31 (by decide) (fun x11 h12 => ?_)
      exact W.iret (v := x11) hx hb hr (fun t ht hW => ⟨⟨x11, g, rfl, ⟨(fun c j h44 h51 h65 => by rfl), (⟨fun q => absurd q (by omega), fun _ => ⟨(by omega), (rfl), (rfl), (rfl)⟩⟩)⟩, ok1 ht hG⟩, hS.F ht⟩) hS.2.2 dX8_shut_32
    · skip
      refine lv_iload_n hx hb dX8_shut_20 rfl (lv_at hl 3 rfl) ?_
      refine lv_iload_n hx hb dX8_shut_21 rfl (lv_at hl 4 rfl) ?_
      refine ty_icmp_gt (tgt := 31) hx hb dX8_shut_22 (by decide) (fun c13 => ?_) (fun c13 => ?_)
      · skip
        refine ty_iconst hx hb (-1) dX8_shut_31 (by decide) (fun x14 h15 => ?_)
        exact W.iret (v := x14) hx hb hr (fun t ht hW => ⟨⟨x14, g, rfl, ⟨(fun c j h44 h51 h65 => by rfl), (⟨fun q => absurd q (by omega), fun _ => ⟨(by omega), (rfl), (rfl), (rfl)⟩⟩)⟩, ok1 ht hG⟩, hS.F ht⟩) hS.2.2 dX8_shut_32
      · skip
        refine lv_iload_n hx hb dX8_shut_25 rfl (lv_at hl 4 rfl) ?_
        refine ty_bipush hx hb (52) dX8_shut_26 (by decide) (fun x16 h17 => ?_)
        refine ty_icmp_le (tgt := 33) hx hb dX8_shut_28 (by decide) (fun c18 => ?_) (fun c18 => ?_)
        · skip
          refine lv_iload_n hx hb dX8_shut_33 rfl (lv_at hl 3 rfl) ?_
          refine lv_istore (lv' := [(5, .int p2), (4, .ref b5), (0, .ref h0), (1, .int p1), (2, .int p2), (3, .int p3)]) hx hb dX8_shut_34 hl (by decide) rfl (fun ls hl => ?_)
          have L_36 : ∀ (n : Nat) (v5_36 : Int32) (g19 : gh) (H : Heap) (locs : List Loc) (ls : Array Slot), (53 - v5_36.toInt : Int) < n → 0 ≤ v5_36.toInt ∧ v5_36.toInt ≤ 53 ∧ p2.toInt ≤ v5_36.toInt ∧ v5_36.toInt ≤ p3.toInt + 1 → (∀ c j : Nat, c ≠ 44 → g19 c j = g c j) → (g19 44 = fz (g 44) (53 * p1.toInt.toNat + p2.toInt.toNat) 1 (v5_36.toInt - p2.toInt).toNat) → ty_ok (dC, dI) vwCl Γ (TP dA Γ g19) sz X H → va_S (ty_A sz) s.heap H locs → lv_has ls 9 [(5, .int v5_36), (4, .ref b5), (0, .ref h0), (1, .int p1), (2, .int p2), (3, .int p3)] → W p l e (headSpec (.code yX8_shut cX8_shut 9 (Option.some Jvm.ClassFile.FieldType.int) :: AL) ({ frames := 2, cells := 0, slots := 0, locals := 40 })).room s m ([.ref h0, .int p1, .int p2, .int p3] : List Value).toArray below meth c H locs 0 0 (MQ below (va_Qi (fun (r : Int32) (u : gh) => (∀ c j : Nat, c ≠ 44 → c ≠ 51 → c ≠ 65 → u c j = g c j) ∧ (((0 ≤ p1.toInt ∧ p1.toInt < g 1 0 ∧ g 5 0 ≤ p2.toInt ∧ p2.toInt ≤ p3.toInt ∧ p3.toInt ≤ 52) → r.toInt = (sh_f (g 60) (g 68) (g 64) (g 61) (g 62) (g 63) p1.toInt p2.toInt p3.toInt (g 4 0) (g 51) (g 65) (g 3 0).toNat).2.2 ∧ u 44 = fz (g 44) (53 * p1.toInt.toNat + p2.toInt.toNat) 1 (p3.toInt - p2.toInt + 1).toNat ∧ u 51 = (sh_f (g 60) (g 68) (g 64) (g 61) (g 62) (g 63) p1.toInt p2.toInt p3.toInt (g 4 0) (g 51) (g 65) (g 3 0).toNat).1 ∧ u 65 = (sh_f (g 60) (g 68) (g 64) (g 61) (g 62) (g 63) p1.toInt p2.toInt p3.toInt (g 4 0) (g 51) (g 65) (g 3 0).toNat).2.1) ∧ (¬ ((0 ≤ p1.toInt ∧ p1.toInt < g 1 0 ∧ g 5 0 ≤ p2.toInt ∧ p2.toInt ≤ p3.toInt ∧ p3.toInt ≤ 52)) → r.toInt = -1 ∧ u 44 = g 44 ∧ u 51 = g 51 ∧ u 65 = g 65))) (okb dC dI dA sz X Γ) (ty_A sz)) ([.ref h0, .int p1, .int p2, .int p3] : List Value).toArray s 0 0 (ty_A sz)) (F0 m 36 ls []) := by
            intro n
            induction n with
            | zero => intro v5_36 g19 H locs ls hm hi0 hf20 ha0 hG hS hl; exfalso; omega
            | succ n ih_36 =>
              intro v5_36 g19 H locs ls hm hi0 hf20 ha0 hG hS hl
              refine lv_iload hx hb dX8_shut_36 (lv_at hl 0 rfl) ?_
              refine lv_iload_n hx hb dX8_shut_38 rfl (lv_at hl 5 rfl) ?_
              refine ty_icmp_gt (tgt := 57) hx hb dX8_shut_39 (by decide) (fun c21 => ?_) (fun c21 => ?_)
              · skip
                refine ty_iconst hx hb (0) dX8_shut_57 (by decide) (fun x22 h23 => ?_)
                refine lv_istore (lv' := [(5, .int x22), (4, .ref b5), (0, .ref h0), (1, .int p1), (2, .int p2), (3, .int p3)]) hx hb dX8_shut_58 hl (by decide) rfl (fun ls hl => ?_)
                refine ty_iconst hx hb (0) dX8_shut_60 (by decide) (fun x24 h25 => ?_)
                refine lv_istore (lv' := [(6, .int x24), (5, .int x22), (4, .ref b5), (0, .ref h0), (1, .int p1), (2, .int p2), (3, .int p3)]) hx hb dX8_shut_61 hl (by decide) rfl (fun ls hl => ?_)
                have L_63 : ∀ (n : Nat) (v6_63 : Int32) (v5_63 : Int32) (g26 : gh) (H : Heap) (locs : List Loc) (ls : Array Slot), (g26 3 0 - v6_63.toInt : Int) < n → 0 ≤ v6_63.toInt ∧ v6_63.toInt ≤ g26 3 0 → 0 ≤ v5_63.toInt ∧ v5_63.toInt ≤ v6_63.toInt → (∀ c j : Nat, c ≠ 51 → c ≠ 65 → g26 c j = g19 c j) → (g26 51 = (sh_f (g 60) (g 68) (g 64) (g 61) (g 62) (g 63) p1.toInt p2.toInt p3.toInt (g 4 0) (g 51) (g 65) v6_63.toInt.toNat).1) → (g26 65 = (sh_f (g 60) (g 68) (g 64) (g 61) (g 62) (g 63) p1.toInt p2.toInt p3.toInt (g 4 0) (g 51) (g 65) v6_63.toInt.toNat).2.1) → (v5_63.toInt = (sh_f (g 60) (g 68) (g 64) (g 61) (g 62) (g 63) p1.toInt p2.toInt p3.toInt (g 4 0) (g 51) (g 65) v6_63.toInt.toNat).2.2) → ty_ok (dC, dI) vwCl Γ (TP dA Γ g26) sz X H → va_S (ty_A sz) s.heap H locs → lv_has ls 9 [(6, .int v6_63), (5, .int v5_63), (4, .ref b5), (0, .ref h0), (1, .int p1), (2, .int p2), (3, .int p3)] → W p l e (headSpec (.code yX8_shut cX8_shut 9 (Option.some Jvm.ClassFile.FieldType.int) :: AL) ({ frames := 2, cells := 0, slots := 0, locals := 40 })).room s m ([.ref h0, .int p1, .int p2, .int p3] : List Value).toArray below meth c H locs 0 0 (MQ below (va_Qi (fun (r : Int32) (u : gh) => (∀ c j : Nat, c ≠ 44 → c ≠ 51 → c ≠ 65 → u c j = g c j) ∧ (((0 ≤ p1.toInt ∧ p1.toInt < g 1 0 ∧ g 5 0 ≤ p2.toInt ∧ p2.toInt ≤ p3.toInt ∧ p3.toInt ≤ 52) → r.toInt = (sh_f (g 60) (g 68) (g 64) (g 61) (g 62) (g 63) p1.toInt p2.toInt p3.toInt (g 4 0) (g 51) (g 65) (g 3 0).toNat).2.2 ∧ u 44 = fz (g 44) (53 * p1.toInt.toNat + p2.toInt.toNat) 1 (p3.toInt - p2.toInt + 1).toNat ∧ u 51 = (sh_f (g 60) (g 68) (g 64) (g 61) (g 62) (g 63) p1.toInt p2.toInt p3.toInt (g 4 0) (g 51) (g 65) (g 3 0).toNat).1 ∧ u 65 = (sh_f (g 60) (g 68) (g 64) (g 61) (g 62) (g 63) p1.toInt p2.toInt p3.toInt (g 4 0) (g 51) (g 65) (g 3 0).toNat).2.1) ∧ (¬ ((0 ≤ p1.toInt ∧ p1.toInt < g 1 0 ∧ g 5 0 ≤ p2.toInt ∧ p2.toInt ≤ p3.toInt ∧ p3.toInt ≤ 52)) → r.toInt = -1 ∧ u 44 = g 44 ∧ u 51 = g 51 ∧ u 65 = g 65))) (okb dC dI dA sz X Γ) (ty_A sz)) ([.ref h0, .int p1, .int p2, .int p3] : List Value).toArray s 0 0 (ty_A sz)) (F0 m 63 ls []) := by
                  intro n
                  induction n with
                  | zero => intro v6_63 v5_63 g26 H locs ls hm hi0 hi1 hf27 hq0 hq1 hq2 hG hS hl; exfalso; omega
                  | succ n ih_63 =>
                    intro v6_63 v5_63 g26 H locs ls hm hi0 hi1 hf27 hq0 hq1 hq2 hG hS hl
                    have hk28 : g26 3 0 = g19 3 0 := hf27 3 0 (by decide) (by decide)
                    have hk29 : g19 3 0 = g 3 0 := hf20 3 0 (by decide)
                    refine lv_iload hx hb dX8_shut_63 (lv_at hl 0 rfl) ?_
                    refine lv_aload_n hx hb dX8_shut_65 rfl (lv_at hl 3 rfl) ?_
                    refine get_X8_5 hx hb hA hown hE hG t_h0 wd_1_162 dX8_shut_66 (fun x30 h31 => ?_)
                    refine ty_icmp_ge (tgt := 155) hx hb dX8_shut_69 (by decide) (fun c33 => ?_) (fun c33 => ?_)
                    · skip
                      refine lv_iload hx hb dX8_shut_155 (lv_at hl 1 rfl) ?_
                      exact W.iret (v := v5_63) hx hb hr (fun t ht hW => ⟨⟨v5_63, g26, rfl, ⟨(fun c j h44 h51 h65 => by rw [hf27 c j h51 h65, hf20 c j h44]), (⟨fun _ => ⟨(by rw [hq2, show v6_63.toInt.toNat = (g 3 0).toNat by omega]), (by rw [(show g26 44 = g19 44 from funext fun j => hf27 44 j (by decide) (by decide)), ha0, show (v5_36.toInt - p2.toInt).toNat = (p3.toInt - p2.toInt + 1).toNat by omega]), (by rw [hq0, show v6_63.toInt.toNat = (g 3 0).toNat by omega]), (by rw [hq1, show v6_63.toInt.toNat = (g 3 0).toNat by omega])⟩, fun q => absurd (by omega) q⟩)⟩, ok1 ht hG⟩, hS.F ht⟩) hS.2.2 dX8_shut_157
                    · skip
                      refine lv_aload_n hx hb dX8_shut_72 rfl (lv_at hl 3 rfl) ?_
                      refine get_X8_4 hx hb hA hown hE hG t_h0 wd_1_161 dX8_shut_73 (fun b34 (t_b34 : ty Γ b34 12) => ?_)
                      refine lv_iload hx hb dX8_shut_76 (lv_at hl 0 rfl) ?_
                      refine ald_12 hx hb hE hG t_b34 (by omega) dX8_shut_78 (fun j36 r35 h37 t_r35 h38 => ?_)
                      obtain rfl : j36 = v6_63.toInt.toNat := by omega
                      have hk39 : g26 35 0 = g19 35 0 := hf27 35 0 (by decide) (by decide)
                      have hk40 : g19 35 0 = g 35 0 := hf20 35 0 (by decide)
                      obtain ⟨b41, h42⟩ := Option.ne_none_iff_exists'.mp (h38 (by omega))
                      have t_b41 := t_r35 b41 h42
                      clear h38 t_r35
                      subst h42
                      refine lv_astore (lv' := [(7, .ref b41), (6, .int v6_63), (5, .int v5_63), (4, .ref b5), (0, .ref h0), (1, .int p1), (2, .int p2), (3, .int p3)]) hx hb dX8_shut_79 hl (by decide) rfl (fun ls hl => ?_)
                      refine lv_aload hx hb dX8_shut_81 (lv_at hl 0 rfl) ?_
                      refine get_X2_2 hx hb hA hown hE hG t_b41 wd_3_24 dX8_shut_83 (fun b43 t_b43 p_b43 => ?_)
                      have hk44 : g26 61 v6_63.toInt.toNat = g19 61 v6_63.toInt.toNat := hf27 61 v6_63.toInt.toNat (by decide) (by decide)
                      have hk45 : g19 61 v6_63.toInt.toNat = g 61 v6_63.toInt.toNat := hf20 61 v6_63.toInt.toNat (by decide)
                      refine lv_aload hx hb dX8_shut_86 (lv_at hl 3 rfl) ?_
                      have hq47 := rq_eq hU (by decide : sg2 2 = true) (rq_z t_b43 p_b43) (rq_z t_b5 p_b5)
                      refine lv_acmp_ne (rx := some b43) (ry := some b5) (tgt := 113) hx hb dX8_shut_88 (by decide) (fun h46 => ?_) (fun h46 => ?_)
                      · skip
                        replace hq47 : ¬ ((g26 61 v6_63.toInt.toNat) = (p1.toInt)) := fun q => h46 (hq47.mpr q)
                        refine ty_iconst hx hb (0) dX8_shut_113 (by decide) (fun x48 h49 => ?_)
                        refine lv_istore (lv' := [(8, .int x48), (7, .ref b41), (6, .int v6_63), (5, .int v5_63), (4, .ref b5), (0, .ref h0), (1, .int p1), (2, .int p2), (3, .int p3)]) hx hb dX8_shut_114 hl (by decide) rfl (fun ls hl => ?_)
                        refine lv_iload hx hb dX8_shut_116 (lv_at hl 0 rfl) ?_
                        refine ty_if_eq (tgt := 149) hx hb dX8_shut_118 (by decide) (fun c50 => ?_) (fun c50 => ?_)
                        · skip
                          obtain ⟨x51, h52⟩ : ∃ y : Int32, y = v6_63 + Int32.ofInt (1) := ⟨_, rfl⟩
                          try have h53 : x51.toInt = v6_63.toInt + (1) := ty_inc h52 (by decide) (by omega) (by omega)
                          refine lv_iinc (v := x51) (lv' := [(6, .int x51), (8, .int x48), (7, .ref b41), (5, .int v5_63), (4, .ref b5), (0, .ref h0), (1, .int p1), (2, .int p2), (3, .int p3)]) hx hb dX8_shut_149 hl (k := 2) rfl h52.symm (by decide) rfl (fun ls hl => ?_)
                          refine lv_goto (tgt := 63) hx hb dX8_shut_152 (by decide) ?_
                          exact ih_63 x51 v5_63 g26 _ _ ls (by omega) (by omega) (by omega) (fun c j h51 h65 => by rw [hf27 c j h51 h65]) (by rw [show x51.toInt.toNat = v6_63.toInt.toNat + 1 by omega, sh_n (by rw [← hq1]; omega)]; exact hq0) (by rw [show x51.toInt.toNat = v6_63.toInt.toNat + 1 by omega, sh_n (by rw [← hq1]; omega)]; exact hq1) (by rw [show x51.toInt.toNat = v6_63.toInt.toNat + 1 by omega, sh_n (by rw [← hq1]; omega)]; exact hq2) hG hS (lv_sub hl [0, 3, 4, 5, 6, 7, 8] rfl)
                        · exfalso; omega
                      · skip
                        replace hq47 : (g26 61 v6_63.toInt.toNat) = (p1.toInt) := hq47.mp h46
                        refine lv_aload hx hb dX8_shut_91 (lv_at hl 0 rfl) ?_
                        refine get_X2_3 hx hb hA hown hE hG t_b41 wd_3_26 dX8_shut_93 (fun x54 h55 => ?_)
                        have hk57 : g26 62 v6_63.toInt.toNat = g19 62 v6_63.toInt.toNat := hf27 62 v6_63.toInt.toNat (by decide) (by decide)
                        have hk58 : g19 62 v6_63.toInt.toNat = g 62 v6_63.toInt.toNat := hf20 62 v6_63.toInt.toNat (by decide)
                        refine lv_iload_n hx hb dX8_shut_96 rfl (lv_at hl 6 rfl) ?_
                        refine ty_icmp_lt (tgt := 113) hx hb dX8_shut_97 (by decide) (fun c59 => ?_) (fun c59 => ?_)
                        · skip
                          refine ty_iconst hx hb (0) dX8_shut_113 (by decide) (fun x60 h61 => ?_)
                          refine lv_istore (lv' := [(8, .int x60), (7, .ref b41), (6, .int v6_63), (5, .int v5_63), (4, .ref b5), (0, .ref h0), (1, .int p1), (2, .int p2), (3, .int p3)]) hx hb dX8_shut_114 hl (by decide) rfl (fun ls hl => ?_)
                          refine lv_iload hx hb dX8_shut_116 (lv_at hl 0 rfl) ?_
                          refine ty_if_eq (tgt := 149) hx hb dX8_shut_118 (by decide) (fun c62 => ?_) (fun c62 => ?_)
                          · skip
                            obtain ⟨x63, h64⟩ : ∃ y : Int32, y = v6_63 + Int32.ofInt (1) := ⟨_, rfl⟩
                            try have h65 : x63.toInt = v6_63.toInt + (1) := ty_inc h64 (by decide) (by omega) (by omega)
                            refine lv_iinc (v := x63) (lv' := [(6, .int x63), (8, .int x60), (7, .ref b41), (5, .int v5_63), (4, .ref b5), (0, .ref h0), (1, .int p1), (2, .int p2), (3, .int p3)]) hx hb dX8_shut_149 hl (k := 2) rfl h64.symm (by decide) rfl (fun ls hl => ?_)
                            refine lv_goto (tgt := 63) hx hb dX8_shut_152 (by decide) ?_
                            exact ih_63 x63 v5_63 g26 _ _ ls (by omega) (by omega) (by omega) (fun c j h51 h65 => by rw [hf27 c j h51 h65]) (by rw [show x63.toInt.toNat = v6_63.toInt.toNat + 1 by omega, sh_n (by rw [← hq1]; omega)]; exact hq0) (by rw [show x63.toInt.toNat = v6_63.toInt.toNat + 1 by omega, sh_n (by rw [← hq1]; omega)]; exact hq1) (by rw [show x63.toInt.toNat = v6_63.toInt.toNat + 1 by omega, sh_n (by rw [← hq1]; omega)]; exact hq2) hG hS (lv_sub hl [0, 3, 4, 5, 6, 7, 8] rfl)
                          · exfalso; omega
                        · skip
                          refine lv_aload hx hb dX8_shut_100 (lv_at hl 0 rfl) ?_
                          refine get_X2_3 hx hb hA hown hE hG t_b41 wd_3_26 dX8_shut_102 (fun x66 h67 => ?_)
                          refine lv_iload_n hx hb dX8_shut_105 rfl (lv_at hl 7 rfl) ?_
                          refine ty_icmp_gt (tgt := 113) hx hb dX8_shut_106 (by decide) (fun c69 => ?_) (fun c69 => ?_)
                          · skip
                            refine ty_iconst hx hb (0) dX8_shut_113 (by decide) (fun x70 h71 => ?_)
                            refine lv_istore (lv' := [(8, .int x70), (7, .ref b41), (6, .int v6_63), (5, .int v5_63), (4, .ref b5), (0, .ref h0), (1, .int p1), (2, .int p2), (3, .int p3)]) hx hb dX8_shut_114 hl (by decide) rfl (fun ls hl => ?_)
                            refine lv_iload hx hb dX8_shut_116 (lv_at hl 0 rfl) ?_
                            refine ty_if_eq (tgt := 149) hx hb dX8_shut_118 (by decide) (fun c72 => ?_) (fun c72 => ?_)
                            · skip
                              obtain ⟨x73, h74⟩ : ∃ y : Int32, y = v6_63 + Int32.ofInt (1) := ⟨_, rfl⟩
                              try have h75 : x73.toInt = v6_63.toInt + (1) := ty_inc h74 (by decide) (by omega) (by omega)
                              refine lv_iinc (v := x73) (lv' := [(6, .int x73), (8, .int x70), (7, .ref b41), (5, .int v5_63), (4, .ref b5), (0, .ref h0), (1, .int p1), (2, .int p2), (3, .int p3)]) hx hb dX8_shut_149 hl (k := 2) rfl h74.symm (by decide) rfl (fun ls hl => ?_)
                              refine lv_goto (tgt := 63) hx hb dX8_shut_152 (by decide) ?_
                              exact ih_63 x73 v5_63 g26 _ _ ls (by omega) (by omega) (by omega) (fun c j h51 h65 => by rw [hf27 c j h51 h65]) (by rw [show x73.toInt.toNat = v6_63.toInt.toNat + 1 by omega, sh_n (by rw [← hq1]; omega)]; exact hq0) (by rw [show x73.toInt.toNat = v6_63.toInt.toNat + 1 by omega, sh_n (by rw [← hq1]; omega)]; exact hq1) (by rw [show x73.toInt.toNat = v6_63.toInt.toNat + 1 by omega, sh_n (by rw [← hq1]; omega)]; exact hq2) hG hS (lv_sub hl [0, 3, 4, 5, 6, 7, 8] rfl)
                            · exfalso; omega
                          · skip
                            refine ty_iconst hx hb (1) dX8_shut_109 (by decide) (fun x76 h77 => ?_)
                            refine lv_goto (tgt := 114) hx hb dX8_shut_110 (by decide) ?_
                            refine lv_istore (lv' := [(8, .int x76), (7, .ref b41), (6, .int v6_63), (5, .int v5_63), (4, .ref b5), (0, .ref h0), (1, .int p1), (2, .int p2), (3, .int p3)]) hx hb dX8_shut_114 hl (by decide) rfl (fun ls hl => ?_)
                            refine lv_iload hx hb dX8_shut_116 (lv_at hl 0 rfl) ?_
                            refine ty_if_eq (tgt := 149) hx hb dX8_shut_118 (by decide) (fun c78 => ?_) (fun c78 => ?_)
                            · exfalso; omega
                            · skip
                              refine lv_aload hx hb dX8_shut_121 (lv_at hl 1 rfl) ?_
                              refine get_X2_4 hx hb hA hown hE hG t_b41 wd_3_28 dX8_shut_123 (fun x79 h80 => ?_)
                              have hk82 : g26 63 v6_63.toInt.toNat = g19 63 v6_63.toInt.toNat := hf27 63 v6_63.toInt.toNat (by decide) (by decide)
                              have hk83 : g19 63 v6_63.toInt.toNat = g 63 v6_63.toInt.toNat := hf20 63 v6_63.toInt.toNat (by decide)
                              refine lv_aload_n hx hb dX8_shut_126 rfl (lv_at hl 5 rfl) ?_
                              refine get_X8_9 hx hb hA hown hE hG t_h0 wd_1_166 dX8_shut_127 (fun x84 h85 => ?_)
                              have hk87 : g26 4 0 = g19 4 0 := hf27 4 0 (by decide) (by decide)
                              have hk88 : g19 4 0 = g 4 0 := hf20 4 0 (by decide)
                              refine ty_icmp_ne (tgt := 149) hx hb dX8_shut_130 (by decide) (fun c89 => ?_) (fun c89 => ?_)
                              · skip
                                obtain ⟨x90, h91⟩ : ∃ y : Int32, y = v6_63 + Int32.ofInt (1) := ⟨_, rfl⟩
                                try have h92 : x90.toInt = v6_63.toInt + (1) := ty_inc h91 (by decide) (by omega) (by omega)
                                refine lv_iinc (v := x90) (lv' := [(6, .int x90), (8, .int x76), (7, .ref b41), (5, .int v5_63), (4, .ref b5), (0, .ref h0), (1, .int p1), (2, .int p2), (3, .int p3)]) hx hb dX8_shut_149 hl (k := 2) rfl h91.symm (by decide) rfl (fun ls hl => ?_)
                                refine lv_goto (tgt := 63) hx hb dX8_shut_152 (by decide) ?_
                                exact ih_63 x90 v5_63 g26 _ _ ls (by omega) (by omega) (by omega) (fun c j h51 h65 => by rw [hf27 c j h51 h65]) (by rw [show x90.toInt.toNat = v6_63.toInt.toNat + 1 by omega, sh_n (by rw [← hq1]; omega)]; exact hq0) (by rw [show x90.toInt.toNat = v6_63.toInt.toNat + 1 by omega, sh_n (by rw [← hq1]; omega)]; exact hq1) (by rw [show x90.toInt.toNat = v6_63.toInt.toNat + 1 by omega, sh_n (by rw [← hq1]; omega)]; exact hq2) hG hS (lv_sub hl [0, 3, 4, 5, 6, 7, 8] rfl)
                              · skip
                                refine lv_aload hx hb dX8_shut_133 (lv_at hl 1 rfl) ?_
                                refine cI (va_runV (C := RX2) (As := []) (rest := []) ⟨hx, hb, hml, hown, hA⟩ (k_X2_isOut l dC dI dA sz X Γ hU g26 b41 v6_63.toInt.toNat t_b41   ) ⟨callB_of 0 hA (al_A wd_2_63) rfl rfl rfl (hA _ wd_1_15) (hA _ wd_2_60) (by decide +kernel) ⟨Nat.le_of_ble_eq_true rfl, Nat.le_of_ble_eq_true rfl⟩, hA _ wd_2_61, hA _ wd_2_62⟩ ⟨bl, recv_X2 hE hG (by rw [t_b41]), fun U hU9 hW9 => ⟨rfl, by rw [hU9]; exact hG, hE.go hS hU9 hW9⟩⟩ rfl rfl hl.1 rfl (lv_room (Nat.le_of_ble_eq_true rfl)) dX8_shut_135 ⟨Nat.zero_le _, Nat.zero_le _⟩) hS (fun x95 u93 H locs w94 hG hS => ?_)
                                obtain ⟨eu96, w94⟩ := w94
                                rw [eu96] at hG
                                rcases pz_or w94 with w94 | w94
                                · skip
                                  refine ty_if_eq (tgt := 149) hx hb dX8_shut_138 (by decide) (fun c97 => ?_) (fun c97 => ?_)
                                  · exfalso; omega
                                  · skip
                                    refine lv_aload hx hb dX8_shut_141 (lv_at hl 1 rfl) ?_
                                    refine cV (va_runV (C := RX2) (As := []) (rest := []) ⟨hx, hb, hml, hown, hA⟩ (k_X2_endByShutting l dC dI dA sz X Γ hU g26 b41 v6_63.toInt.toNat t_b41   ) ⟨callB_of 0 hA (al_A wd_3_215) rfl rfl rfl (hA _ wd_1_15) (hA _ wd_3_212) (by decide +kernel) ⟨Nat.le_of_ble_eq_true rfl, Nat.le_of_ble_eq_true rfl⟩, hA _ wd_3_213, hA _ wd_3_214⟩ ⟨bl, recv_X2 hE hG (by rw [t_b41]), fun U hU9 hW9 => ⟨rfl, by rw [hU9]; exact hG, hE.go hS hU9 hW9⟩⟩ rfl rfl hl.1 rfl (lv_room (Nat.le_of_ble_eq_true rfl)) dX8_shut_143 ⟨Nat.zero_le _, Nat.zero_le _⟩) hS (fun u98 H locs w99 hG hS => ?_)
                                    obtain ⟨hf102, hq100, hq101⟩ := w99
                                    have hn103 : g26 51 = ((sh_f (g 60) (g 68) (g 64) (g 61) (g 62) (g 63) p1.toInt p2.toInt p3.toInt (g 4 0) (g 51) (g 65) v6_63.toInt.toNat).1) := by rw [hq0]
                                    rw [hn103] at hq100
                                    have hn104 : g26 65 = ((sh_f (g 60) (g 68) (g 64) (g 61) (g 62) (g 63) p1.toInt p2.toInt p3.toInt (g 4 0) (g 51) (g 65) v6_63.toInt.toNat).2.1) := by rw [hq1]
                                    rw [hn104] at hq100
                                    have hn105 : g26 60 = (g 60) := by rw [(show g26 60 = g19 60 from funext fun j => hf27 60 j (by decide) (by decide)), (show g19 60 = g 60 from funext fun j => hf20 60 j (by decide))]
                                    rw [hn105] at hq100
                                    have hn106 : g26 68 = (g 68) := by rw [(show g26 68 = g19 68 from funext fun j => hf27 68 j (by decide) (by decide)), (show g19 68 = g 68 from funext fun j => hf20 68 j (by decide))]
                                    rw [hn106] at hq100
                                    have hn107 : g26 64 = (g 64) := by rw [(show g26 64 = g19 64 from funext fun j => hf27 64 j (by decide) (by decide)), (show g19 64 = g 64 from funext fun j => hf20 64 j (by decide))]
                                    rw [hn107] at hq100
                                    have hn108 : g26 65 = ((sh_f (g 60) (g 68) (g 64) (g 61) (g 62) (g 63) p1.toInt p2.toInt p3.toInt (g 4 0) (g 51) (g 65) v6_63.toInt.toNat).2.1) := by rw [hq1]
                                    rw [hn108] at hq101
                                    obtain ⟨x109, h110⟩ : ∃ y : Int32, y = v5_63 + Int32.ofInt (1) := ⟨_, rfl⟩
                                    try have h111 : x109.toInt = v5_63.toInt + (1) := ty_inc h110 (by decide) (by omega) (by omega)
                                    refine lv_iinc (v := x109) (lv' := [(5, .int x109), (8, .int x76), (7, .ref b41), (6, .int v6_63), (4, .ref b5), (0, .ref h0), (1, .int p1), (2, .int p2), (3, .int p3)]) hx hb dX8_shut_146 hl (k := 3) rfl h110.symm (by decide) rfl (fun ls hl => ?_)
                                    obtain ⟨x112, h113⟩ : ∃ y : Int32, y = v6_63 + Int32.ofInt (1) := ⟨_, rfl⟩
                                    try have h114 : x112.toInt = v6_63.toInt + (1) := ty_inc h113 (by decide) (by omega) (by omega)
                                    refine lv_iinc (v := x112) (lv' := [(6, .int x112), (5, .int x109), (8, .int x76), (7, .ref b41), (4, .ref b5), (0, .ref h0), (1, .int p1), (2, .int p2), (3, .int p3)]) hx hb dX8_shut_149 hl (k := 3) rfl h113.symm (by decide) rfl (fun ls hl => ?_)
                                    refine lv_goto (tgt := 63) hx hb dX8_shut_152 (by decide) ?_
                                    have hk115 : u98 3 0 = g26 3 0 := hf102 3 0 (by decide) (by decide)
                                    exact ih_63 x112 x109 u98 _ _ ls (by omega) (by omega) (by omega) (fun c j h51 h65 => by rw [hf102 c j h51 h65, hf27 c j h51 h65]) (by rw [show x112.toInt.toNat = v6_63.toInt.toNat + 1 by omega, sh_y (by rw [← hq1]; omega)]; show u98 51 = es_p _ _ _ _ _ _; rw [hq100]) (by rw [show x112.toInt.toNat = v6_63.toInt.toNat + 1 by omega, sh_y (by rw [← hq1]; omega)]; show u98 65 = es_s _ _; rw [hq101]) (by rw [show x112.toInt.toNat = v6_63.toInt.toNat + 1 by omega, sh_y (by rw [← hq1]; omega)]; show _ = (sh_f (g 60) (g 68) (g 64) (g 61) (g 62) (g 63) p1.toInt p2.toInt p3.toInt (g 4 0) (g 51) (g 65) v6_63.toInt.toNat).2.2 + 1; omega) hG hS (lv_sub hl [0, 1, 4, 5, 6, 7, 8] rfl)
                                · skip
                                  refine ty_if_eq (tgt := 149) hx hb dX8_shut_138 (by decide) (fun c116 => ?_) (fun c116 => ?_)
                                  · skip
                                    obtain ⟨x117, h118⟩ : ∃ y : Int32, y = v6_63 + Int32.ofInt (1) := ⟨_, rfl⟩
                                    try have h119 : x117.toInt = v6_63.toInt + (1) := ty_inc h118 (by decide) (by omega) (by omega)
                                    refine lv_iinc (v := x117) (lv' := [(6, .int x117), (8, .int x76), (7, .ref b41), (5, .int v5_63), (4, .ref b5), (0, .ref h0), (1, .int p1), (2, .int p2), (3, .int p3)]) hx hb dX8_shut_149 hl (k := 2) rfl h118.symm (by decide) rfl (fun ls hl => ?_)
                                    refine lv_goto (tgt := 63) hx hb dX8_shut_152 (by decide) ?_
                                    exact ih_63 x117 v5_63 g26 _ _ ls (by omega) (by omega) (by omega) (fun c j h51 h65 => by rw [hf27 c j h51 h65]) (by rw [show x117.toInt.toNat = v6_63.toInt.toNat + 1 by omega, sh_n (by rw [← hq1]; omega)]; exact hq0) (by rw [show x117.toInt.toNat = v6_63.toInt.toNat + 1 by omega, sh_n (by rw [← hq1]; omega)]; exact hq1) (by rw [show x117.toInt.toNat = v6_63.toInt.toNat + 1 by omega, sh_n (by rw [← hq1]; omega)]; exact hq2) hG hS (lv_sub hl [0, 3, 4, 5, 6, 7, 8] rfl)
                                  · exfalso; omega
                have hk120 : g19 3 0 = g 3 0 := hf20 3 0 (by decide)
                exact L_63 ((g19 3 0 - x24.toInt) + 1).toNat x24 x22 g19 _ _ ls (by omega) (by omega) (by omega) (fun c j _ _ => rfl) (by rw [show x24.toInt.toNat = 0 by omega]; show g19 51 = g 51; rw [(show g19 51 = g 51 from funext fun j => hf20 51 j (by decide))]) (by rw [show x24.toInt.toNat = 0 by omega]; show g19 65 = g 65; rw [(show g19 65 = g 65 from funext fun j => hf20 65 j (by decide))]) (by rw [show x24.toInt.toNat = 0 by omega]; show _ = (0 : Int); omega) hG hS (lv_sub hl [0, 1, 2, 3, 4, 5, 6] rfl)
              · skip
                refine lv_aload hx hb dX8_shut_42 (lv_at hl 1 rfl) ?_
                refine get_X1_4 hx hb hA hown hE hG t_b5 wd_1_221 dX8_shut_44 (fun b121 t_b121 => ?_)
                refine lv_iload hx hb dX8_shut_47 (lv_at hl 0 rfl) ?_
                refine ty_iconst hx hb (1) dX8_shut_49 (by decide) (fun x122 h123 => ?_)
                refine ast_14 hx hb hE hG hS hU t_b121 (by omega) (by omega) dX8_shut_50 (fun H locs hG hS => ?_)
                obtain ⟨x124, h125⟩ : ∃ y : Int32, y = v5_36 + Int32.ofInt (1) := ⟨_, rfl⟩
                try have h126 : x124.toInt = v5_36.toInt + (1) := ty_inc h125 (by decide) (by omega) (by omega)
                refine lv_iinc (v := x124) (lv' := [(5, .int x124), (4, .ref b5), (0, .ref h0), (1, .int p1), (2, .int p2), (3, .int p3)]) hx hb dX8_shut_51 hl (k := 0) rfl h125.symm (by decide) rfl (fun ls hl => ?_)
                refine lv_goto (tgt := 36) hx hb dX8_shut_54 (by decide) ?_
                exact ih_36 x124 (gs g19 44 (53 * (p1.toInt).toNat + v5_36.toInt.toNat) x122.toInt) _ _ ls (by omega) (by omega) (fun c j h44 => by rw [gs_c _ _ _ _ h44, hf20 c j h44]) (by rw [pz_gs]; exact fz_s ha0 (by omega) (by omega) (by omega)) hG hS (lv_sub hl [0, 1, 2, 3, 4, 5] rfl)
          exact L_36 ((53 - p2.toInt) + 1).toNat p2 g _ _ ls (by omega) (by omega) (fun c j _ => rfl) (fz_0 (by omega)) hG hS (lv_sub hl [0, 1, 2, 3, 4, 5] rfl)
        · skip
          refine ty_iconst hx hb (-1) dX8_shut_31 (by decide) (fun x127 h128 => ?_)
          exact W.iret (v := x127) hx hb hr (fun t ht hW => ⟨⟨x127, g, rfl, ⟨(fun c j h44 h51 h65 => by rfl), (⟨fun q => absurd q (by omega), fun _ => ⟨(by omega), (rfl), (rfl), (rfl)⟩⟩)⟩, ok1 ht hG⟩, hS.F ht⟩) hS.2.2 dX8_shut_32
  · skip
    obtain rfl : r3 = none := rq_no t_r3 (by omega)
    clear n_r3 t_r3
    refine lv_astoreN (lv' := [(4, .null), (0, .ref h0), (1, .int p1), (2, .int p2), (3, .int p3)]) hx hb dX8_shut_5 hl (by decide) rfl (fun ls hl => ?_)
    refine lv_aloadN hx hb dX8_shut_7 (lv_at hl 0 rfl) ?_
    refine lv_ifnullN (tgt := 31) hx hb dX8_shut_9 (by decide) ?_
    refine ty_iconst hx hb (-1) dX8_shut_31 (by decide) (fun x129 h130 => ?_)
    exact W.iret (v := x129) hx hb hr (fun t ht hW => ⟨⟨x129, g, rfl, ⟨(fun c j h44 h51 h65 => by rfl), (⟨fun q => absurd q (by omega), fun _ => ⟨(by omega), (rfl), (rfl), (rfl)⟩⟩)⟩, ok1 ht hG⟩, hS.F ht⟩) hS.2.2 dX8_shut_32

set_option maxHeartbeats 4000000 in
set_option maxRecDepth 100000 in
/-- WeekBank.dies:  -/
theorem k_X8_dies (l : Launch) (dC : Nat → ClassId) (dI : Nat → Nat → Nat) (dA : Nat → ClassId) (sz : Nat) (X : va_W) (Γ : ty_G) (hU : Un Γ) (g : gh) (h0 : Nat) (t_h0 : ty Γ h0 1) (p1 : Int32) (p2 : Int32) (p3 : Int32) (g1 : g 1 0 = g 33 0 ∧ 0 ≤ g 1 0 ∧ g 1 0 ≤ 6) (g2 : g 2 0 = g 34 0 ∧ 0 ≤ g 2 0 ∧ g 2 0 ≤ 10) (g3 : g 3 0 = g 35 0 ∧ 0 ≤ g 3 0 ∧ g 3 0 ≤ 200) (hOW : OW (g 43) (g 53)) : Met l yX8_dies (.code yX8_dies cX8_dies 8 (Option.some Jvm.ClassFile.FieldType.int) :: AL) ({ frames := 3, cells := 0, slots := 0, locals := 67 }) (PCx dC dI dA sz X Γ g [.ref h0, .int p1, .int p2, .int p3]) (va_Qi (fun (r : Int32) (u : gh) => (∀ c j : Nat, c ≠ 43 → c ≠ 51 → c ≠ 53 → c ≠ 54 → c ≠ 56 → c ≠ 65 → u c j = g c j) ∧ (((0 ≤ p1.toInt ∧ p1.toInt < g 2 0 ∧ g 54 p1.toInt.toNat = 0 ∧ 0 ≤ p2.toInt ∧ p2.toInt < g 2 0 ∧ g 54 p2.toInt.toNat = 0 ∧ p1.toInt ≠ p2.toInt) → r.toInt = (if g 11 (g 13 0).toNat ≠ 0 ∨ p3.toInt ≠ 0 then g 53 p1.toInt.toNat else 0) ∧ u 54 = pz_up (g 54) p1.toInt.toNat 1 ∧ u 56 = pz_up (g 56) p1.toInt.toNat (-1) ∧ u 65 = dy_f (g 65) (g 60) p1.toInt (g 3 0).toNat ∧ u 43 = (if g 11 (g 13 0).toNat ≠ 0 ∨ p3.toInt ≠ 0 then pr_f (g 43) p1.toInt p2.toInt (53 * (g 1 0).toNat) else pr_f (g 43) p1.toInt (-1) (53 * (g 1 0).toNat)) ∧ u 51 = (if g 11 (g 13 0).toNat ≠ 0 ∨ p3.toInt ≠ 0 then pz_up (pz_up (g 51) p2.toInt.toNat (wa (g 51 p2.toInt.toNat) (g 51 p1.toInt.toNat))) p1.toInt.toNat 0 else pz_up (g 51) p1.toInt.toNat 0)) ∧ (¬ ((0 ≤ p1.toInt ∧ p1.toInt < g 2 0 ∧ g 54 p1.toInt.toNat = 0 ∧ 0 ≤ p2.toInt ∧ p2.toInt < g 2 0 ∧ g 54 p2.toInt.toNat = 0 ∧ p1.toInt ≠ p2.toInt)) → r.toInt = -1 ∧ u 54 = g 54 ∧ u 56 = g 56 ∧ u 65 = g 65 ∧ u 43 = g 43 ∧ u 51 = g 51)) ∧ (OW (u 43) (u 53))) (okb dC dI dA sz X Γ) (ty_A sz)) 0 0 (ty_A sz) := by
  refine Met.ofW (cc := cX8_dies) (maxL := 8) (ret := (Option.some Jvm.ClassFile.FieldType.int)) (by decide) rfl ?_
  intro p e s m args below meth c s₁ B hml hv
  obtain ⟨rfl, hG, hE⟩ := hv
  have hx := B.exec
  have hb := B.bytes
  have hr := B.returns
  have hts := atoms_spec B.pre
  have hA : ∀ w ∈ AL, w.before _ s = true := fun w h => hts w (List.mem_cons_of_mem _ h)
  have hown : s.vm.findClass RX8 = some m.cls := findClass_of_methodNamed B.named
  have hlocks := B.notSynchronized
  have hS : va_S (ty_A sz) s.heap s.heap [] := va_S.rf
  have hl := lv_entry ([.ref h0, .int p1, .int p2, .int p3]) (n := 8) (Nat.le_of_ble_eq_true rfl)
  rw [lg_entry_eq]
  generalize (lg_sl ([.ref h0, .int p1, .int p2, .int p3]) ++ List.replicate (8 - (lg_sl ([.ref h0, .int p1, .int p2, .int p3])).length) Slot.unset).toArray = ls at hl ⊢
  have hl : lv_has ls 8 [(0, .ref h0), (1, .int p1), (2, .int p2), (3, .int p3)] := hl
  refine lv_aload_n hx hb dX8_dies_0 rfl (lv_at hl 0 rfl) ?_
  refine lv_iload_n hx hb dX8_dies_1 rfl (lv_at hl 1 rfl) ?_
  refine cQ (va_runV (C := RX8) (As := [.int p1]) (rest := []) ⟨hx, hb, hml, hown, hA⟩ (k_X8_livingOwnerAt l dC dI dA sz X Γ hU g h0 t_h0 p1   (by omega)) ⟨callB_of 1 hA (al_A wd_2_52) rfl rfl rfl (hA _ wd_1_1) (hA _ wd_2_49) (by decide +kernel) ⟨Nat.le_of_ble_eq_true rfl, Nat.le_of_ble_eq_true rfl⟩, hA _ wd_2_51, hA _ ws_1⟩ ⟨bl, recv_X8 hE hG t_h0, fun U hU9 hW9 => ⟨rfl, by rw [hU9]; exact hG, hE.go hS hU9 hW9⟩⟩ rfl rfl hl.1 rfl (lv_room (Nat.le_of_ble_eq_true rfl)) dX8_dies_2 ⟨Nat.zero_le _, Nat.zero_le _⟩) hS (fun r3 u1 H locs w2 hG hS => ?_)
  obtain ⟨z_r3, n_r3, t_r3, w2⟩ := w2
  obtain ⟨eu4, w2⟩ := w2
  rw [eu4] at hG
  rcases pz_or w2 with w2 | w2
  · skip
    obtain ⟨b5, h6⟩ := Option.ne_none_iff_exists'.mp (fun h9 => absurd (n_r3 h9) (by omega))
    obtain ⟨t_b5, p_b5⟩ := t_r3 b5 h6
    clear t_r3 n_r3
    subst h6
    replace t_b5 : Γ b5 = (3, (p1.toInt).toNat) := by rw [t_b5, show z_r3 = p1.toInt by omega]
    replace p_b5 : 0 ≤ p1.toInt := by omega
    refine lv_astore (lv' := [(4, .ref b5), (0, .ref h0), (1, .int p1), (2, .int p2), (3, .int p3)]) hx hb dX8_dies_5 hl (by decide) rfl (fun ls hl => ?_)
    refine lv_aload_n hx hb dX8_dies_7 rfl (lv_at hl 1 rfl) ?_
    refine lv_iload_n hx hb dX8_dies_8 rfl (lv_at hl 3 rfl) ?_
    refine cQ (va_runV (C := RX8) (As := [.int p2]) (rest := []) ⟨hx, hb, hml, hown, hA⟩ (k_X8_livingOwnerAt l dC dI dA sz X Γ hU g h0 t_h0 p2   (by omega)) ⟨callB_of 1 hA (al_A wd_2_52) rfl rfl rfl (hA _ wd_1_1) (hA _ wd_2_49) (by decide +kernel) ⟨Nat.le_of_ble_eq_true rfl, Nat.le_of_ble_eq_true rfl⟩, hA _ wd_2_51, hA _ ws_1⟩ ⟨bl, recv_X8 hE hG t_h0, fun U hU9 hW9 => ⟨rfl, by rw [hU9]; exact hG, hE.go hS hU9 hW9⟩⟩ rfl rfl hl.1 rfl (lv_room (Nat.le_of_ble_eq_true rfl)) dX8_dies_9 ⟨Nat.zero_le _, Nat.zero_le _⟩) hS (fun r9 u7 H locs w8 hG hS => ?_)
    obtain ⟨z_r9, n_r9, t_r9, w8⟩ := w8
    obtain ⟨eu10, w8⟩ := w8
    rw [eu10] at hG
    rcases pz_or w8 with w8 | w8
    · skip
      obtain ⟨b11, h12⟩ := Option.ne_none_iff_exists'.mp (fun h9 => absurd (n_r9 h9) (by omega))
      obtain ⟨t_b11, p_b11⟩ := t_r9 b11 h12
      clear t_r9 n_r9
      subst h12
      replace t_b11 : Γ b11 = (3, (p2.toInt).toNat) := by rw [t_b11, show z_r9 = p2.toInt by omega]
      replace p_b11 : 0 ≤ p2.toInt := by omega
      refine lv_astore (lv' := [(5, .ref b11), (4, .ref b5), (0, .ref h0), (1, .int p1), (2, .int p2), (3, .int p3)]) hx hb dX8_dies_12 hl (by decide) rfl (fun ls hl => ?_)
      refine lv_aload hx hb dX8_dies_14 (lv_at hl 1 rfl) ?_
      refine lv_ifnull hx hb dX8_dies_16 ?_
      refine lv_aload hx hb dX8_dies_19 (lv_at hl 0 rfl) ?_
      refine lv_ifnull hx hb dX8_dies_21 ?_
      refine lv_aload hx hb dX8_dies_24 (lv_at hl 1 rfl) ?_
      refine lv_aload hx hb dX8_dies_26 (lv_at hl 0 rfl) ?_
      have hq14 := rq_eq hU (by decide : sg2 3 = true) (rq_z t_b5 p_b5) (rq_z t_b11 p_b11)
      refine lv_acmp_ne (rx := some b5) (ry := some b11) (tgt := 33) hx hb dX8_dies_28 (by decide) (fun h13 => ?_) (fun h13 => ?_)
      · skip
        replace hq14 : ¬ ((p1.toInt) = (p2.toInt)) := fun q => h13 (hq14.mpr q)
        refine ty_iconst hx hb (0) dX8_dies_33 (by decide) (fun x15 h16 => ?_)
        refine lv_istore (lv' := [(6, .int x15), (5, .ref b11), (4, .ref b5), (0, .ref h0), (1, .int p1), (2, .int p2), (3, .int p3)]) hx hb dX8_dies_34 hl (by decide) rfl (fun ls hl => ?_)
        have L_36 : ∀ (n : Nat) (v6_36 : Int32) (g17 : gh) (H : Heap) (locs : List Loc) (ls : Array Slot), (g17 3 0 - v6_36.toInt : Int) < n → 0 ≤ v6_36.toInt ∧ v6_36.toInt ≤ g17 3 0 → (∀ c j : Nat, c ≠ 65 → g17 c j = g c j) → (g17 65 = dy_f (g 65) (g 60) p1.toInt v6_36.toInt.toNat) → ty_ok (dC, dI) vwCl Γ (TP dA Γ g17) sz X H → va_S (ty_A sz) s.heap H locs → lv_has ls 8 [(6, .int v6_36), (5, .ref b11), (4, .ref b5), (0, .ref h0), (1, .int p1), (2, .int p2), (3, .int p3)] → W p l e (headSpec (.code yX8_dies cX8_dies 8 (Option.some Jvm.ClassFile.FieldType.int) :: AL) ({ frames := 3, cells := 0, slots := 0, locals := 67 })).room s m ([.ref h0, .int p1, .int p2, .int p3] : List Value).toArray below meth c H locs 0 0 (MQ below (va_Qi (fun (r : Int32) (u : gh) => (∀ c j : Nat, c ≠ 43 → c ≠ 51 → c ≠ 53 → c ≠ 54 → c ≠ 56 → c ≠ 65 → u c j = g c j) ∧ (((0 ≤ p1.toInt ∧ p1.toInt < g 2 0 ∧ g 54 p1.toInt.toNat = 0 ∧ 0 ≤ p2.toInt ∧ p2.toInt < g 2 0 ∧ g 54 p2.toInt.toNat = 0 ∧ p1.toInt ≠ p2.toInt) → r.toInt = (if g 11 (g 13 0).toNat ≠ 0 ∨ p3.toInt ≠ 0 then g 53 p1.toInt.toNat else 0) ∧ u 54 = pz_up (g 54) p1.toInt.toNat 1 ∧ u 56 = pz_up (g 56) p1.toInt.toNat (-1) ∧ u 65 = dy_f (g 65) (g 60) p1.toInt (g 3 0).toNat ∧ u 43 = (if g 11 (g 13 0).toNat ≠ 0 ∨ p3.toInt ≠ 0 then pr_f (g 43) p1.toInt p2.toInt (53 * (g 1 0).toNat) else pr_f (g 43) p1.toInt (-1) (53 * (g 1 0).toNat)) ∧ u 51 = (if g 11 (g 13 0).toNat ≠ 0 ∨ p3.toInt ≠ 0 then pz_up (pz_up (g 51) p2.toInt.toNat (wa (g 51 p2.toInt.toNat) (g 51 p1.toInt.toNat))) p1.toInt.toNat 0 else pz_up (g 51) p1.toInt.toNat 0)) ∧ (¬ ((0 ≤ p1.toInt ∧ p1.toInt < g 2 0 ∧ g 54 p1.toInt.toNat = 0 ∧ 0 ≤ p2.toInt ∧ p2.toInt < g 2 0 ∧ g 54 p2.toInt.toNat = 0 ∧ p1.toInt ≠ p2.toInt)) → r.toInt = -1 ∧ u 54 = g 54 ∧ u 56 = g 56 ∧ u 65 = g 65 ∧ u 43 = g 43 ∧ u 51 = g 51)) ∧ (OW (u 43) (u 53))) (okb dC dI dA sz X Γ) (ty_A sz)) ([.ref h0, .int p1, .int p2, .int p3] : List Value).toArray s 0 0 (ty_A sz)) (F0 m 36 ls []) := by
          intro n
          induction n with
          | zero => intro v6_36 g17 H locs ls hm hi0 hf18 ha0 hG hS hl; exfalso; omega
          | succ n ih_36 =>
            intro v6_36 g17 H locs ls hm hi0 hf18 ha0 hG hS hl
            have hk19 : g17 3 0 = g 3 0 := hf18 3 0 (by decide)
            have he9 : g17 65 v6_36.toInt.toNat = g 65 v6_36.toInt.toNat := by rw [ha0]; exact dy_at
            refine lv_iload hx hb dX8_dies_36 (lv_at hl 0 rfl) ?_
            refine lv_aload_n hx hb dX8_dies_38 rfl (lv_at hl 3 rfl) ?_
            refine get_X8_5 hx hb hA hown hE hG t_h0 wd_1_162 dX8_dies_39 (fun x20 h21 => ?_)
            replace h21 : x20.toInt = g 3 0 := by rw [h21, hf18 3 0 (by decide)]
            refine ty_icmp_ge (tgt := 90) hx hb dX8_dies_42 (by decide) (fun c23 => ?_) (fun c23 => ?_)
            · skip
              refine lv_aload_n hx hb dX8_dies_90 rfl (lv_at hl 3 rfl) ?_
              refine get_X8_7 hx hb hA hown hE hG t_h0 wd_1_164 dX8_dies_91 (fun b24 i25 t_b24 h26 h26' => ?_)
              have hk27 : g17 13 0 = g 13 0 := hf18 13 0 (by decide)
              refine get_X6_3 hx hb hA hown hE hG t_b24 wd_1_85 dX8_dies_94 (fun x28 h29 h30 => ?_)
              replace h29 : x28.toInt = g 11 i25 := by rw [h29, hf18 11 i25 (by decide)]
              have hk31 : g17 11 i25 = g 11 i25 := hf18 11 i25 (by decide)
              refine ty_if_ne (tgt := 104) hx hb dX8_dies_97 (by decide) (fun c32 => ?_) (fun c32 => ?_)
              · skip
                refine ty_iconst hx hb (1) dX8_dies_104 (by decide) (fun x33 h34 => ?_)
                refine lv_goto (tgt := 109) hx hb dX8_dies_105 (by decide) ?_
                refine lv_istore (lv' := [(6, .int x33), (5, .ref b11), (4, .ref b5), (0, .ref h0), (1, .int p1), (2, .int p2), (3, .int p3)]) hx hb dX8_dies_109 hl (by decide) rfl (fun ls hl => ?_)
                refine lv_iload hx hb dX8_dies_111 (lv_at hl 0 rfl) ?_
                refine ty_if_eq (tgt := 124) hx hb dX8_dies_113 (by decide) (fun c35 => ?_) (fun c35 => ?_)
                · exfalso; omega
                · skip
                  refine lv_aload hx hb dX8_dies_116 (lv_at hl 2 rfl) ?_
                  refine get_X3_4 hx hb hA hown hE hG t_b5 wd_2_17 dX8_dies_118 (fun x36 h37 => ?_)
                  replace h37 : x36.toInt = g 53 (p1.toInt).toNat := by rw [h37, hf18 53 (p1.toInt).toNat (by decide)]
                  have hk39 : g17 53 (p1.toInt).toNat = g 53 (p1.toInt).toNat := hf18 53 (p1.toInt).toNat (by decide)
                  refine lv_goto (tgt := 125) hx hb dX8_dies_121 (by decide) ?_
                  refine lv_istore (lv' := [(7, .int x36), (6, .int x33), (5, .ref b11), (4, .ref b5), (0, .ref h0), (1, .int p1), (2, .int p2), (3, .int p3)]) hx hb dX8_dies_125 hl (by decide) rfl (fun ls hl => ?_)
                  refine lv_aload_n hx hb dX8_dies_127 rfl (lv_at hl 4 rfl) ?_
                  refine lv_aload hx hb dX8_dies_128 (lv_at hl 3 rfl) ?_
                  refine lv_iload hx hb dX8_dies_130 (lv_at hl 1 rfl) ?_
                  refine ty_if_eq (tgt := 140) hx hb dX8_dies_132 (by decide) (fun c40 => ?_) (fun c40 => ?_)
                  · exfalso; omega
                  · skip
                    refine lv_aload hx hb dX8_dies_135 (lv_at hl 2 rfl) ?_
                    refine lv_goto (tgt := 141) hx hb dX8_dies_137 (by decide) ?_
                    have hk41 : g17 1 0 = g 1 0 := hf18 1 0 (by decide)
                    have hk42 : g17 33 0 = g 33 0 := hf18 33 0 (by decide)
                    refine cV (va_runV (C := RX8) (As := [.ref b5, .ref b11]) (rest := []) ⟨hx, hb, hml, hown, hA⟩ (k_X8_passAllWeeks l dC dI dA sz X Γ hU g17 h0 t_h0 b5 (p1.toInt).toNat t_b5 (some b11) ((p2.toInt)) (rq_z t_b11 p_b11).1 (rq_z t_b11 p_b11).2   (by omega) (by rw [show g17 43 = g 43 from funext fun j => by rw [hf18 43 j (by decide)]]; rw [show g17 53 = g 53 from funext fun j => by rw [hf18 53 j (by decide)]]; exact hOW) (by omega)) ⟨callB_of 2 hA (al_A wd_4_0) rfl rfl rfl (hA _ wd_1_1) (hA _ wd_3_237) (by decide +kernel) ⟨Nat.le_of_ble_eq_true rfl, Nat.le_of_ble_eq_true rfl⟩, hA _ wd_3_239, hA _ ws_31⟩ ⟨bl, recv_X8 hE hG t_h0, fun U hU9 hW9 => ⟨rfl, by rw [hU9]; exact hG, hE.go hS hU9 hW9⟩⟩ rfl rfl hl.1 rfl (lv_room (Nat.le_of_ble_eq_true rfl)) dX8_dies_141 ⟨Nat.zero_le _, Nat.zero_le _⟩) hS (fun u43 H locs w44 hG hS => ?_)
                    obtain ⟨hf47, hq45, hq46⟩ := w44
                    have hn48 : g17 43 = (g 43) := by rw [(show g17 43 = g 43 from funext fun j => hf18 43 j (by decide))]
                    rw [hn48] at hq45
                    have hn49 : g17 1 0 = g 1 0 := by rw [hf18 1 0 (by decide)]
                    try rw [hn49] at hq45
                    refine lv_iload hx hb dX8_dies_144 (lv_at hl 1 rfl) ?_
                    refine ty_if_eq (tgt := 164) hx hb dX8_dies_146 (by decide) (fun c50 => ?_) (fun c50 => ?_)
                    · exfalso; omega
                    · skip
                      refine lv_aload hx hb dX8_dies_149 (lv_at hl 2 rfl) ?_
                      refine lv_dup hx hb dX8_dies_151 rfl ?_
                      refine get_X3_2 hx hb hA hown hE hG t_b11 wd_2_12 dX8_dies_152 (fun x51 h52 => ?_)
                      replace h52 : x51.toInt = g 51 (p2.toInt).toNat := by rw [h52, hf47 51 (p2.toInt).toNat (by decide) (by decide), hf18 51 (p2.toInt).toNat (by decide)]
                      have hk54 : u43 51 (p2.toInt).toNat = g17 51 (p2.toInt).toNat := hf47 51 (p2.toInt).toNat (by decide) (by decide)
                      have hk55 : g17 51 (p2.toInt).toNat = g 51 (p2.toInt).toNat := hf18 51 (p2.toInt).toNat (by decide)
                      refine lv_aload hx hb dX8_dies_155 (lv_at hl 3 rfl) ?_
                      refine get_X3_2 hx hb hA hown hE hG t_b5 wd_2_12 dX8_dies_157 (fun x56 h57 => ?_)
                      replace h57 : x56.toInt = g 51 (p1.toInt).toNat := by rw [h57, hf47 51 (p1.toInt).toNat (by decide) (by decide), hf18 51 (p1.toInt).toNat (by decide)]
                      have hk59 : u43 51 (p1.toInt).toNat = g17 51 (p1.toInt).toNat := hf47 51 (p1.toInt).toNat (by decide) (by decide)
                      have hk60 : g17 51 (p1.toInt).toNat = g 51 (p1.toInt).toNat := hf18 51 (p1.toInt).toNat (by decide)
                      refine ty_iadd hx hb dX8_dies_160 (fun x61 h62 => ?_)
                      have h63 : x61.toInt = wa (g 51 (p2.toInt).toNat) (g 51 (p1.toInt).toNat) := by rw [ty_wa h62, h52, h57]
                      refine put_X3_2 hx hb hA hown hE hG hS hU t_b11 wd_2_12 dX8_dies_161 (fun H locs hG hS => ?_)
                      refine lv_aload hx hb dX8_dies_164 (lv_at hl 3 rfl) ?_
                      refine ty_iconst hx hb (0) dX8_dies_166 (by decide) (fun x64 h65 => ?_)
                      refine put_X3_2 hx hb hA hown hE hG hS hU t_b5 wd_2_12 dX8_dies_167 (fun H locs hG hS => ?_)
                      refine lv_aload hx hb dX8_dies_170 (lv_at hl 3 rfl) ?_
                      refine lv_null hx hb dX8_dies_172 ?_
                      refine put_X3_7 (r := none) (z := (-1)) hx hb hA hown hE hG hS hU t_b5 wd_2_23 (fun _ => rfl) (fun _ h => by cases h) dX8_dies_173 (fun H locs hG hS => ?_)
                      generalize eg67 : (gs (gs (gs u43 51 (p2.toInt).toNat x61.toInt) 51 (p1.toInt).toNat x64.toInt) 56 (p1.toInt).toNat (-1)) = g66 at hG
                      have hf68 : ∀ c j : Nat, c ≠ 51 → c ≠ 56 → g66 c j = u43 c j := fun c j h51 h56 => by rw [← eg67, gs_c _ _ _ _ h56, gs_c _ _ _ _ h51, gs_c _ _ _ _ h51]
                      have v69 : g66 51 (p1.toInt).toNat = x64.toInt := by rw [← eg67, gs_c _ _ _ _ (by decide), gs_self]
                      have hw70 : g66 51 = (pz_up (pz_up (g 51) (p2.toInt).toNat x61.toInt) (p1.toInt).toNat x64.toInt) := by rw [← eg67, gs_r _ _ _ (by decide), pz_gs, pz_gs, (show u43 51 = g17 51 from funext fun j => hf47 51 j (by decide) (by decide)), (show g17 51 = g 51 from funext fun j => hf18 51 j (by decide))]
                      have v71 : g66 56 (p1.toInt).toNat = (-1) := by rw [← eg67, gs_self]
                      have hw72 : g66 56 = (pz_up (g 56) (p1.toInt).toNat (-1)) := by rw [← eg67, pz_gs, gs_r _ _ _ (by decide), gs_r _ _ _ (by decide), (show u43 56 = g17 56 from funext fun j => hf47 56 j (by decide) (by decide)), (show g17 56 = g 56 from funext fun j => hf18 56 j (by decide))]
                      refine lv_aload hx hb dX8_dies_176 (lv_at hl 3 rfl) ?_
                      refine ty_iconst hx hb (1) dX8_dies_178 (by decide) (fun x73 h74 => ?_)
                      refine put_X3_5 hx hb hA hown hE hG hS hU t_b5 wd_2_19 (by omega) dX8_dies_179 (fun H locs hG hS => ?_)
                      refine lv_iload hx hb dX8_dies_182 (lv_at hl 0 rfl) ?_
                      have hk75 : g66 13 0 = u43 13 0 := hf68 13 0 (by decide) (by decide)
                      have hk76 : u43 13 0 = g17 13 0 := hf47 13 0 (by decide) (by decide)
                      have e77 : (gs g66 54 (p1.toInt).toNat x73.toInt) 13 0 = g66 13 0 := by rw [gs_c _ _ _ _ (by decide)]
                      have hb9 : i25 = (g 13 0).toNat := by omega
                      have hin9 : (g 11 (g 13 0).toNat ≠ 0 ∨ p3.toInt ≠ 0) := by rw [← hb9]; omega
                      exact W.iret (v := x36) hx hb hr (fun t ht hW => ⟨⟨x36, (gs g66 54 (p1.toInt).toNat x73.toInt), rfl, ⟨(fun c j h43 h51 h53 h54 h56 h65 => by rw [gs_c _ _ _ _ h54, hf68 c j h51 h56, hf47 c j h43 h53, hf18 c j h65]), (⟨fun _ => ⟨(by rw [if_pos hin9]; omega), (by rw [pz_gs, (show g66 54 = u43 54 from funext fun j => hf68 54 j (by decide) (by decide)), (show u43 54 = g17 54 from funext fun j => hf47 54 j (by decide) (by decide)), (show g17 54 = g 54 from funext fun j => hf18 54 j (by decide))] <;> exact pz_upc (by omega) (by omega)), (by rw [gs_r _ _ _ (by decide), hw72] <;> exact pz_upc (by omega) (by omega)), (by rw [gs_r _ _ _ (by decide), (show g66 65 = u43 65 from funext fun j => hf68 65 j (by decide) (by decide)), (show u43 65 = g17 65 from funext fun j => hf47 65 j (by decide) (by decide)), ha0, show v6_36.toInt.toNat = (g 3 0).toNat by omega]), (by rw [if_pos hin9]; rw [gs_r _ _ _ (by decide), (show g66 43 = u43 43 from funext fun j => hf68 43 j (by decide) (by decide)), hq45] <;> exact prc (by omega) (by omega)), (by rw [if_pos hin9]; rw [gs_r _ _ _ (by decide), hw70] <;> exact pz_upc2 (by omega) (by omega) (by omega) (by omega))⟩, fun q => absurd (by omega) q⟩), (by rw [show (gs g66 54 (p1.toInt).toNat x73.toInt) 43 = u43 43 from funext fun j => by rw [gs_c _ _ _ _ (by decide), hf68 43 j (by decide) (by decide)]]; rw [show (gs g66 54 (p1.toInt).toNat x73.toInt) 53 = u43 53 from funext fun j => by rw [gs_c _ _ _ _ (by decide), hf68 53 j (by decide) (by decide)]]; exact hq46)⟩, ok1 ht hG⟩, hS.F ht⟩) hS.2.2 dX8_dies_184
              · skip
                refine lv_iload_n hx hb dX8_dies_100 rfl (lv_at hl 6 rfl) ?_
                refine ty_if_eq (tgt := 108) hx hb dX8_dies_101 (by decide) (fun c78 => ?_) (fun c78 => ?_)
                · skip
                  refine ty_iconst hx hb (0) dX8_dies_108 (by decide) (fun x79 h80 => ?_)
                  refine lv_istore (lv' := [(6, .int x79), (5, .ref b11), (4, .ref b5), (0, .ref h0), (1, .int p1), (2, .int p2), (3, .int p3)]) hx hb dX8_dies_109 hl (by decide) rfl (fun ls hl => ?_)
                  refine lv_iload hx hb dX8_dies_111 (lv_at hl 0 rfl) ?_
                  refine ty_if_eq (tgt := 124) hx hb dX8_dies_113 (by decide) (fun c81 => ?_) (fun c81 => ?_)
                  · skip
                    refine ty_iconst hx hb (0) dX8_dies_124 (by decide) (fun x82 h83 => ?_)
                    refine lv_istore (lv' := [(7, .int x82), (6, .int x79), (5, .ref b11), (4, .ref b5), (0, .ref h0), (1, .int p1), (2, .int p2), (3, .int p3)]) hx hb dX8_dies_125 hl (by decide) rfl (fun ls hl => ?_)
                    refine lv_aload_n hx hb dX8_dies_127 rfl (lv_at hl 4 rfl) ?_
                    refine lv_aload hx hb dX8_dies_128 (lv_at hl 3 rfl) ?_
                    refine lv_iload hx hb dX8_dies_130 (lv_at hl 1 rfl) ?_
                    refine ty_if_eq (tgt := 140) hx hb dX8_dies_132 (by decide) (fun c84 => ?_) (fun c84 => ?_)
                    · skip
                      refine lv_null hx hb dX8_dies_140 ?_
                      have hk85 : g17 1 0 = g 1 0 := hf18 1 0 (by decide)
                      have hk86 : g17 33 0 = g 33 0 := hf18 33 0 (by decide)
                      refine cV (va_runV (C := RX8) (As := [.ref b5, .null]) (rest := []) ⟨hx, hb, hml, hown, hA⟩ (k_X8_passAllWeeks l dC dI dA sz X Γ hU g17 h0 t_h0 b5 (p1.toInt).toNat t_b5 (none) ((-1)) (fun _ => rfl) (fun _ h => by cases h)   (by omega) (by rw [show g17 43 = g 43 from funext fun j => by rw [hf18 43 j (by decide)]]; rw [show g17 53 = g 53 from funext fun j => by rw [hf18 53 j (by decide)]]; exact hOW) (by omega)) ⟨callB_of 2 hA (al_A wd_4_0) rfl rfl rfl (hA _ wd_1_1) (hA _ wd_3_237) (by decide +kernel) ⟨Nat.le_of_ble_eq_true rfl, Nat.le_of_ble_eq_true rfl⟩, hA _ wd_3_239, hA _ ws_31⟩ ⟨bl, recv_X8 hE hG t_h0, fun U hU9 hW9 => ⟨rfl, by rw [hU9]; exact hG, hE.go hS hU9 hW9⟩⟩ rfl rfl hl.1 rfl (lv_room (Nat.le_of_ble_eq_true rfl)) dX8_dies_141 ⟨Nat.zero_le _, Nat.zero_le _⟩) hS (fun u87 H locs w88 hG hS => ?_)
                      obtain ⟨hf91, hq89, hq90⟩ := w88
                      have hn92 : g17 43 = (g 43) := by rw [(show g17 43 = g 43 from funext fun j => hf18 43 j (by decide))]
                      rw [hn92] at hq89
                      have hn93 : g17 1 0 = g 1 0 := by rw [hf18 1 0 (by decide)]
                      try rw [hn93] at hq89
                      refine lv_iload hx hb dX8_dies_144 (lv_at hl 1 rfl) ?_
                      refine ty_if_eq (tgt := 164) hx hb dX8_dies_146 (by decide) (fun c94 => ?_) (fun c94 => ?_)
                      · skip
                        refine lv_aload hx hb dX8_dies_164 (lv_at hl 3 rfl) ?_
                        refine ty_iconst hx hb (0) dX8_dies_166 (by decide) (fun x95 h96 => ?_)
                        refine put_X3_2 hx hb hA hown hE hG hS hU t_b5 wd_2_12 dX8_dies_167 (fun H locs hG hS => ?_)
                        refine lv_aload hx hb dX8_dies_170 (lv_at hl 3 rfl) ?_
                        refine lv_null hx hb dX8_dies_172 ?_
                        refine put_X3_7 (r := none) (z := (-1)) hx hb hA hown hE hG hS hU t_b5 wd_2_23 (fun _ => rfl) (fun _ h => by cases h) dX8_dies_173 (fun H locs hG hS => ?_)
                        refine lv_aload hx hb dX8_dies_176 (lv_at hl 3 rfl) ?_
                        refine ty_iconst hx hb (1) dX8_dies_178 (by decide) (fun x97 h98 => ?_)
                        refine put_X3_5 hx hb hA hown hE hG hS hU t_b5 wd_2_19 (by omega) dX8_dies_179 (fun H locs hG hS => ?_)
                        generalize eg100 : (gs (gs (gs u87 51 (p1.toInt).toNat x95.toInt) 56 (p1.toInt).toNat (-1)) 54 (p1.toInt).toNat x97.toInt) = g99 at hG
                        have hf101 : ∀ c j : Nat, c ≠ 51 → c ≠ 56 → c ≠ 54 → g99 c j = u87 c j := fun c j h51 h56 h54 => by rw [← eg100, gs_c _ _ _ _ h54, gs_c _ _ _ _ h56, gs_c _ _ _ _ h51]
                        have v102 : g99 51 (p1.toInt).toNat = x95.toInt := by rw [← eg100, gs_c _ _ _ _ (by decide), gs_c _ _ _ _ (by decide), gs_self]
                        have hw103 : g99 51 = (pz_up (g 51) (p1.toInt).toNat x95.toInt) := by rw [← eg100, gs_r _ _ _ (by decide), gs_r _ _ _ (by decide), pz_gs, (show u87 51 = g17 51 from funext fun j => hf91 51 j (by decide) (by decide)), (show g17 51 = g 51 from funext fun j => hf18 51 j (by decide))]
                        have v104 : g99 56 (p1.toInt).toNat = (-1) := by rw [← eg100, gs_c _ _ _ _ (by decide), gs_self]
                        have hw105 : g99 56 = (pz_up (g 56) (p1.toInt).toNat (-1)) := by rw [← eg100, gs_r _ _ _ (by decide), pz_gs, gs_r _ _ _ (by decide), (show u87 56 = g17 56 from funext fun j => hf91 56 j (by decide) (by decide)), (show g17 56 = g 56 from funext fun j => hf18 56 j (by decide))]
                        have v106 : g99 54 (p1.toInt).toNat = x97.toInt := by rw [← eg100, gs_self]
                        have hw107 : g99 54 = (pz_up (g 54) (p1.toInt).toNat x97.toInt) := by rw [← eg100, pz_gs, gs_r _ _ _ (by decide), gs_r _ _ _ (by decide), (show u87 54 = g17 54 from funext fun j => hf91 54 j (by decide) (by decide)), (show g17 54 = g 54 from funext fun j => hf18 54 j (by decide))]
                        refine lv_iload hx hb dX8_dies_182 (lv_at hl 0 rfl) ?_
                        have hk108 : g99 13 0 = u87 13 0 := hf101 13 0 (by decide) (by decide) (by decide)
                        have hk109 : u87 13 0 = g17 13 0 := hf91 13 0 (by decide) (by decide)
                        have hb9 : i25 = (g 13 0).toNat := by omega
                        have hin9 : ¬ (g 11 (g 13 0).toNat ≠ 0 ∨ p3.toInt ≠ 0) := by rw [← hb9]; omega
                        exact W.iret (v := x82) hx hb hr (fun t ht hW => ⟨⟨x82, g99, rfl, ⟨(fun c j h43 h51 h53 h54 h56 h65 => by rw [hf101 c j h51 h56 h54, hf91 c j h43 h53, hf18 c j h65]), (⟨fun _ => ⟨(by rw [if_neg hin9]; omega), (by rw [hw107] <;> exact pz_upc (by omega) (by omega)), (by rw [hw105] <;> exact pz_upc (by omega) (by omega)), (by rw [(show g99 65 = u87 65 from funext fun j => hf101 65 j (by decide) (by decide) (by decide)), (show u87 65 = g17 65 from funext fun j => hf91 65 j (by decide) (by decide)), ha0, show v6_36.toInt.toNat = (g 3 0).toNat by omega]), (by rw [if_neg hin9]; rw [(show g99 43 = u87 43 from funext fun j => hf101 43 j (by decide) (by decide) (by decide)), hq89] <;> exact prc (by omega) (by omega)), (by rw [if_neg hin9]; rw [hw103] <;> exact pz_upc (by omega) (by omega))⟩, fun q => absurd (by omega) q⟩), (by rw [show g99 43 = u87 43 from funext fun j => by rw [hf101 43 j (by decide) (by decide) (by decide)]]; rw [show g99 53 = u87 53 from funext fun j => by rw [hf101 53 j (by decide) (by decide) (by decide)]]; exact hq90)⟩, ok1 ht hG⟩, hS.F ht⟩) hS.2.2 dX8_dies_184
                      · exfalso; omega
                    · exfalso; omega
                  · exfalso; omega
                · skip
                  refine ty_iconst hx hb (1) dX8_dies_104 (by decide) (fun x110 h111 => ?_)
                  refine lv_goto (tgt := 109) hx hb dX8_dies_105 (by decide) ?_
                  refine lv_istore (lv' := [(6, .int x110), (5, .ref b11), (4, .ref b5), (0, .ref h0), (1, .int p1), (2, .int p2), (3, .int p3)]) hx hb dX8_dies_109 hl (by decide) rfl (fun ls hl => ?_)
                  refine lv_iload hx hb dX8_dies_111 (lv_at hl 0 rfl) ?_
                  refine ty_if_eq (tgt := 124) hx hb dX8_dies_113 (by decide) (fun c112 => ?_) (fun c112 => ?_)
                  · exfalso; omega
                  · skip
                    refine lv_aload hx hb dX8_dies_116 (lv_at hl 2 rfl) ?_
                    refine get_X3_4 hx hb hA hown hE hG t_b5 wd_2_17 dX8_dies_118 (fun x113 h114 => ?_)
                    replace h114 : x113.toInt = g 53 (p1.toInt).toNat := by rw [h114, hf18 53 (p1.toInt).toNat (by decide)]
                    have hk116 : g17 53 (p1.toInt).toNat = g 53 (p1.toInt).toNat := hf18 53 (p1.toInt).toNat (by decide)
                    refine lv_goto (tgt := 125) hx hb dX8_dies_121 (by decide) ?_
                    refine lv_istore (lv' := [(7, .int x113), (6, .int x110), (5, .ref b11), (4, .ref b5), (0, .ref h0), (1, .int p1), (2, .int p2), (3, .int p3)]) hx hb dX8_dies_125 hl (by decide) rfl (fun ls hl => ?_)
                    refine lv_aload_n hx hb dX8_dies_127 rfl (lv_at hl 4 rfl) ?_
                    refine lv_aload hx hb dX8_dies_128 (lv_at hl 3 rfl) ?_
                    refine lv_iload hx hb dX8_dies_130 (lv_at hl 1 rfl) ?_
                    refine ty_if_eq (tgt := 140) hx hb dX8_dies_132 (by decide) (fun c117 => ?_) (fun c117 => ?_)
                    · exfalso; omega
                    · skip
                      refine lv_aload hx hb dX8_dies_135 (lv_at hl 2 rfl) ?_
                      refine lv_goto (tgt := 141) hx hb dX8_dies_137 (by decide) ?_
                      have hk118 : g17 1 0 = g 1 0 := hf18 1 0 (by decide)
                      have hk119 : g17 33 0 = g 33 0 := hf18 33 0 (by decide)
                      refine cV (va_runV (C := RX8) (As := [.ref b5, .ref b11]) (rest := []) ⟨hx, hb, hml, hown, hA⟩ (k_X8_passAllWeeks l dC dI dA sz X Γ hU g17 h0 t_h0 b5 (p1.toInt).toNat t_b5 (some b11) ((p2.toInt)) (rq_z t_b11 p_b11).1 (rq_z t_b11 p_b11).2   (by omega) (by rw [show g17 43 = g 43 from funext fun j => by rw [hf18 43 j (by decide)]]; rw [show g17 53 = g 53 from funext fun j => by rw [hf18 53 j (by decide)]]; exact hOW) (by omega)) ⟨callB_of 2 hA (al_A wd_4_0) rfl rfl rfl (hA _ wd_1_1) (hA _ wd_3_237) (by decide +kernel) ⟨Nat.le_of_ble_eq_true rfl, Nat.le_of_ble_eq_true rfl⟩, hA _ wd_3_239, hA _ ws_31⟩ ⟨bl, recv_X8 hE hG t_h0, fun U hU9 hW9 => ⟨rfl, by rw [hU9]; exact hG, hE.go hS hU9 hW9⟩⟩ rfl rfl hl.1 rfl (lv_room (Nat.le_of_ble_eq_true rfl)) dX8_dies_141 ⟨Nat.zero_le _, Nat.zero_le _⟩) hS (fun u120 H locs w121 hG hS => ?_)
                      obtain ⟨hf124, hq122, hq123⟩ := w121
                      have hn125 : g17 43 = (g 43) := by rw [(show g17 43 = g 43 from funext fun j => hf18 43 j (by decide))]
                      rw [hn125] at hq122
                      have hn126 : g17 1 0 = g 1 0 := by rw [hf18 1 0 (by decide)]
                      try rw [hn126] at hq122
                      refine lv_iload hx hb dX8_dies_144 (lv_at hl 1 rfl) ?_
                      refine ty_if_eq (tgt := 164) hx hb dX8_dies_146 (by decide) (fun c127 => ?_) (fun c127 => ?_)
                      · exfalso; omega
                      · skip
                        refine lv_aload hx hb dX8_dies_149 (lv_at hl 2 rfl) ?_
                        refine lv_dup hx hb dX8_dies_151 rfl ?_
                        refine get_X3_2 hx hb hA hown hE hG t_b11 wd_2_12 dX8_dies_152 (fun x128 h129 => ?_)
                        replace h129 : x128.toInt = g 51 (p2.toInt).toNat := by rw [h129, hf124 51 (p2.toInt).toNat (by decide) (by decide), hf18 51 (p2.toInt).toNat (by decide)]
                        have hk131 : u120 51 (p2.toInt).toNat = g17 51 (p2.toInt).toNat := hf124 51 (p2.toInt).toNat (by decide) (by decide)
                        have hk132 : g17 51 (p2.toInt).toNat = g 51 (p2.toInt).toNat := hf18 51 (p2.toInt).toNat (by decide)
                        refine lv_aload hx hb dX8_dies_155 (lv_at hl 3 rfl) ?_
                        refine get_X3_2 hx hb hA hown hE hG t_b5 wd_2_12 dX8_dies_157 (fun x133 h134 => ?_)
                        replace h134 : x133.toInt = g 51 (p1.toInt).toNat := by rw [h134, hf124 51 (p1.toInt).toNat (by decide) (by decide), hf18 51 (p1.toInt).toNat (by decide)]
                        have hk136 : u120 51 (p1.toInt).toNat = g17 51 (p1.toInt).toNat := hf124 51 (p1.toInt).toNat (by decide) (by decide)
                        have hk137 : g17 51 (p1.toInt).toNat = g 51 (p1.toInt).toNat := hf18 51 (p1.toInt).toNat (by decide)
                        refine ty_iadd hx hb dX8_dies_160 (fun x138 h139 => ?_)
                        have h140 : x138.toInt = wa (g 51 (p2.toInt).toNat) (g 51 (p1.toInt).toNat) := by rw [ty_wa h139, h129, h134]
                        refine put_X3_2 hx hb hA hown hE hG hS hU t_b11 wd_2_12 dX8_dies_161 (fun H locs hG hS => ?_)
                        refine lv_aload hx hb dX8_dies_164 (lv_at hl 3 rfl) ?_
                        refine ty_iconst hx hb (0) dX8_dies_166 (by decide) (fun x141 h142 => ?_)
                        refine put_X3_2 hx hb hA hown hE hG hS hU t_b5 wd_2_12 dX8_dies_167 (fun H locs hG hS => ?_)
                        refine lv_aload hx hb dX8_dies_170 (lv_at hl 3 rfl) ?_
                        refine lv_null hx hb dX8_dies_172 ?_
                        refine put_X3_7 (r := none) (z := (-1)) hx hb hA hown hE hG hS hU t_b5 wd_2_23 (fun _ => rfl) (fun _ h => by cases h) dX8_dies_173 (fun H locs hG hS => ?_)
                        generalize eg144 : (gs (gs (gs u120 51 (p2.toInt).toNat x138.toInt) 51 (p1.toInt).toNat x141.toInt) 56 (p1.toInt).toNat (-1)) = g143 at hG
                        have hf145 : ∀ c j : Nat, c ≠ 51 → c ≠ 56 → g143 c j = u120 c j := fun c j h51 h56 => by rw [← eg144, gs_c _ _ _ _ h56, gs_c _ _ _ _ h51, gs_c _ _ _ _ h51]
                        have v146 : g143 51 (p1.toInt).toNat = x141.toInt := by rw [← eg144, gs_c _ _ _ _ (by decide), gs_self]
                        have hw147 : g143 51 = (pz_up (pz_up (g 51) (p2.toInt).toNat x138.toInt) (p1.toInt).toNat x141.toInt) := by rw [← eg144, gs_r _ _ _ (by decide), pz_gs, pz_gs, (show u120 51 = g17 51 from funext fun j => hf124 51 j (by decide) (by decide)), (show g17 51 = g 51 from funext fun j => hf18 51 j (by decide))]
                        have v148 : g143 56 (p1.toInt).toNat = (-1) := by rw [← eg144, gs_self]
                        have hw149 : g143 56 = (pz_up (g 56) (p1.toInt).toNat (-1)) := by rw [← eg144, pz_gs, gs_r _ _ _ (by decide), gs_r _ _ _ (by decide), (show u120 56 = g17 56 from funext fun j => hf124 56 j (by decide) (by decide)), (show g17 56 = g 56 from funext fun j => hf18 56 j (by decide))]
                        refine lv_aload hx hb dX8_dies_176 (lv_at hl 3 rfl) ?_
                        refine ty_iconst hx hb (1) dX8_dies_178 (by decide) (fun x150 h151 => ?_)
                        refine put_X3_5 hx hb hA hown hE hG hS hU t_b5 wd_2_19 (by omega) dX8_dies_179 (fun H locs hG hS => ?_)
                        refine lv_iload hx hb dX8_dies_182 (lv_at hl 0 rfl) ?_
                        have hk152 : g143 13 0 = u120 13 0 := hf145 13 0 (by decide) (by decide)
                        have hk153 : u120 13 0 = g17 13 0 := hf124 13 0 (by decide) (by decide)
                        have e154 : (gs g143 54 (p1.toInt).toNat x150.toInt) 13 0 = g143 13 0 := by rw [gs_c _ _ _ _ (by decide)]
                        have hb9 : i25 = (g 13 0).toNat := by omega
                        have hin9 : (g 11 (g 13 0).toNat ≠ 0 ∨ p3.toInt ≠ 0) := by rw [← hb9]; omega
                        exact W.iret (v := x113) hx hb hr (fun t ht hW => ⟨⟨x113, (gs g143 54 (p1.toInt).toNat x150.toInt), rfl, ⟨(fun c j h43 h51 h53 h54 h56 h65 => by rw [gs_c _ _ _ _ h54, hf145 c j h51 h56, hf124 c j h43 h53, hf18 c j h65]), (⟨fun _ => ⟨(by rw [if_pos hin9]; omega), (by rw [pz_gs, (show g143 54 = u120 54 from funext fun j => hf145 54 j (by decide) (by decide)), (show u120 54 = g17 54 from funext fun j => hf124 54 j (by decide) (by decide)), (show g17 54 = g 54 from funext fun j => hf18 54 j (by decide))] <;> exact pz_upc (by omega) (by omega)), (by rw [gs_r _ _ _ (by decide), hw149] <;> exact pz_upc (by omega) (by omega)), (by rw [gs_r _ _ _ (by decide), (show g143 65 = u120 65 from funext fun j => hf145 65 j (by decide) (by decide)), (show u120 65 = g17 65 from funext fun j => hf124 65 j (by decide) (by decide)), ha0, show v6_36.toInt.toNat = (g 3 0).toNat by omega]), (by rw [if_pos hin9]; rw [gs_r _ _ _ (by decide), (show g143 43 = u120 43 from funext fun j => hf145 43 j (by decide) (by decide)), hq122] <;> exact prc (by omega) (by omega)), (by rw [if_pos hin9]; rw [gs_r _ _ _ (by decide), hw147] <;> exact pz_upc2 (by omega) (by omega) (by omega) (by omega))⟩, fun q => absurd (by omega) q⟩), (by rw [show (gs g143 54 (p1.toInt).toNat x150.toInt) 43 = u120 43 from funext fun j => by rw [gs_c _ _ _ _ (by decide), hf145 43 j (by decide) (by decide)]]; rw [show (gs g143 54 (p1.toInt).toNat x150.toInt) 53 = u120 53 from funext fun j => by rw [gs_c _ _ _ _ (by decide), hf145 53 j (by decide) (by decide)]]; exact hq123)⟩, ok1 ht hG⟩, hS.F ht⟩) hS.2.2 dX8_dies_184
            · skip
              refine lv_aload_n hx hb dX8_dies_45 rfl (lv_at hl 3 rfl) ?_
              refine get_X8_4 hx hb hA hown hE hG t_h0 wd_1_161 dX8_dies_46 (fun b155 (t_b155 : ty Γ b155 12) => ?_)
              refine lv_iload hx hb dX8_dies_49 (lv_at hl 0 rfl) ?_
              refine ald_12 hx hb hE hG t_b155 (by omega) dX8_dies_51 (fun j157 r156 h158 t_r156 h159 => ?_)
              obtain rfl : j157 = v6_36.toInt.toNat := by omega
              have hk160 : g17 35 0 = g 35 0 := hf18 35 0 (by decide)
              obtain ⟨b161, h162⟩ := Option.ne_none_iff_exists'.mp (h159 (by omega))
              have t_b161 := t_r156 b161 h162
              clear h159 t_r156
              subst h162
              refine get_X2_1 hx hb hA hown hE hG t_b161 wd_3_22 dX8_dies_52 (fun b163 t_b163 p_b163 => ?_)
              have hk164 : g17 60 v6_36.toInt.toNat = g 60 v6_36.toInt.toNat := hf18 60 v6_36.toInt.toNat (by decide)
              refine lv_aload hx hb dX8_dies_55 (lv_at hl 2 rfl) ?_
              have hq166 := rq_eq hU (by decide : sg2 3 = true) (rq_z t_b163 p_b163) (rq_z t_b5 p_b5)
              refine lv_acmp_ne (rx := some b163) (ry := some b5) (tgt := 84) hx hb dX8_dies_57 (by decide) (fun h165 => ?_) (fun h165 => ?_)
              · skip
                replace hq166 : ¬ ((g17 60 v6_36.toInt.toNat) = (p1.toInt)) := fun q => h165 (hq166.mpr q)
                obtain ⟨x167, h168⟩ : ∃ y : Int32, y = v6_36 + Int32.ofInt (1) := ⟨_, rfl⟩
                try have h169 : x167.toInt = v6_36.toInt + (1) := ty_inc h168 (by decide) (by omega) (by omega)
                refine lv_iinc (v := x167) (lv' := [(6, .int x167), (5, .ref b11), (4, .ref b5), (0, .ref h0), (1, .int p1), (2, .int p2), (3, .int p3)]) hx hb dX8_dies_84 hl (k := 0) rfl h168.symm (by decide) rfl (fun ls hl => ?_)
                refine lv_goto (tgt := 36) hx hb dX8_dies_87 (by decide) ?_
                exact ih_36 x167 g17 _ _ ls (by omega) (by omega) (fun c j h65 => by rw [hf18 c j h65]) (dy_n (by omega) (by omega) ha0) hG hS (lv_sub hl [0, 1, 2, 3, 4, 5, 6] rfl)
              · skip
                replace hq166 : (g17 60 v6_36.toInt.toNat) = (p1.toInt) := hq166.mp h165
                refine lv_aload_n hx hb dX8_dies_60 rfl (lv_at hl 3 rfl) ?_
                refine get_X8_4 hx hb hA hown hE hG t_h0 wd_1_161 dX8_dies_61 (fun b170 (t_b170 : ty Γ b170 12) => ?_)
                refine lv_iload hx hb dX8_dies_64 (lv_at hl 0 rfl) ?_
                refine ald_12 hx hb hE hG t_b170 (by omega) dX8_dies_66 (fun j172 r171 h173 t_r171 h174 => ?_)
                obtain rfl : j172 = v6_36.toInt.toNat := by omega
                obtain ⟨b175, h176⟩ := Option.ne_none_iff_exists'.mp (h174 (by omega))
                have t_b175 := t_r171 b175 h176
                clear h174 t_r171
                subst h176
                refine get_X2_6 hx hb hA hown hE hG t_b175 wd_3_34 dX8_dies_67 (fun x177 h178 => ?_)
                refine ty_if_ne (tgt := 84) hx hb dX8_dies_70 (by decide) (fun c180 => ?_) (fun c180 => ?_)
                · skip
                  obtain ⟨x181, h182⟩ : ∃ y : Int32, y = v6_36 + Int32.ofInt (1) := ⟨_, rfl⟩
                  try have h183 : x181.toInt = v6_36.toInt + (1) := ty_inc h182 (by decide) (by omega) (by omega)
                  refine lv_iinc (v := x181) (lv' := [(6, .int x181), (5, .ref b11), (4, .ref b5), (0, .ref h0), (1, .int p1), (2, .int p2), (3, .int p3)]) hx hb dX8_dies_84 hl (k := 0) rfl h182.symm (by decide) rfl (fun ls hl => ?_)
                  refine lv_goto (tgt := 36) hx hb dX8_dies_87 (by decide) ?_
                  exact ih_36 x181 g17 _ _ ls (by omega) (by omega) (fun c j h65 => by rw [hf18 c j h65]) (dy_n (by omega) (by omega) ha0) hG hS (lv_sub hl [0, 1, 2, 3, 4, 5, 6] rfl)
                · skip
                  refine lv_aload_n hx hb dX8_dies_73 rfl (lv_at hl 3 rfl) ?_
                  refine get_X8_4 hx hb hA hown hE hG t_h0 wd_1_161 dX8_dies_74 (fun b184 (t_b184 : ty Γ b184 12) => ?_)
                  refine lv_iload hx hb dX8_dies_77 (lv_at hl 0 rfl) ?_
                  refine ald_12 hx hb hE hG t_b184 (by omega) dX8_dies_79 (fun j186 r185 h187 t_r185 h188 => ?_)
                  obtain rfl : j186 = v6_36.toInt.toNat := by omega
                  obtain ⟨b189, h190⟩ := Option.ne_none_iff_exists'.mp (h188 (by omega))
                  have t_b189 := t_r185 b189 h190
                  clear h188 t_r185
                  subst h190
                  refine ty_iconst hx hb (4) dX8_dies_80 (by decide) (fun x191 h192 => ?_)
                  refine put_X2_6 hx hb hA hown hE hG hS hU t_b189 wd_3_34 dX8_dies_81 (fun H locs hG hS => ?_)
                  obtain ⟨x193, h194⟩ : ∃ y : Int32, y = v6_36 + Int32.ofInt (1) := ⟨_, rfl⟩
                  try have h195 : x193.toInt = v6_36.toInt + (1) := ty_inc h194 (by decide) (by omega) (by omega)
                  refine lv_iinc (v := x193) (lv' := [(6, .int x193), (5, .ref b11), (4, .ref b5), (0, .ref h0), (1, .int p1), (2, .int p2), (3, .int p3)]) hx hb dX8_dies_84 hl (k := 0) rfl h194.symm (by decide) rfl (fun ls hl => ?_)
                  refine lv_goto (tgt := 36) hx hb dX8_dies_87 (by decide) ?_
                  have e196 : (gs g17 65 v6_36.toInt.toNat x191.toInt) 3 0 = g17 3 0 := by rw [gs_c _ _ _ _ (by decide)]
                  exact ih_36 x193 (gs g17 65 v6_36.toInt.toNat x191.toInt) _ _ ls (by omega) (by omega) (fun c j h65 => by rw [gs_c _ _ _ _ h65, hf18 c j h65]) (by rw [pz_gs]; exact dy_s (by omega) (by omega) (by omega) (by omega) ha0) hG hS (lv_sub hl [0, 1, 2, 3, 4, 5, 6] rfl)
        exact L_36 ((g 3 0 - x15.toInt) + 1).toNat x15 g _ _ ls (by omega) (by omega) (fun c j _ => rfl) (dy_0 (by omega)) hG hS (lv_sub hl [0, 1, 2, 3, 4, 5, 6] rfl)
      · skip
        replace hq14 : (p1.toInt) = (p2.toInt) := hq14.mp h13
        refine ty_iconst hx hb (-1) dX8_dies_31 (by decide) (fun x197 h198 => ?_)
        exact W.iret (v := x197) hx hb hr (fun t ht hW => ⟨⟨x197, g, rfl, ⟨(fun c j h43 h51 h53 h54 h56 h65 => by rfl), (⟨fun q => absurd q (by omega), fun _ => ⟨(by omega), (rfl), (rfl), (rfl), (rfl), (rfl)⟩⟩), (hOW)⟩, ok1 ht hG⟩, hS.F ht⟩) hS.2.2 dX8_dies_32
    · skip
      obtain rfl : r9 = none := rq_no t_r9 (by omega)
      clear n_r9 t_r9
      refine lv_astoreN (lv' := [(5, .null), (4, .ref b5), (0, .ref h0), (1, .int p1), (2, .int p2), (3, .int p3)]) hx hb dX8_dies_12 hl (by decide) rfl (fun ls hl => ?_)
      refine lv_aload hx hb dX8_dies_14 (lv_at hl 1 rfl) ?_
      refine lv_ifnull hx hb dX8_dies_16 ?_
      refine lv_aloadN hx hb dX8_dies_19 (lv_at hl 0 rfl) ?_
      refine lv_ifnullN (tgt := 31) hx hb dX8_dies_21 (by decide) ?_
      refine ty_iconst hx hb (-1) dX8_dies_31 (by decide) (fun x199 h200 => ?_)
      exact W.iret (v := x199) hx hb hr (fun t ht hW => ⟨⟨x199, g, rfl, ⟨(fun c j h43 h51 h53 h54 h56 h65 => by rfl), (⟨fun q => absurd q (by omega), fun _ => ⟨(by omega), (rfl), (rfl), (rfl), (rfl), (rfl)⟩⟩), (hOW)⟩, ok1 ht hG⟩, hS.F ht⟩) hS.2.2 dX8_dies_32
  · skip
    obtain rfl : r3 = none := rq_no t_r3 (by omega)
    clear n_r3 t_r3
    refine lv_astoreN (lv' := [(4, .null), (0, .ref h0), (1, .int p1), (2, .int p2), (3, .int p3)]) hx hb dX8_dies_5 hl (by decide) rfl (fun ls hl => ?_)
    refine lv_aload_n hx hb dX8_dies_7 rfl (lv_at hl 1 rfl) ?_
    refine lv_iload_n hx hb dX8_dies_8 rfl (lv_at hl 3 rfl) ?_
    refine cQ (va_runV (C := RX8) (As := [.int p2]) (rest := []) ⟨hx, hb, hml, hown, hA⟩ (k_X8_livingOwnerAt l dC dI dA sz X Γ hU g h0 t_h0 p2   (by omega)) ⟨callB_of 1 hA (al_A wd_2_52) rfl rfl rfl (hA _ wd_1_1) (hA _ wd_2_49) (by decide +kernel) ⟨Nat.le_of_ble_eq_true rfl, Nat.le_of_ble_eq_true rfl⟩, hA _ wd_2_51, hA _ ws_1⟩ ⟨bl, recv_X8 hE hG t_h0, fun U hU9 hW9 => ⟨rfl, by rw [hU9]; exact hG, hE.go hS hU9 hW9⟩⟩ rfl rfl hl.1 rfl (lv_room (Nat.le_of_ble_eq_true rfl)) dX8_dies_9 ⟨Nat.zero_le _, Nat.zero_le _⟩) hS (fun r203 u201 H locs w202 hG hS => ?_)
    obtain ⟨z_r203, n_r203, t_r203, w202⟩ := w202
    obtain ⟨eu204, w202⟩ := w202
    rw [eu204] at hG
    rcases pz_or w202 with w202 | w202
    · skip
      obtain ⟨b205, h206⟩ := Option.ne_none_iff_exists'.mp (fun h9 => absurd (n_r203 h9) (by omega))
      obtain ⟨t_b205, p_b205⟩ := t_r203 b205 h206
      clear t_r203 n_r203
      subst h206
      replace t_b205 : Γ b205 = (3, (p2.toInt).toNat) := by rw [t_b205, show z_r203 = p2.toInt by omega]
      replace p_b205 : 0 ≤ p2.toInt := by omega
      refine lv_astore (lv' := [(5, .ref b205), (4, .null), (0, .ref h0), (1, .int p1), (2, .int p2), (3, .int p3)]) hx hb dX8_dies_12 hl (by decide) rfl (fun ls hl => ?_)
      refine lv_aloadN hx hb dX8_dies_14 (lv_at hl 1 rfl) ?_
      refine lv_ifnullN (tgt := 31) hx hb dX8_dies_16 (by decide) ?_
      refine ty_iconst hx hb (-1) dX8_dies_31 (by decide) (fun x207 h208 => ?_)
      exact W.iret (v := x207) hx hb hr (fun t ht hW => ⟨⟨x207, g, rfl, ⟨(fun c j h43 h51 h53 h54 h56 h65 => by rfl), (⟨fun q => absurd q (by omega), fun _ => ⟨(by omega), (rfl), (rfl), (rfl), (rfl), (rfl)⟩⟩), (hOW)⟩, ok1 ht hG⟩, hS.F ht⟩) hS.2.2 dX8_dies_32
    · skip
      obtain rfl : r203 = none := rq_no t_r203 (by omega)
      clear n_r203 t_r203
      refine lv_astoreN (lv' := [(5, .null), (4, .null), (0, .ref h0), (1, .int p1), (2, .int p2), (3, .int p3)]) hx hb dX8_dies_12 hl (by decide) rfl (fun ls hl => ?_)
      refine lv_aloadN hx hb dX8_dies_14 (lv_at hl 1 rfl) ?_
      refine lv_ifnullN (tgt := 31) hx hb dX8_dies_16 (by decide) ?_
      refine ty_iconst hx hb (-1) dX8_dies_31 (by decide) (fun x209 h210 => ?_)
      exact W.iret (v := x209) hx hb hr (fun t ht hW => ⟨⟨x209, g, rfl, ⟨(fun c j h43 h51 h53 h54 h56 h65 => by rfl), (⟨fun q => absurd q (by omega), fun _ => ⟨(by omega), (rfl), (rfl), (rfl), (rfl), (rfl)⟩⟩), (hOW)⟩, ok1 ht hG⟩, hS.F ht⟩) hS.2.2 dX8_dies_32

set_option maxHeartbeats 4000000 in
set_option maxRecDepth 100000 in
/-- WeekBank.rush:  -/
theorem k_X8_rush (l : Launch) (dC : Nat → ClassId) (dI : Nat → Nat → Nat) (dA : Nat → ClassId) (sz : Nat) (X : va_W) (Γ : ty_G) (hU : Un Γ) (g : gh) (h0 : Nat) (t_h0 : ty Γ h0 1) (g2 : g 2 0 = g 34 0 ∧ 0 ≤ g 2 0 ∧ g 2 0 ≤ 10) (g3 : g 3 0 = g 35 0 ∧ 0 ≤ g 3 0 ∧ g 3 0 ≤ 200) : Met l yX8_rush (.code yX8_rush cX8_rush 5 (Option.some Jvm.ClassFile.FieldType.int) :: AL) ({ frames := 2, cells := 0, slots := 0, locals := 47 }) (PCx dC dI dA sz X Γ g [.ref h0]) (va_Qi (fun (r : Int32) (u : gh) => (∀ c j : Nat, c ≠ 51 → c ≠ 52 → c ≠ 55 → c ≠ 56 → c ≠ 65 → c ≠ 68 → u c j = g c j) ∧ ((u 51, u 52, u 55, u 56, u 65, u 68, r.toInt) = ru_f (g 64) (g 61) (g 62) (g 41) (g 42) ((g 3) 0).toNat ((g 2) 0).toNat (g 2 0).toNat (g 51, g 52, il_f (g 55) (g 56) (g 2 0).toNat, g 56, g 65, g 68, 0))) (okb dC dI dA sz X Γ) (ty_A sz)) 0 0 (ty_A sz) := by
  refine Met.ofW (cc := cX8_rush) (maxL := 5) (ret := (Option.some Jvm.ClassFile.FieldType.int)) (by decide) rfl ?_
  intro p e s m args below meth c s₁ B hml hv
  obtain ⟨rfl, hG, hE⟩ := hv
  have hx := B.exec
  have hb := B.bytes
  have hr := B.returns
  have hts := atoms_spec B.pre
  have hA : ∀ w ∈ AL, w.before _ s = true := fun w h => hts w (List.mem_cons_of_mem _ h)
  have hown : s.vm.findClass RX8 = some m.cls := findClass_of_methodNamed B.named
  have hlocks := B.notSynchronized
  have hS : va_S (ty_A sz) s.heap s.heap [] := va_S.rf
  have hl := lv_entry ([.ref h0]) (n := 5) (Nat.le_of_ble_eq_true rfl)
  rw [lg_entry_eq]
  generalize (lg_sl ([.ref h0]) ++ List.replicate (5 - (lg_sl ([.ref h0])).length) Slot.unset).toArray = ls at hl ⊢
  have hl : lv_has ls 5 [(0, .ref h0)] := hl
  refine ty_iconst hx hb (0) dX8_rush_0 (by decide) (fun x1 h2 => ?_)
  refine lv_istore_n (lv' := [(1, .int x1), (0, .ref h0)]) hx hb dX8_rush_1 rfl hl (by decide) rfl (fun ls hl => ?_)
  have L_2 : ∀ (n : Nat) (v1_2 : Int32) (g3 : gh) (H : Heap) (locs : List Loc) (ls : Array Slot), (g3 2 0 - v1_2.toInt : Int) < n → 0 ≤ v1_2.toInt ∧ v1_2.toInt ≤ g3 2 0 → (∀ c j : Nat, c ≠ 55 → g3 c j = g c j) → (g3 55 = il_f (g 55) (g 56) v1_2.toInt.toNat) → ty_ok (dC, dI) vwCl Γ (TP dA Γ g3) sz X H → va_S (ty_A sz) s.heap H locs → lv_has ls 5 [(1, .int v1_2), (0, .ref h0)] → W p l e (headSpec (.code yX8_rush cX8_rush 5 (Option.some Jvm.ClassFile.FieldType.int) :: AL) ({ frames := 2, cells := 0, slots := 0, locals := 47 })).room s m ([.ref h0] : List Value).toArray below meth c H locs 0 0 (MQ below (va_Qi (fun (r : Int32) (u : gh) => (∀ c j : Nat, c ≠ 51 → c ≠ 52 → c ≠ 55 → c ≠ 56 → c ≠ 65 → c ≠ 68 → u c j = g c j) ∧ ((u 51, u 52, u 55, u 56, u 65, u 68, r.toInt) = ru_f (g 64) (g 61) (g 62) (g 41) (g 42) ((g 3) 0).toNat ((g 2) 0).toNat (g 2 0).toNat (g 51, g 52, il_f (g 55) (g 56) (g 2 0).toNat, g 56, g 65, g 68, 0))) (okb dC dI dA sz X Γ) (ty_A sz)) ([.ref h0] : List Value).toArray s 0 0 (ty_A sz)) (F0 m 2 ls []) := by
    intro n
    induction n with
    | zero => intro v1_2 g3 H locs ls hm hi0 hf4 ha0 hG hS hl; exfalso; omega
    | succ n ih_2 =>
      intro v1_2 g3 H locs ls hm hi0 hf4 ha0 hG hS hl
      have hk5 : g3 2 0 = g 2 0 := hf4 2 0 (by decide)
      refine lv_iload_n hx hb dX8_rush_2 rfl (lv_at hl 0 rfl) ?_
      refine lv_aload_n hx hb dX8_rush_3 rfl (lv_at hl 1 rfl) ?_
      refine get_X8_3 hx hb hA hown hE hG t_h0 wd_1_160 dX8_rush_4 (fun x6 h7 => ?_)
      replace h7 : x6.toInt = g 2 0 := by rw [h7, hf4 2 0 (by decide)]
      refine ty_icmp_ge (tgt := 42) hx hb dX8_rush_7 (by decide) (fun c9 => ?_) (fun c9 => ?_)
      · skip
        refine ty_iconst hx hb (0) dX8_rush_42 (by decide) (fun x10 h11 => ?_)
        refine lv_istore_n (lv' := [(1, .int x10), (0, .ref h0)]) hx hb dX8_rush_43 rfl hl (by decide) rfl (fun ls hl => ?_)
        refine ty_iconst hx hb (0) dX8_rush_44 (by decide) (fun x12 h13 => ?_)
        refine lv_istore_n (lv' := [(2, .int x12), (1, .int x10), (0, .ref h0)]) hx hb dX8_rush_45 rfl hl (by decide) rfl (fun ls hl => ?_)
        have L_46 : ∀ (n : Nat) (v2_46 : Int32) (v1_46 : Int32) (g14 : gh) (H : Heap) (locs : List Loc) (ls : Array Slot), (g14 2 0 - v2_46.toInt : Int) < n → 0 ≤ v2_46.toInt ∧ v2_46.toInt ≤ g14 2 0 → 0 ≤ v1_46.toInt ∧ v1_46.toInt ≤ v2_46.toInt → (∀ c j : Nat, c ≠ 51 → c ≠ 52 → c ≠ 55 → c ≠ 56 → c ≠ 65 → c ≠ 68 → g14 c j = g3 c j) → (ru_f (g 64) (g 61) (g 62) (g 41) (g 42) ((g 3) 0).toNat ((g 2) 0).toNat (g 2 0 - v2_46.toInt).toNat (g14 51, g14 52, g14 55, g14 56, g14 65, g14 68, v1_46.toInt) = ru_f (g 64) (g 61) (g 62) (g 41) (g 42) ((g 3) 0).toNat ((g 2) 0).toNat (g 2 0).toNat (g 51, g 52, il_f (g 55) (g 56) (g 2 0).toNat, g 56, g 65, g 68, 0)) → ty_ok (dC, dI) vwCl Γ (TP dA Γ g14) sz X H → va_S (ty_A sz) s.heap H locs → lv_has ls 5 [(2, .int v2_46), (1, .int v1_46), (0, .ref h0)] → W p l e (headSpec (.code yX8_rush cX8_rush 5 (Option.some Jvm.ClassFile.FieldType.int) :: AL) ({ frames := 2, cells := 0, slots := 0, locals := 47 })).room s m ([.ref h0] : List Value).toArray below meth c H locs 0 0 (MQ below (va_Qi (fun (r : Int32) (u : gh) => (∀ c j : Nat, c ≠ 51 → c ≠ 52 → c ≠ 55 → c ≠ 56 → c ≠ 65 → c ≠ 68 → u c j = g c j) ∧ ((u 51, u 52, u 55, u 56, u 65, u 68, r.toInt) = ru_f (g 64) (g 61) (g 62) (g 41) (g 42) ((g 3) 0).toNat ((g 2) 0).toNat (g 2 0).toNat (g 51, g 52, il_f (g 55) (g 56) (g 2 0).toNat, g 56, g 65, g 68, 0))) (okb dC dI dA sz X Γ) (ty_A sz)) ([.ref h0] : List Value).toArray s 0 0 (ty_A sz)) (F0 m 46 ls []) := by
          intro n
          induction n with
          | zero => intro v2_46 v1_46 g14 H locs ls hm hi0 hi1 hf15 hq0 hG hS hl; exfalso; omega
          | succ n ih_46 =>
            intro v2_46 v1_46 g14 H locs ls hm hi0 hi1 hf15 hq0 hG hS hl
            have hk16 : g14 2 0 = g3 2 0 := hf15 2 0 (by decide) (by decide) (by decide) (by decide) (by decide) (by decide)
            refine lv_iload_n hx hb dX8_rush_46 rfl (lv_at hl 0 rfl) ?_
            refine lv_aload_n hx hb dX8_rush_47 rfl (lv_at hl 2 rfl) ?_
            refine get_X8_3 hx hb hA hown hE hG t_h0 wd_1_160 dX8_rush_48 (fun x17 h18 => ?_)
            replace h18 : x17.toInt = g 2 0 := by rw [h18, hf15 2 0 (by decide) (by decide) (by decide) (by decide) (by decide) (by decide), hf4 2 0 (by decide)]
            refine ty_icmp_ge (tgt := 117) hx hb dX8_rush_51 (by decide) (fun c20 => ?_) (fun c20 => ?_)
            · skip
              refine lv_iload_n hx hb dX8_rush_117 rfl (lv_at hl 1 rfl) ?_
              exact W.iret (v := v1_46) hx hb hr (fun t ht hW => ⟨⟨v1_46, g14, rfl, ⟨(fun c j h51 h52 h55 h56 h65 h68 => by rw [hf15 c j h51 h52 h55 h56 h65 h68, hf4 c j h55]), (by have h9 := hq0; rw [show (g 2 0 - v2_46.toInt).toNat = 0 by omega] at h9; exact h9)⟩, ok1 ht hG⟩, hS.F ht⟩) hS.2.2 dX8_rush_118
            · skip
              refine lv_aload_n hx hb dX8_rush_54 rfl (lv_at hl 2 rfl) ?_
              have hk21 : g14 34 0 = g3 34 0 := hf15 34 0 (by decide) (by decide) (by decide) (by decide) (by decide) (by decide)
              have hk22 : g3 34 0 = g 34 0 := hf4 34 0 (by decide)
              refine cQ (va_runV (C := RX8) (As := []) (rest := []) ⟨hx, hb, hml, hown, hA⟩ (k_X8_firstInLine l dC dI dA sz X Γ hU g14 h0 t_h0   (by omega)) ⟨callB_of 0 hA (al_A wd_3_202) rfl rfl rfl (hA _ wd_1_1) (hA _ wd_3_199) (by decide +kernel) ⟨Nat.le_of_ble_eq_true rfl, Nat.le_of_ble_eq_true rfl⟩, hA _ wd_3_201, hA _ ws_28⟩ ⟨bl, recv_X8 hE hG t_h0, fun U hU9 hW9 => ⟨rfl, by rw [hU9]; exact hG, hE.go hS hU9 hW9⟩⟩ rfl rfl hl.1 rfl (lv_room (Nat.le_of_ble_eq_true rfl)) dX8_rush_55 ⟨Nat.zero_le _, Nat.zero_le _⟩) hS (fun r25 u23 H locs w24 hG hS => ?_)
              obtain ⟨z_r25, n_r25, t_r25, w24⟩ := w24
              obtain ⟨eu27, hq26⟩ := w24
              rw [eu27] at hG
              rw [show g14 2 = (g 2) by rw [(show g14 2 = g3 2 from funext fun j => hf15 2 j (by decide) (by decide) (by decide) (by decide) (by decide) (by decide)), (show g3 2 = g 2 from funext fun j => hf4 2 j (by decide))]] at hq26
              refine ty_astore_nq (lv' := [(3, va_rf r25), (2, .int v2_46), (1, .int v1_46), (0, .ref h0)]) hx hb dX8_rush_58 rfl hl (by decide) rfl (fun ls hl => ?_)
              refine ty_aload_nq hx hb dX8_rush_59 rfl (lv_at hl 0 rfl) ?_
              refine ty_ifnonnull (tgt := 66) hx hb dX8_rush_60 (by decide) (fun b28 h29 => ?_) (fun h29 => ?_)
              · skip
                obtain ⟨t_b28, p_b28⟩ := t_r25 b28 h29
                clear t_r25 n_r25
                subst h29
                have hl : lv_has ls 5 [(3, .ref b28), (2, .int v2_46), (1, .int v1_46), (0, .ref h0)] := hl
                refine lv_aload_n hx hb dX8_rush_66 rfl (lv_at hl 0 rfl) ?_
                refine ty_iconst hx hb (0) dX8_rush_67 (by decide) (fun x30 h31 => ?_)
                refine put_X3_6 hx hb hA hown hE hG hS hU t_b28 wd_2_21 (by omega) dX8_rush_68 (fun H locs hG hS => ?_)
                refine lv_aload_n hx hb dX8_rush_71 rfl (lv_at hl 3 rfl) ?_
                refine lv_aload_n hx hb dX8_rush_72 rfl (lv_at hl 0 rfl) ?_
                have hk32 : g14 3 0 = g3 3 0 := hf15 3 0 (by decide) (by decide) (by decide) (by decide) (by decide) (by decide)
                have hk33 : g3 3 0 = g 3 0 := hf4 3 0 (by decide)
                have e34 : (gs g14 55 (z_r25).toNat x30.toInt) 3 0 = g14 3 0 := by rw [gs_c _ _ _ _ (by decide)]
                have hk35 : g14 35 0 = g3 35 0 := hf15 35 0 (by decide) (by decide) (by decide) (by decide) (by decide) (by decide)
                have hk36 : g3 35 0 = g 35 0 := hf4 35 0 (by decide)
                have e37 : (gs g14 55 (z_r25).toNat x30.toInt) 35 0 = g14 35 0 := by rw [gs_c _ _ _ _ (by decide)]
                refine cQ (va_runV (C := RX8) (As := [.ref b28]) (rest := []) ⟨hx, hb, hml, hown, hA⟩ (k_X8_bestBankedFor l dC dI dA sz X Γ hU (gs g14 55 (z_r25).toNat x30.toInt) h0 t_h0 b28 (z_r25).toNat t_b28   (by omega)) ⟨callB_of 1 hA (al_A wd_3_206) rfl rfl rfl (hA _ wd_1_1) (hA _ wd_3_203) (by decide +kernel) ⟨Nat.le_of_ble_eq_true rfl, Nat.le_of_ble_eq_true rfl⟩, hA _ wd_3_205, hA _ ws_29⟩ ⟨bl, recv_X8 hE hG t_h0, fun U hU9 hW9 => ⟨rfl, by rw [hU9]; exact hG, hE.go hS hU9 hW9⟩⟩ rfl rfl hl.1 rfl (lv_room (Nat.le_of_ble_eq_true rfl)) dX8_rush_73 ⟨Nat.zero_le _, Nat.zero_le _⟩) hS (fun r40 u38 H locs w39 hG hS => ?_)
                obtain ⟨z_r40, n_r40, t_r40, w39⟩ := w39
                obtain ⟨eu42, hq41⟩ := w39
                rw [eu42] at hG
                rw [show (gs g14 55 (z_r25).toNat x30.toInt) 65 = (g14 65) by rw [gs_r _ _ _ (by decide)]] at hq41
                rw [show (gs g14 55 (z_r25).toNat x30.toInt) 64 = (g 64) by rw [gs_r _ _ _ (by decide), (show g14 64 = g3 64 from funext fun j => hf15 64 j (by decide) (by decide) (by decide) (by decide) (by decide) (by decide)), (show g3 64 = g 64 from funext fun j => hf4 64 j (by decide))]] at hq41
                rw [show (gs g14 55 (z_r25).toNat x30.toInt) 61 = (g 61) by rw [gs_r _ _ _ (by decide), (show g14 61 = g3 61 from funext fun j => hf15 61 j (by decide) (by decide) (by decide) (by decide) (by decide) (by decide)), (show g3 61 = g 61 from funext fun j => hf4 61 j (by decide))]] at hq41
                rw [show (gs g14 55 (z_r25).toNat x30.toInt) 62 = (g 62) by rw [gs_r _ _ _ (by decide), (show g14 62 = g3 62 from funext fun j => hf15 62 j (by decide) (by decide) (by decide) (by decide) (by decide) (by decide)), (show g3 62 = g 62 from funext fun j => hf4 62 j (by decide))]] at hq41
                rw [show (gs g14 55 (z_r25).toNat x30.toInt) 41 = (g 41) by rw [gs_r _ _ _ (by decide), (show g14 41 = g3 41 from funext fun j => hf15 41 j (by decide) (by decide) (by decide) (by decide) (by decide) (by decide)), (show g3 41 = g 41 from funext fun j => hf4 41 j (by decide))]] at hq41
                rw [show (gs g14 55 (z_r25).toNat x30.toInt) 42 = (g 42) by rw [gs_r _ _ _ (by decide), (show g14 42 = g3 42 from funext fun j => hf15 42 j (by decide) (by decide) (by decide) (by decide) (by decide) (by decide)), (show g3 42 = g 42 from funext fun j => hf4 42 j (by decide))]] at hq41
                rw [show (gs g14 55 (z_r25).toNat x30.toInt) 51 = (g14 51) by rw [gs_r _ _ _ (by decide)]] at hq41
                rw [show (gs g14 55 (z_r25).toNat x30.toInt) 56 = (g14 56) by rw [gs_r _ _ _ (by decide)]] at hq41
                rw [show (gs g14 55 (z_r25).toNat x30.toInt) 3 = (g 3) by rw [gs_r _ _ _ (by decide), (show g14 3 = g3 3 from funext fun j => hf15 3 j (by decide) (by decide) (by decide) (by decide) (by decide) (by decide)), (show g3 3 = g 3 from funext fun j => hf4 3 j (by decide))]] at hq41
                refine ty_astoreq (lv' := [(4, va_rf r40), (3, .ref b28), (2, .int v2_46), (1, .int v1_46), (0, .ref h0)]) hx hb dX8_rush_76 hl (by decide) rfl (fun ls hl => ?_)
                refine ty_aloadq hx hb dX8_rush_78 (lv_at hl 0 rfl) ?_
                refine ty_ifnull (tgt := 111) hx hb dX8_rush_80 (by decide) (fun h44 => ?_) (fun b43 h44 => ?_)
                · skip
                  have hz45 := n_r40 h44
                  subst h44
                  have hl : lv_has ls 5 [(4, .null), (3, .ref b28), (2, .int v2_46), (1, .int v1_46), (0, .ref h0)] := hl
                  obtain ⟨x46, h47⟩ : ∃ y : Int32, y = v2_46 + Int32.ofInt (1) := ⟨_, rfl⟩
                  try have h48 : x46.toInt = v2_46.toInt + (1) := ty_inc h47 (by decide) (by omega) (by omega)
                  refine lv_iinc (v := x46) (lv' := [(2, .int x46), (4, .null), (3, .ref b28), (1, .int v1_46), (0, .ref h0)]) hx hb dX8_rush_111 hl (k := 2) rfl h47.symm (by decide) rfl (fun ls hl => ?_)
                  refine lv_goto (tgt := 46) hx hb dX8_rush_114 (by decide) ?_
                  have e49 : (gs g14 55 (z_r25).toNat x30.toInt) 2 0 = g14 2 0 := by rw [gs_c _ _ _ _ (by decide)]
                  exact ih_46 x46 v1_46 (gs g14 55 (z_r25).toNat x30.toInt) _ _ ls (by omega) (by omega) (by omega) (fun c j h51 h52 h55 h56 h65 h68 => by rw [gs_c _ _ _ _ h55, hf15 c j h51 h52 h55 h56 h65 h68]) (Eq.trans (ru_1 (t := (g 2 0 - x46.toInt).toNat) (t' := (g 2 0 - v2_46.toInt).toNat) (o := (z_r25)) (by omega) hq26 (by omega) (by rw [← hq41]; omega) (by rw [gs_r _ _ _ (by decide)] <;> exact pz_upc (by omega) (by omega)) (by rw [gs_r _ _ _ (by decide)] <;> exact pz_upc (by omega) (by omega)) (by rw [pz_gs] <;> exact pz_upc (by omega) (by omega)) (by rw [gs_r _ _ _ (by decide)] <;> exact pz_upc (by omega) (by omega)) (by rw [gs_r _ _ _ (by decide)] <;> exact pz_upc (by omega) (by omega)) (by rw [gs_r _ _ _ (by decide)] <;> exact pz_upc (by omega) (by omega)) (by omega)) hq0) hG hS (lv_sub hl [0, 3, 4] rfl)
                · skip
                  obtain ⟨t_b43, p_b43⟩ := t_r40 b43 h44
                  clear t_r40 n_r40
                  subst h44
                  have hl : lv_has ls 5 [(4, .ref b43), (3, .ref b28), (2, .int v2_46), (1, .int v1_46), (0, .ref h0)] := hl
                  refine lv_aload hx hb dX8_rush_83 (lv_at hl 0 rfl) ?_
                  refine lv_aload_n hx hb dX8_rush_85 rfl (lv_at hl 1 rfl) ?_
                  refine cV (va_runV (C := RX2) (As := [.ref b28]) (rest := []) ⟨hx, hb, hml, hown, hA⟩ (k_X2_goTo l dC dI dA sz X Γ hU (gs g14 55 (z_r25).toNat x30.toInt) b43 (z_r40).toNat t_b43 b28 (z_r25).toNat t_b28   ) ⟨callB_of 1 hA (al_A wd_3_194) rfl rfl rfl (hA _ wd_1_15) (hA _ wd_3_191) (by decide +kernel) ⟨Nat.le_of_ble_eq_true rfl, Nat.le_of_ble_eq_true rfl⟩, hA _ wd_3_192, hA _ wd_3_193⟩ ⟨bl, recv_X2 hE hG (by rw [t_b43]), fun U hU9 hW9 => ⟨rfl, by rw [hU9]; exact hG, hE.go hS hU9 hW9⟩⟩ rfl rfl hl.1 rfl (lv_room (Nat.le_of_ble_eq_true rfl)) dX8_rush_86 ⟨Nat.zero_le _, Nat.zero_le _⟩) hS (fun u50 H locs w51 hG hS => ?_)
                  obtain ⟨hf55, hq52, hq53, hq54⟩ := w51
                  have hn56 : (gs g14 55 (z_r25).toNat x30.toInt) 65 = (g14 65) := by rw [gs_r _ _ _ (by decide)]
                  rw [hn56] at hq52
                  have hn57 : (gs g14 55 (z_r25).toNat x30.toInt) 68 = (g14 68) := by rw [gs_r _ _ _ (by decide)]
                  rw [hn57] at hq53
                  have hn58 : (gs g14 55 (z_r25).toNat x30.toInt) 51 = (g14 51) := by rw [gs_r _ _ _ (by decide)]
                  rw [hn58] at hq54
                  have hn59 : (gs g14 55 (z_r25).toNat x30.toInt) 51 (z_r25).toNat = g14 51 (z_r25).toNat := by rw [gs_c _ _ _ _ (by decide)]
                  try rw [hn59] at hq54
                  have hn60 : (gs g14 55 (z_r25).toNat x30.toInt) 64 (z_r40).toNat = g 64 (z_r40).toNat := by rw [gs_c _ _ _ _ (by decide), hf15 64 (z_r40).toNat (by decide) (by decide) (by decide) (by decide) (by decide) (by decide), hf4 64 (z_r40).toNat (by decide)]
                  try rw [hn60] at hq54
                  refine lv_aload_n hx hb dX8_rush_89 rfl (lv_at hl 1 rfl) ?_
                  refine lv_dup hx hb dX8_rush_90 rfl ?_
                  refine get_X3_3 hx hb hA hown hE hG t_b28 wd_2_14 dX8_rush_91 (fun x61 h62 => ?_)
                  replace h62 : x61.toInt = g14 52 (z_r25).toNat := by rw [h62, hf55 52 (z_r25).toNat (by decide) (by decide) (by decide), gs_c _ _ _ _ (by decide)]
                  have hk64 : u50 52 (z_r25).toNat = (gs g14 55 (z_r25).toNat x30.toInt) 52 (z_r25).toNat := hf55 52 (z_r25).toNat (by decide) (by decide) (by decide)
                  replace hk64 : u50 52 (z_r25).toNat = g14 52 (z_r25).toNat := by rw [hk64, gs_c _ _ _ _ (by decide)]
                  refine lv_aload hx hb dX8_rush_94 (lv_at hl 0 rfl) ?_
                  refine get_X2_5 hx hb hA hown hE hG t_b43 wd_3_30 dX8_rush_96 (fun x65 h66 => ?_)
                  replace h66 : x65.toInt = g 64 (z_r40).toNat := by rw [h66, hf55 64 (z_r40).toNat (by decide) (by decide) (by decide), gs_c _ _ _ _ (by decide), hf15 64 (z_r40).toNat (by decide) (by decide) (by decide) (by decide) (by decide) (by decide), hf4 64 (z_r40).toNat (by decide)]
                  have hk68 : u50 64 (z_r40).toNat = (gs g14 55 (z_r25).toNat x30.toInt) 64 (z_r40).toNat := hf55 64 (z_r40).toNat (by decide) (by decide) (by decide)
                  replace hk68 : u50 64 (z_r40).toNat = g14 64 (z_r40).toNat := by rw [hk68, gs_c _ _ _ _ (by decide)]
                  have hk69 : g14 64 (z_r40).toNat = g3 64 (z_r40).toNat := hf15 64 (z_r40).toNat (by decide) (by decide) (by decide) (by decide) (by decide) (by decide)
                  have hk70 : g3 64 (z_r40).toNat = g 64 (z_r40).toNat := hf4 64 (z_r40).toNat (by decide)
                  refine ty_iadd hx hb dX8_rush_99 (fun x71 h72 => ?_)
                  have h73 : x71.toInt = wa (g14 52 (z_r25).toNat) (g 64 (z_r40).toNat) := by rw [ty_wa h72, h62, h66]
                  refine put_X3_3 hx hb hA hown hE hG hS hU t_b28 wd_2_14 dX8_rush_100 (fun H locs hG hS => ?_)
                  refine lv_aload_n hx hb dX8_rush_103 rfl (lv_at hl 1 rfl) ?_
                  refine lv_null hx hb dX8_rush_104 ?_
                  refine put_X3_7 (r := none) (z := (-1)) hx hb hA hown hE hG hS hU t_b28 wd_2_23 (fun _ => rfl) (fun _ h => by cases h) dX8_rush_105 (fun H locs hG hS => ?_)
                  obtain ⟨x74, h75⟩ : ∃ y : Int32, y = v1_46 + Int32.ofInt (1) := ⟨_, rfl⟩
                  try have h76 : x74.toInt = v1_46.toInt + (1) := ty_inc h75 (by decide) (by omega) (by omega)
                  refine lv_iinc (v := x74) (lv' := [(1, .int x74), (4, .ref b43), (3, .ref b28), (2, .int v2_46), (0, .ref h0)]) hx hb dX8_rush_108 hl (k := 3) rfl h75.symm (by decide) rfl (fun ls hl => ?_)
                  obtain ⟨x77, h78⟩ : ∃ y : Int32, y = v2_46 + Int32.ofInt (1) := ⟨_, rfl⟩
                  try have h79 : x77.toInt = v2_46.toInt + (1) := ty_inc h78 (by decide) (by omega) (by omega)
                  refine lv_iinc (v := x77) (lv' := [(2, .int x77), (1, .int x74), (4, .ref b43), (3, .ref b28), (0, .ref h0)]) hx hb dX8_rush_111 hl (k := 3) rfl h78.symm (by decide) rfl (fun ls hl => ?_)
                  refine lv_goto (tgt := 46) hx hb dX8_rush_114 (by decide) ?_
                  have hk80 : u50 2 0 = (gs g14 55 (z_r25).toNat x30.toInt) 2 0 := hf55 2 0 (by decide) (by decide) (by decide)
                  replace hk80 : u50 2 0 = g14 2 0 := by rw [hk80, gs_c _ _ _ _ (by decide)]
                  have e81 : (gs (gs u50 52 (z_r25).toNat x71.toInt) 56 (z_r25).toNat (-1)) 2 0 = u50 2 0 := by rw [gs_c _ _ _ _ (by decide), gs_c _ _ _ _ (by decide)]
                  exact ih_46 x77 x74 (gs (gs u50 52 (z_r25).toNat x71.toInt) 56 (z_r25).toNat (-1)) _ _ ls (by omega) (by omega) (by omega) (fun c j h51 h52 h55 h56 h65 h68 => by rw [gs_c _ _ _ _ h56, gs_c _ _ _ _ h52, hf55 c j h51 h65 h68, gs_c _ _ _ _ h55, hf15 c j h51 h52 h55 h56 h65 h68]) (Eq.trans (ru_2 (t := (g 2 0 - x77.toInt).toNat) (t' := (g 2 0 - v2_46.toInt).toNat) (o := (z_r25)) (k := (z_r40)) (by omega) hq26 (by omega) hq41 (by omega) (by rw [gs_r _ _ _ (by decide), gs_r _ _ _ (by decide), hq54] <;> exact pz_upc (by omega) (by omega)) (by rw [gs_r _ _ _ (by decide), pz_gs, (show u50 52 = (gs g14 55 (z_r25).toNat x30.toInt) 52 from funext fun j => hf55 52 j (by decide) (by decide) (by decide)), gs_r _ _ _ (by decide)] <;> exact pz_upc (by omega) (by omega)) (by rw [gs_r _ _ _ (by decide), gs_r _ _ _ (by decide), (show u50 55 = (gs g14 55 (z_r25).toNat x30.toInt) 55 from funext fun j => hf55 55 j (by decide) (by decide) (by decide)), pz_gs] <;> exact pz_upc (by omega) (by omega)) (by rw [pz_gs, gs_r _ _ _ (by decide), (show u50 56 = (gs g14 55 (z_r25).toNat x30.toInt) 56 from funext fun j => hf55 56 j (by decide) (by decide) (by decide)), gs_r _ _ _ (by decide)] <;> exact pz_upc (by omega) (by omega)) (by rw [gs_r _ _ _ (by decide), gs_r _ _ _ (by decide), hq52] <;> exact pz_upc (by omega) (by omega)) (by rw [gs_r _ _ _ (by decide), gs_r _ _ _ (by decide), hq53] <;> exact pz_upc (by omega) (by omega)) (by omega)) hq0) hG hS (lv_sub hl [0, 1, 4] rfl)
              · skip
                have hz82 := n_r25 h29
                subst h29
                have hl : lv_has ls 5 [(3, .null), (2, .int v2_46), (1, .int v1_46), (0, .ref h0)] := hl
                refine lv_goto (tgt := 117) hx hb dX8_rush_63 (by decide) ?_
                refine lv_iload_n hx hb dX8_rush_117 rfl (lv_at hl 2 rfl) ?_
                exact W.iret (v := v1_46) hx hb hr (fun t ht hW => ⟨⟨v1_46, g14, rfl, ⟨(fun c j h51 h52 h55 h56 h65 h68 => by rw [hf15 c j h51 h52 h55 h56 h65 h68, hf4 c j h55]), (by rw [← hq0]; exact (ru_no (by rw [← hq26]; omega)).symm)⟩, ok1 ht hG⟩, hS.F ht⟩) hS.2.2 dX8_rush_118
        exact L_46 ((g3 2 0 - x12.toInt) + 1).toNat x12 x10 g3 _ _ ls (by omega) (by omega) (by omega) (fun c j _ _ _ _ _ _ => rfl) (by rw [show (g 2 0 - x12.toInt).toNat = (g 2 0).toNat by omega]; exact congrArg (ru_f (g 64) (g 61) (g 62) (g 41) (g 42) ((g 3) 0).toNat ((g 2) 0).toNat (g 2 0).toNat) (pz_c7 (by rw [(show g3 51 = g 51 from funext fun j => hf4 51 j (by decide))]) (by rw [(show g3 52 = g 52 from funext fun j => hf4 52 j (by decide))]) (by rw [ha0, show v1_2.toInt.toNat = (g 2 0).toNat by omega]) (by rw [(show g3 56 = g 56 from funext fun j => hf4 56 j (by decide))]) (by rw [(show g3 65 = g 65 from funext fun j => hf4 65 j (by decide))]) (by rw [(show g3 68 = g 68 from funext fun j => hf4 68 j (by decide))]) (by omega))) hG hS (lv_sub hl [0, 1, 2] rfl)
      · skip
        refine lv_aload_n hx hb dX8_rush_10 rfl (lv_at hl 1 rfl) ?_
        refine get_X8_2 hx hb hA hown hE hG t_h0 wd_1_159 dX8_rush_11 (fun b83 (t_b83 : ty Γ b83 11) => ?_)
        refine lv_iload_n hx hb dX8_rush_14 rfl (lv_at hl 0 rfl) ?_
        refine ald_11 hx hb hE hG t_b83 (by omega) dX8_rush_15 (fun j85 r84 h86 t_r84 h87 => ?_)
        obtain rfl : j85 = v1_2.toInt.toNat := by omega
        have hk88 : g3 34 0 = g 34 0 := hf4 34 0 (by decide)
        obtain ⟨b89, h90⟩ := Option.ne_none_iff_exists'.mp (h87 (by omega))
        have t_b89 := t_r84 b89 h90
        clear h87 t_r84
        subst h90
        refine lv_aload_n hx hb dX8_rush_16 rfl (lv_at hl 1 rfl) ?_
        refine get_X8_2 hx hb hA hown hE hG t_h0 wd_1_159 dX8_rush_17 (fun b91 (t_b91 : ty Γ b91 11) => ?_)
        refine lv_iload_n hx hb dX8_rush_20 rfl (lv_at hl 0 rfl) ?_
        refine ald_11 hx hb hE hG t_b91 (by omega) dX8_rush_21 (fun j93 r92 h94 t_r92 h95 => ?_)
        obtain rfl : j93 = v1_2.toInt.toNat := by omega
        obtain ⟨b96, h97⟩ := Option.ne_none_iff_exists'.mp (h95 (by omega))
        have t_b96 := t_r92 b96 h97
        clear h95 t_r92
        subst h97
        refine get_X3_7 hx hb hA hown hE hG t_b96 wd_2_23 dX8_rush_22 (fun r98 n_r98 t_r98 => ?_)
        have hk99 : g3 56 v1_2.toInt.toNat = g 56 v1_2.toInt.toNat := hf4 56 v1_2.toInt.toNat (by decide)
        refine ty_ifnull (tgt := 32) hx hb dX8_rush_25 (by decide) (fun h101 => ?_) (fun b100 h101 => ?_)
        · skip
          have hz102 := n_r98 h101
          subst h101
          have hl : lv_has ls 5 [(1, .int v1_2), (0, .ref h0)] := hl
          refine ty_iconst hx hb (0) dX8_rush_32 (by decide) (fun x103 h104 => ?_)
          refine put_X3_6 hx hb hA hown hE hG hS hU t_b89 wd_2_21 (by omega) dX8_rush_33 (fun H locs hG hS => ?_)
          obtain ⟨x105, h106⟩ : ∃ y : Int32, y = v1_2 + Int32.ofInt (1) := ⟨_, rfl⟩
          try have h107 : x105.toInt = v1_2.toInt + (1) := ty_inc h106 (by decide) (by omega) (by omega)
          refine lv_iinc (v := x105) (lv' := [(1, .int x105), (0, .ref h0)]) hx hb dX8_rush_36 hl (k := 0) rfl h106.symm (by decide) rfl (fun ls hl => ?_)
          refine lv_goto (tgt := 2) hx hb dX8_rush_39 (by decide) ?_
          have e108 : (gs g3 55 v1_2.toInt.toNat x103.toInt) 2 0 = g3 2 0 := by rw [gs_c _ _ _ _ (by decide)]
          exact ih_2 x105 (gs g3 55 v1_2.toInt.toNat x103.toInt) _ _ ls (by omega) (by omega) (fun c j h55 => by rw [gs_c _ _ _ _ h55, hf4 c j h55]) (by rw [pz_gs]; exact il_s (by rw [if_neg (by omega)]; omega) (by omega) ha0) hG hS (lv_sub hl [0, 1] rfl)
        · skip
          obtain ⟨t_b100, p_b100⟩ := t_r98 b100 h101
          clear t_r98 n_r98
          subst h101
          have hl : lv_has ls 5 [(1, .int v1_2), (0, .ref h0)] := hl
          refine ty_iconst hx hb (1) dX8_rush_28 (by decide) (fun x109 h110 => ?_)
          refine lv_goto (tgt := 33) hx hb dX8_rush_29 (by decide) ?_
          refine put_X3_6 hx hb hA hown hE hG hS hU t_b89 wd_2_21 (by omega) dX8_rush_33 (fun H locs hG hS => ?_)
          obtain ⟨x111, h112⟩ : ∃ y : Int32, y = v1_2 + Int32.ofInt (1) := ⟨_, rfl⟩
          try have h113 : x111.toInt = v1_2.toInt + (1) := ty_inc h112 (by decide) (by omega) (by omega)
          refine lv_iinc (v := x111) (lv' := [(1, .int x111), (0, .ref h0)]) hx hb dX8_rush_36 hl (k := 0) rfl h112.symm (by decide) rfl (fun ls hl => ?_)
          refine lv_goto (tgt := 2) hx hb dX8_rush_39 (by decide) ?_
          have e114 : (gs g3 55 v1_2.toInt.toNat x109.toInt) 2 0 = g3 2 0 := by rw [gs_c _ _ _ _ (by decide)]
          exact ih_2 x111 (gs g3 55 v1_2.toInt.toNat x109.toInt) _ _ ls (by omega) (by omega) (fun c j h55 => by rw [gs_c _ _ _ _ h55, hf4 c j h55]) (by rw [pz_gs]; exact il_s (by rw [if_pos (by omega)]; omega) (by omega) ha0) hG hS (lv_sub hl [0, 1] rfl)
  exact L_2 ((g 2 0 - x1.toInt) + 1).toNat x1 g _ _ ls (by omega) (by omega) (fun c j _ => rfl) (il_0 (by omega)) hG hS (lv_sub hl [0, 1] rfl)

set_option maxHeartbeats 4000000 in
set_option maxRecDepth 100000 in
/-- WeekBank$FeeRounds.clear:  -/
theorem k_X0_clear (l : Launch) (dC : Nat → ClassId) (dI : Nat → Nat → Nat) (dA : Nat → ClassId) (sz : Nat) (X : va_W) (Γ : ty_G) (hU : Un Γ) (g : gh) (h0 : Nat) (t_h0 : ty Γ h0 9) : Met l yX0_clear (.code yX0_clear cX0_clear 1 (Option.none : Option Jvm.ClassFile.FieldType) :: AL) ({ frames := 0, cells := 0, slots := 0, locals := 0 }) (PCx dC dI dA sz X Γ g [.ref h0]) (va_Qv (fun (u : gh) => (∀ c j : Nat, c ≠ 30 → c ≠ 31 → c ≠ 32 → u c j = g c j) ∧ ((u 30 0 = 0) ∧ (u 31 0 = 0) ∧ (u 32 0 = 0))) (okb dC dI dA sz X Γ) (ty_A sz)) 0 0 (ty_A sz) := by
  refine Met.ofW (cc := cX0_clear) (maxL := 1) (ret := (Option.none : Option Jvm.ClassFile.FieldType)) (by decide) rfl ?_
  intro p e s m args below meth c s₁ B hml hv
  obtain ⟨rfl, hG, hE⟩ := hv
  have hx := B.exec
  have hb := B.bytes
  have hr := B.returns
  have hts := atoms_spec B.pre
  have hA : ∀ w ∈ AL, w.before _ s = true := fun w h => hts w (List.mem_cons_of_mem _ h)
  have hown : s.vm.findClass RX0 = some m.cls := findClass_of_methodNamed B.named
  have hlocks := B.notSynchronized
  have hS : va_S (ty_A sz) s.heap s.heap [] := va_S.rf
  have hl := lv_entry ([.ref h0]) (n := 1) (Nat.le_of_ble_eq_true rfl)
  rw [lg_entry_eq]
  generalize (lg_sl ([.ref h0]) ++ List.replicate (1 - (lg_sl ([.ref h0])).length) Slot.unset).toArray = ls at hl ⊢
  have hl : lv_has ls 1 [(0, .ref h0)] := hl
  refine lv_aload_n hx hb dX0_clear_0 rfl (lv_at hl 0 rfl) ?_
  refine ty_iconst hx hb (0) dX0_clear_1 (by decide) (fun x1 h2 => ?_)
  refine put_X0_3 hx hb hA hown hE hG hS hU t_h0 wd_1_138 dX0_clear_2 (fun H locs hG hS => ?_)
  refine lv_aload_n hx hb dX0_clear_5 rfl (lv_at hl 0 rfl) ?_
  refine ty_iconst hx hb (0) dX0_clear_6 (by decide) (fun x3 h4 => ?_)
  refine put_X0_4 hx hb hA hown hE hG hS hU t_h0 wd_1_139 dX0_clear_7 (fun H locs hG hS => ?_)
  refine lv_aload_n hx hb dX0_clear_10 rfl (lv_at hl 0 rfl) ?_
  refine ty_iconst hx hb (0) dX0_clear_11 (by decide) (fun x5 h6 => ?_)
  refine put_X0_5 hx hb hA hown hE hG hS hU t_h0 wd_1_141 dX0_clear_12 (fun H locs hG hS => ?_)
  generalize eg8 : (gs (gs (gs g 30 0 x1.toInt) 31 0 x3.toInt) 32 0 x5.toInt) = g7 at hG
  have hf9 : ∀ c j : Nat, c ≠ 30 → c ≠ 31 → c ≠ 32 → g7 c j = g c j := fun c j h30 h31 h32 => by rw [← eg8, gs_c _ _ _ _ h32, gs_c _ _ _ _ h31, gs_c _ _ _ _ h30]
  have v10 : g7 30 0 = x1.toInt := by rw [← eg8, gs_c _ _ _ _ (by decide), gs_c _ _ _ _ (by decide), gs_self]
  have v11 : g7 31 0 = x3.toInt := by rw [← eg8, gs_c _ _ _ _ (by decide), gs_self]
  have v12 : g7 32 0 = x5.toInt := by rw [← eg8, gs_self]
  exact W.vret hx hb hr (fun t ht hW => ⟨⟨g7, rfl, ⟨(fun c j h30 h31 h32 => by rw [hf9 c j h30 h31 h32]), (by omega)⟩, ok1 ht hG⟩, hS.F ht⟩) hS.2.2 dX0_clear_15

set_option maxHeartbeats 4000000 in
set_option maxRecDepth 100000 in
/-- WeekBank$FeeRounds.add:  -/
theorem k_X0_add (l : Launch) (dC : Nat → ClassId) (dI : Nat → Nat → Nat) (dA : Nat → ClassId) (sz : Nat) (X : va_W) (Γ : ty_G) (hU : Un Γ) (g : gh) (h0 : Nat) (t_h0 : ty Γ h0 9) (p1 : Int32) (p2 : Int32) (g9 : 0 ≤ g 30 0 ∧ g 30 0 ≤ 10) : Met l yX0_add (.code yX0_add cX0_add 3 (Option.none : Option Jvm.ClassFile.FieldType) :: AL) ({ frames := 0, cells := 0, slots := 0, locals := 0 }) (PCx dC dI dA sz X Γ g [.ref h0, .int p1, .int p2]) (va_Qv (fun (u : gh) => (∀ c j : Nat, c ≠ 30 → u c j = g c j) ∧ ((0 ≤ u 30 0 ∧ u 30 0 ≤ 10))) (okb dC dI dA sz X Γ) (ty_A sz)) 0 0 (ty_A sz) := by
  refine Met.ofW (cc := cX0_add) (maxL := 3) (ret := (Option.none : Option Jvm.ClassFile.FieldType)) (by decide) rfl ?_
  intro p e s m args below meth c s₁ B hml hv
  obtain ⟨rfl, hG, hE⟩ := hv
  have hx := B.exec
  have hb := B.bytes
  have hr := B.returns
  have hts := atoms_spec B.pre
  have hA : ∀ w ∈ AL, w.before _ s = true := fun w h => hts w (List.mem_cons_of_mem _ h)
  have hown : s.vm.findClass RX0 = some m.cls := findClass_of_methodNamed B.named
  have hlocks := B.notSynchronized
  have hS : va_S (ty_A sz) s.heap s.heap [] := va_S.rf
  have hl := lv_entry ([.ref h0, .int p1, .int p2]) (n := 3) (Nat.le_of_ble_eq_true rfl)
  rw [lg_entry_eq]
  generalize (lg_sl ([.ref h0, .int p1, .int p2]) ++ List.replicate (3 - (lg_sl ([.ref h0, .int p1, .int p2])).length) Slot.unset).toArray = ls at hl ⊢
  have hl : lv_has ls 3 [(0, .ref h0), (1, .int p1), (2, .int p2)] := hl
  refine lv_aload_n hx hb dX0_add_0 rfl (lv_at hl 0 rfl) ?_
  refine get_X0_3 hx hb hA hown hE hG t_h0 wd_1_138 dX0_add_1 (fun x1 h2 => ?_)
  refine ty_bipush hx hb (10) dX0_add_4 (by decide) (fun x4 h5 => ?_)
  refine ty_icmp_ge (tgt := 49) hx hb dX0_add_6 (by decide) (fun c6 => ?_) (fun c6 => ?_)
  · skip
    exact W.vret hx hb hr (fun t ht hW => ⟨⟨g, rfl, ⟨(fun c j h30 => by rfl), (by omega)⟩, ok1 ht hG⟩, hS.F ht⟩) hS.2.2 dX0_add_49
  · skip
    refine lv_aload_n hx hb dX0_add_9 rfl (lv_at hl 0 rfl) ?_
    refine get_X0_0 hx hb hA hown hE hG t_h0 wd_1_135 dX0_add_10 (fun b7 (t_b7 : ty Γ b7 23) => ?_)
    refine lv_aload_n hx hb dX0_add_13 rfl (lv_at hl 0 rfl) ?_
    refine get_X0_3 hx hb hA hown hE hG t_h0 wd_1_138 dX0_add_14 (fun x8 h9 => ?_)
    refine lv_iload_n hx hb dX0_add_17 rfl (lv_at hl 1 rfl) ?_
    refine ast_23 hx hb hE hG hS t_b7 (by omega) dX0_add_18 (fun H locs hG hS => ?_)
    refine lv_aload_n hx hb dX0_add_19 rfl (lv_at hl 0 rfl) ?_
    refine get_X0_1 hx hb hA hown hE hG t_h0 wd_1_136 dX0_add_20 (fun b11 (t_b11 : ty Γ b11 23) => ?_)
    refine lv_aload_n hx hb dX0_add_23 rfl (lv_at hl 0 rfl) ?_
    refine get_X0_3 hx hb hA hown hE hG t_h0 wd_1_138 dX0_add_24 (fun x12 h13 => ?_)
    refine lv_iload_n hx hb dX0_add_27 rfl (lv_at hl 2 rfl) ?_
    refine ast_23 hx hb hE hG hS t_b11 (by omega) dX0_add_28 (fun H locs hG hS => ?_)
    refine lv_aload_n hx hb dX0_add_29 rfl (lv_at hl 0 rfl) ?_
    refine get_X0_2 hx hb hA hown hE hG t_h0 wd_1_137 dX0_add_30 (fun b15 (t_b15 : ty Γ b15 24) => ?_)
    refine lv_aload_n hx hb dX0_add_33 rfl (lv_at hl 0 rfl) ?_
    refine get_X0_3 hx hb hA hown hE hG t_h0 wd_1_138 dX0_add_34 (fun x16 h17 => ?_)
    refine ty_iconst hx hb (0) dX0_add_37 (by decide) (fun x19 h20 => ?_)
    refine ast_24 hx hb hE hG hS t_b15 (by omega) (by omega) dX0_add_38 (fun H locs hG hS => ?_)
    refine lv_aload_n hx hb dX0_add_39 rfl (lv_at hl 0 rfl) ?_
    refine lv_dup hx hb dX0_add_40 rfl ?_
    refine get_X0_3 hx hb hA hown hE hG t_h0 wd_1_138 dX0_add_41 (fun x21 h22 => ?_)
    refine ty_iconst hx hb (1) dX0_add_44 (by decide) (fun x24 h25 => ?_)
    refine ty_iadd hx hb dX0_add_45 (fun x26 h27 => ?_)
    try have h28 : x26.toInt = x21.toInt + x24.toInt := ty_add h27 (by omega) (by omega)
    refine put_X0_3 hx hb hA hown hE hG hS hU t_h0 wd_1_138 dX0_add_46 (fun H locs hG hS => ?_)
    have e29 : (gs g 30 0 x26.toInt) 30 0 = x26.toInt := by rw [gs_self]
    exact W.vret hx hb hr (fun t ht hW => ⟨⟨(gs g 30 0 x26.toInt), rfl, ⟨(fun c j h30 => by rw [gs_c _ _ _ _ h30]), (by omega)⟩, ok1 ht hG⟩, hS.F ht⟩) hS.2.2 dX0_add_49

set_option maxHeartbeats 4000000 in
set_option maxRecDepth 100000 in
/-- WeekBank$FeeRounds.countOwned:  -/
theorem k_X0_countOwned (l : Launch) (dC : Nat → ClassId) (dI : Nat → Nat → Nat) (dA : Nat → ClassId) (sz : Nat) (X : va_W) (Γ : ty_G) (hU : Un Γ) (g : gh) (h0 : Nat) (t_h0 : ty Γ h0 9) (g9 : 0 ≤ g 30 0 ∧ g 30 0 ≤ 10) : Met l yX0_countOwned (.code yX0_countOwned cX0_countOwned 3 (Option.some Jvm.ClassFile.FieldType.int) :: AL) ({ frames := 0, cells := 0, slots := 0, locals := 0 }) (PCx dC dI dA sz X Γ g [.ref h0]) (va_Qi (fun (r : Int32) (u : gh) => u = g) (okb dC dI dA sz X Γ) (ty_A sz)) 0 0 (ty_A sz) := by
  refine Met.ofW (cc := cX0_countOwned) (maxL := 3) (ret := (Option.some Jvm.ClassFile.FieldType.int)) (by decide) rfl ?_
  intro p e s m args below meth c s₁ B hml hv
  obtain ⟨rfl, hG, hE⟩ := hv
  have hx := B.exec
  have hb := B.bytes
  have hr := B.returns
  have hts := atoms_spec B.pre
  have hA : ∀ w ∈ AL, w.before _ s = true := fun w h => hts w (List.mem_cons_of_mem _ h)
  have hown : s.vm.findClass RX0 = some m.cls := findClass_of_methodNamed B.named
  have hlocks := B.notSynchronized
  have hS : va_S (ty_A sz) s.heap s.heap [] := va_S.rf
  have hl := lv_entry ([.ref h0]) (n := 3) (Nat.le_of_ble_eq_true rfl)
  rw [lg_entry_eq]
  generalize (lg_sl ([.ref h0]) ++ List.replicate (3 - (lg_sl ([.ref h0])).length) Slot.unset).toArray = ls at hl ⊢
  have hl : lv_has ls 3 [(0, .ref h0)] := hl
  refine ty_iconst hx hb (0) dX0_countOwned_0 (by decide) (fun x1 h2 => ?_)
  refine lv_istore_n (lv' := [(1, .int x1), (0, .ref h0)]) hx hb dX0_countOwned_1 rfl hl (by decide) rfl (fun ls hl => ?_)
  refine ty_iconst hx hb (0) dX0_countOwned_2 (by decide) (fun x3 h4 => ?_)
  refine lv_istore_n (lv' := [(2, .int x3), (1, .int x1), (0, .ref h0)]) hx hb dX0_countOwned_3 rfl hl (by decide) rfl (fun ls hl => ?_)
  have L_4 : ∀ (n : Nat) (v2_4 : Int32) (v1_4 : Int32) (H : Heap) (locs : List Loc) (ls : Array Slot), (g 30 0 - v2_4.toInt : Int) < n → 0 ≤ v2_4.toInt ∧ v2_4.toInt ≤ g 30 0 → ty_ok (dC, dI) vwCl Γ (TP dA Γ g) sz X H → va_S (ty_A sz) s.heap H locs → lv_has ls 3 [(2, .int v2_4), (1, .int v1_4), (0, .ref h0)] → W p l e (headSpec (.code yX0_countOwned cX0_countOwned 3 (Option.some Jvm.ClassFile.FieldType.int) :: AL) ({ frames := 0, cells := 0, slots := 0, locals := 0 })).room s m ([.ref h0] : List Value).toArray below meth c H locs 0 0 (MQ below (va_Qi (fun (r : Int32) (u : gh) => u = g) (okb dC dI dA sz X Γ) (ty_A sz)) ([.ref h0] : List Value).toArray s 0 0 (ty_A sz)) (F0 m 4 ls []) := by
    intro n
    induction n with
    | zero => intro v2_4 v1_4 H locs ls hm hi0 hG hS hl; exfalso; omega
    | succ n ih_4 =>
      intro v2_4 v1_4 H locs ls hm hi0 hG hS hl
      refine lv_iload_n hx hb dX0_countOwned_4 rfl (lv_at hl 0 rfl) ?_
      refine lv_aload_n hx hb dX0_countOwned_5 rfl (lv_at hl 2 rfl) ?_
      refine get_X0_3 hx hb hA hown hE hG t_h0 wd_1_138 dX0_countOwned_6 (fun x6 h7 => ?_)
      refine ty_icmp_ge (tgt := 36) hx hb dX0_countOwned_9 (by decide) (fun c9 => ?_) (fun c9 => ?_)
      · skip
        refine lv_iload_n hx hb dX0_countOwned_36 rfl (lv_at hl 1 rfl) ?_
        exact W.iret (v := v1_4) hx hb hr (fun t ht hW => ⟨⟨v1_4, g, rfl, rfl, ok1 ht hG⟩, hS.F ht⟩) hS.2.2 dX0_countOwned_37
      · skip
        refine lv_aload_n hx hb dX0_countOwned_12 rfl (lv_at hl 2 rfl) ?_
        refine get_X0_2 hx hb hA hown hE hG t_h0 wd_1_137 dX0_countOwned_13 (fun b10 (t_b10 : ty Γ b10 24) => ?_)
        refine lv_iload_n hx hb dX0_countOwned_16 rfl (lv_at hl 0 rfl) ?_
        refine ald_24 hx hb hE hG t_b10 (by omega) dX0_countOwned_17 (fun j12 x11 h13 h14 => ?_)
        refine ty_if_ne (tgt := 30) hx hb dX0_countOwned_18 (by decide) (fun c15 => ?_) (fun c15 => ?_)
        · skip
          obtain ⟨x16, h17⟩ : ∃ y : Int32, y = v2_4 + Int32.ofInt (1) := ⟨_, rfl⟩
          try have h18 : x16.toInt = v2_4.toInt + (1) := ty_inc h17 (by decide) (by omega) (by omega)
          refine lv_iinc (v := x16) (lv' := [(2, .int x16), (1, .int v1_4), (0, .ref h0)]) hx hb dX0_countOwned_30 hl (k := 0) rfl h17.symm (by decide) rfl (fun ls hl => ?_)
          refine lv_goto (tgt := 4) hx hb dX0_countOwned_33 (by decide) ?_
          exact ih_4 x16 v1_4 _ _ ls (by omega) (by omega) hG hS (lv_sub hl [0, 1, 2] rfl)
        · skip
          refine lv_iload_n hx hb dX0_countOwned_21 rfl (lv_at hl 1 rfl) ?_
          refine lv_aload_n hx hb dX0_countOwned_22 rfl (lv_at hl 2 rfl) ?_
          refine get_X0_1 hx hb hA hown hE hG t_h0 wd_1_136 dX0_countOwned_23 (fun b19 (t_b19 : ty Γ b19 23) => ?_)
          refine lv_iload_n hx hb dX0_countOwned_26 rfl (lv_at hl 0 rfl) ?_
          refine ald_23 hx hb hE hG t_b19 (by omega) dX0_countOwned_27 (fun j21 x20 h22 => ?_)
          refine ty_iadd hx hb dX0_countOwned_28 (fun x24 h25 => ?_)
          try have h26 : x24.toInt = v1_4.toInt + x20.toInt := ty_add h25 (by omega) (by omega)
          refine lv_istore_n (lv' := [(1, .int x24), (2, .int v2_4), (0, .ref h0)]) hx hb dX0_countOwned_29 rfl hl (by decide) rfl (fun ls hl => ?_)
          obtain ⟨x27, h28⟩ : ∃ y : Int32, y = v2_4 + Int32.ofInt (1) := ⟨_, rfl⟩
          try have h29 : x27.toInt = v2_4.toInt + (1) := ty_inc h28 (by decide) (by omega) (by omega)
          refine lv_iinc (v := x27) (lv' := [(2, .int x27), (1, .int x24), (0, .ref h0)]) hx hb dX0_countOwned_30 hl (k := 1) rfl h28.symm (by decide) rfl (fun ls hl => ?_)
          refine lv_goto (tgt := 4) hx hb dX0_countOwned_33 (by decide) ?_
          exact ih_4 x27 x24 _ _ ls (by omega) (by omega) hG hS (lv_sub hl [0, 1, 2] rfl)
  exact L_4 ((g 30 0 - x3.toInt) + 1).toNat x3 x1 _ _ ls (by omega) (by omega) hG hS (lv_sub hl [0, 1, 2] rfl)

set_option maxHeartbeats 4000000 in
set_option maxRecDepth 100000 in
/-- WeekBank$FeeRounds.countStaying:  -/
theorem k_X0_countStaying (l : Launch) (dC : Nat → ClassId) (dI : Nat → Nat → Nat) (dA : Nat → ClassId) (sz : Nat) (X : va_W) (Γ : ty_G) (hU : Un Γ) (g : gh) (h0 : Nat) (t_h0 : ty Γ h0 9) (g9 : 0 ≤ g 30 0 ∧ g 30 0 ≤ 10) : Met l yX0_countStaying (.code yX0_countStaying cX0_countStaying 3 (Option.some Jvm.ClassFile.FieldType.int) :: AL) ({ frames := 0, cells := 0, slots := 0, locals := 0 }) (PCx dC dI dA sz X Γ g [.ref h0]) (va_Qi (fun (r : Int32) (u : gh) => u = g) (okb dC dI dA sz X Γ) (ty_A sz)) 0 0 (ty_A sz) := by
  refine Met.ofW (cc := cX0_countStaying) (maxL := 3) (ret := (Option.some Jvm.ClassFile.FieldType.int)) (by decide) rfl ?_
  intro p e s m args below meth c s₁ B hml hv
  obtain ⟨rfl, hG, hE⟩ := hv
  have hx := B.exec
  have hb := B.bytes
  have hr := B.returns
  have hts := atoms_spec B.pre
  have hA : ∀ w ∈ AL, w.before _ s = true := fun w h => hts w (List.mem_cons_of_mem _ h)
  have hown : s.vm.findClass RX0 = some m.cls := findClass_of_methodNamed B.named
  have hlocks := B.notSynchronized
  have hS : va_S (ty_A sz) s.heap s.heap [] := va_S.rf
  have hl := lv_entry ([.ref h0]) (n := 3) (Nat.le_of_ble_eq_true rfl)
  rw [lg_entry_eq]
  generalize (lg_sl ([.ref h0]) ++ List.replicate (3 - (lg_sl ([.ref h0])).length) Slot.unset).toArray = ls at hl ⊢
  have hl : lv_has ls 3 [(0, .ref h0)] := hl
  refine ty_iconst hx hb (0) dX0_countStaying_0 (by decide) (fun x1 h2 => ?_)
  refine lv_istore_n (lv' := [(1, .int x1), (0, .ref h0)]) hx hb dX0_countStaying_1 rfl hl (by decide) rfl (fun ls hl => ?_)
  refine ty_iconst hx hb (0) dX0_countStaying_2 (by decide) (fun x3 h4 => ?_)
  refine lv_istore_n (lv' := [(2, .int x3), (1, .int x1), (0, .ref h0)]) hx hb dX0_countStaying_3 rfl hl (by decide) rfl (fun ls hl => ?_)
  have L_4 : ∀ (n : Nat) (v2_4 : Int32) (v1_4 : Int32) (H : Heap) (locs : List Loc) (ls : Array Slot), (g 30 0 - v2_4.toInt : Int) < n → 0 ≤ v2_4.toInt ∧ v2_4.toInt ≤ g 30 0 → ty_ok (dC, dI) vwCl Γ (TP dA Γ g) sz X H → va_S (ty_A sz) s.heap H locs → lv_has ls 3 [(2, .int v2_4), (1, .int v1_4), (0, .ref h0)] → W p l e (headSpec (.code yX0_countStaying cX0_countStaying 3 (Option.some Jvm.ClassFile.FieldType.int) :: AL) ({ frames := 0, cells := 0, slots := 0, locals := 0 })).room s m ([.ref h0] : List Value).toArray below meth c H locs 0 0 (MQ below (va_Qi (fun (r : Int32) (u : gh) => u = g) (okb dC dI dA sz X Γ) (ty_A sz)) ([.ref h0] : List Value).toArray s 0 0 (ty_A sz)) (F0 m 4 ls []) := by
    intro n
    induction n with
    | zero => intro v2_4 v1_4 H locs ls hm hi0 hG hS hl; exfalso; omega
    | succ n ih_4 =>
      intro v2_4 v1_4 H locs ls hm hi0 hG hS hl
      refine lv_iload_n hx hb dX0_countStaying_4 rfl (lv_at hl 0 rfl) ?_
      refine lv_aload_n hx hb dX0_countStaying_5 rfl (lv_at hl 2 rfl) ?_
      refine get_X0_3 hx hb hA hown hE hG t_h0 wd_1_138 dX0_countStaying_6 (fun x6 h7 => ?_)
      refine ty_icmp_ge (tgt := 39) hx hb dX0_countStaying_9 (by decide) (fun c9 => ?_) (fun c9 => ?_)
      · skip
        refine lv_iload_n hx hb dX0_countStaying_39 rfl (lv_at hl 1 rfl) ?_
        exact W.iret (v := v1_4) hx hb hr (fun t ht hW => ⟨⟨v1_4, g, rfl, rfl, ok1 ht hG⟩, hS.F ht⟩) hS.2.2 dX0_countStaying_40
      · skip
        refine lv_aload_n hx hb dX0_countStaying_12 rfl (lv_at hl 2 rfl) ?_
        refine get_X0_2 hx hb hA hown hE hG t_h0 wd_1_137 dX0_countStaying_13 (fun b10 (t_b10 : ty Γ b10 24) => ?_)
        refine lv_iload_n hx hb dX0_countStaying_16 rfl (lv_at hl 0 rfl) ?_
        refine ald_24 hx hb hE hG t_b10 (by omega) dX0_countStaying_17 (fun j12 x11 h13 h14 => ?_)
        refine ty_if_ne (tgt := 33) hx hb dX0_countStaying_18 (by decide) (fun c15 => ?_) (fun c15 => ?_)
        · skip
          obtain ⟨x16, h17⟩ : ∃ y : Int32, y = v2_4 + Int32.ofInt (1) := ⟨_, rfl⟩
          try have h18 : x16.toInt = v2_4.toInt + (1) := ty_inc h17 (by decide) (by omega) (by omega)
          refine lv_iinc (v := x16) (lv' := [(2, .int x16), (1, .int v1_4), (0, .ref h0)]) hx hb dX0_countStaying_33 hl (k := 0) rfl h17.symm (by decide) rfl (fun ls hl => ?_)
          refine lv_goto (tgt := 4) hx hb dX0_countStaying_36 (by decide) ?_
          exact ih_4 x16 v1_4 _ _ ls (by omega) (by omega) hG hS (lv_sub hl [0, 1, 2] rfl)
        · skip
          refine lv_aload_n hx hb dX0_countStaying_21 rfl (lv_at hl 2 rfl) ?_
          refine get_X0_1 hx hb hA hown hE hG t_h0 wd_1_136 dX0_countStaying_22 (fun b19 (t_b19 : ty Γ b19 23) => ?_)
          refine lv_iload_n hx hb dX0_countStaying_25 rfl (lv_at hl 0 rfl) ?_
          refine ald_23 hx hb hE hG t_b19 (by omega) dX0_countStaying_26 (fun j21 x20 h22 => ?_)
          refine ty_if_le (tgt := 33) hx hb dX0_countStaying_27 (by decide) (fun c24 => ?_) (fun c24 => ?_)
          · skip
            obtain ⟨x25, h26⟩ : ∃ y : Int32, y = v2_4 + Int32.ofInt (1) := ⟨_, rfl⟩
            try have h27 : x25.toInt = v2_4.toInt + (1) := ty_inc h26 (by decide) (by omega) (by omega)
            refine lv_iinc (v := x25) (lv' := [(2, .int x25), (1, .int v1_4), (0, .ref h0)]) hx hb dX0_countStaying_33 hl (k := 0) rfl h26.symm (by decide) rfl (fun ls hl => ?_)
            refine lv_goto (tgt := 4) hx hb dX0_countStaying_36 (by decide) ?_
            exact ih_4 x25 v1_4 _ _ ls (by omega) (by omega) hG hS (lv_sub hl [0, 1, 2] rfl)
          · skip
            obtain ⟨x28, h29⟩ : ∃ y : Int32, y = v1_4 + Int32.ofInt (1) := ⟨_, rfl⟩
            try have h30 : x28.toInt = v1_4.toInt + (1) := ty_inc h29 (by decide) (by omega) (by omega)
            refine lv_iinc (v := x28) (lv' := [(1, .int x28), (2, .int v2_4), (0, .ref h0)]) hx hb dX0_countStaying_30 hl (k := 1) rfl h29.symm (by decide) rfl (fun ls hl => ?_)
            obtain ⟨x31, h32⟩ : ∃ y : Int32, y = v2_4 + Int32.ofInt (1) := ⟨_, rfl⟩
            try have h33 : x31.toInt = v2_4.toInt + (1) := ty_inc h32 (by decide) (by omega) (by omega)
            refine lv_iinc (v := x31) (lv' := [(2, .int x31), (1, .int x28), (0, .ref h0)]) hx hb dX0_countStaying_33 hl (k := 1) rfl h32.symm (by decide) rfl (fun ls hl => ?_)
            refine lv_goto (tgt := 4) hx hb dX0_countStaying_36 (by decide) ?_
            exact ih_4 x31 x28 _ _ ls (by omega) (by omega) hG hS (lv_sub hl [0, 1, 2] rfl)
  exact L_4 ((g 30 0 - x3.toInt) + 1).toNat x3 x1 _ _ ls (by omega) (by omega) hG hS (lv_sub hl [0, 1, 2] rfl)

set_option maxHeartbeats 4000000 in
set_option maxRecDepth 100000 in
/-- WeekBank$FeeRounds.someLeave:  -/
theorem k_X0_someLeave (l : Launch) (dC : Nat → ClassId) (dI : Nat → Nat → Nat) (dA : Nat → ClassId) (sz : Nat) (X : va_W) (Γ : ty_G) (hU : Un Γ) (g : gh) (h0 : Nat) (t_h0 : ty Γ h0 9) (g9 : 0 ≤ g 30 0 ∧ g 30 0 ≤ 10) : Met l yX0_someLeave (.code yX0_someLeave cX0_someLeave 3 (Option.some Jvm.ClassFile.FieldType.boolean) :: AL) ({ frames := 0, cells := 0, slots := 0, locals := 0 }) (PCx dC dI dA sz X Γ g [.ref h0]) (va_Qi (fun (r : Int32) (u : gh) => u = g) (okb dC dI dA sz X Γ) (ty_A sz)) 0 0 (ty_A sz) := by
  refine Met.ofW (cc := cX0_someLeave) (maxL := 3) (ret := (Option.some Jvm.ClassFile.FieldType.boolean)) (by decide) rfl ?_
  intro p e s m args below meth c s₁ B hml hv
  obtain ⟨rfl, hG, hE⟩ := hv
  have hx := B.exec
  have hb := B.bytes
  have hr := B.returns
  have hts := atoms_spec B.pre
  have hA : ∀ w ∈ AL, w.before _ s = true := fun w h => hts w (List.mem_cons_of_mem _ h)
  have hown : s.vm.findClass RX0 = some m.cls := findClass_of_methodNamed B.named
  have hlocks := B.notSynchronized
  have hS : va_S (ty_A sz) s.heap s.heap [] := va_S.rf
  have hl := lv_entry ([.ref h0]) (n := 3) (Nat.le_of_ble_eq_true rfl)
  rw [lg_entry_eq]
  generalize (lg_sl ([.ref h0]) ++ List.replicate (3 - (lg_sl ([.ref h0])).length) Slot.unset).toArray = ls at hl ⊢
  have hl : lv_has ls 3 [(0, .ref h0)] := hl
  refine ty_iconst hx hb (0) dX0_someLeave_0 (by decide) (fun x1 h2 => ?_)
  refine lv_istore_n (lv' := [(1, .int x1), (0, .ref h0)]) hx hb dX0_someLeave_1 rfl hl (by decide) rfl (fun ls hl => ?_)
  refine ty_iconst hx hb (0) dX0_someLeave_2 (by decide) (fun x3 h4 => ?_)
  refine lv_istore_n (lv' := [(2, .int x3), (1, .int x1), (0, .ref h0)]) hx hb dX0_someLeave_3 rfl hl (by decide) rfl (fun ls hl => ?_)
  have L_4 : ∀ (n : Nat) (v2_4 : Int32) (v1_4 : Int32) (H : Heap) (locs : List Loc) (ls : Array Slot), (g 30 0 - v2_4.toInt : Int) < n → 0 ≤ v2_4.toInt ∧ v2_4.toInt ≤ g 30 0 → v1_4.toInt = 0 ∨ v1_4.toInt = 1 → ty_ok (dC, dI) vwCl Γ (TP dA Γ g) sz X H → va_S (ty_A sz) s.heap H locs → lv_has ls 3 [(2, .int v2_4), (1, .int v1_4), (0, .ref h0)] → W p l e (headSpec (.code yX0_someLeave cX0_someLeave 3 (Option.some Jvm.ClassFile.FieldType.boolean) :: AL) ({ frames := 0, cells := 0, slots := 0, locals := 0 })).room s m ([.ref h0] : List Value).toArray below meth c H locs 0 0 (MQ below (va_Qi (fun (r : Int32) (u : gh) => u = g) (okb dC dI dA sz X Γ) (ty_A sz)) ([.ref h0] : List Value).toArray s 0 0 (ty_A sz)) (F0 m 4 ls []) := by
    intro n
    induction n with
    | zero => intro v2_4 v1_4 H locs ls hm hi0 hi1 hG hS hl; exfalso; omega
    | succ n ih_4 =>
      intro v2_4 v1_4 H locs ls hm hi0 hi1 hG hS hl
      refine lv_iload_n hx hb dX0_someLeave_4 rfl (lv_at hl 0 rfl) ?_
      refine lv_aload_n hx hb dX0_someLeave_5 rfl (lv_at hl 2 rfl) ?_
      refine get_X0_3 hx hb hA hown hE hG t_h0 wd_1_138 dX0_someLeave_6 (fun x6 h7 => ?_)
      refine ty_icmp_ge (tgt := 49) hx hb dX0_someLeave_9 (by decide) (fun c9 => ?_) (fun c9 => ?_)
      · skip
        refine lv_iload_n hx hb dX0_someLeave_49 rfl (lv_at hl 1 rfl) ?_
        exact W.zret (v := v1_4) hx hb hr (ty_nb (by omega)).1 (fun t ht hW => ⟨⟨v1_4, g, rfl, rfl, ok1 ht hG⟩, hS.F ht⟩) hS.2.2 dX0_someLeave_50
      · skip
        refine lv_aload_n hx hb dX0_someLeave_12 rfl (lv_at hl 2 rfl) ?_
        refine get_X0_2 hx hb hA hown hE hG t_h0 wd_1_137 dX0_someLeave_13 (fun b10 (t_b10 : ty Γ b10 24) => ?_)
        refine lv_iload_n hx hb dX0_someLeave_16 rfl (lv_at hl 0 rfl) ?_
        refine ald_24 hx hb hE hG t_b10 (by omega) dX0_someLeave_17 (fun j12 x11 h13 h14 => ?_)
        refine ty_if_ne (tgt := 43) hx hb dX0_someLeave_18 (by decide) (fun c15 => ?_) (fun c15 => ?_)
        · skip
          obtain ⟨x16, h17⟩ : ∃ y : Int32, y = v2_4 + Int32.ofInt (1) := ⟨_, rfl⟩
          try have h18 : x16.toInt = v2_4.toInt + (1) := ty_inc h17 (by decide) (by omega) (by omega)
          refine lv_iinc (v := x16) (lv' := [(2, .int x16), (1, .int v1_4), (0, .ref h0)]) hx hb dX0_someLeave_43 hl (k := 0) rfl h17.symm (by decide) rfl (fun ls hl => ?_)
          refine lv_goto (tgt := 4) hx hb dX0_someLeave_46 (by decide) ?_
          exact ih_4 x16 v1_4 _ _ ls (by omega) (by omega) (by omega) hG hS (lv_sub hl [0, 1, 2] rfl)
        · skip
          refine lv_aload_n hx hb dX0_someLeave_21 rfl (lv_at hl 2 rfl) ?_
          refine get_X0_0 hx hb hA hown hE hG t_h0 wd_1_135 dX0_someLeave_22 (fun b19 (t_b19 : ty Γ b19 23) => ?_)
          refine lv_iload_n hx hb dX0_someLeave_25 rfl (lv_at hl 0 rfl) ?_
          refine ald_23 hx hb hE hG t_b19 (by omega) dX0_someLeave_26 (fun j21 x20 h22 => ?_)
          refine lv_aload_n hx hb dX0_someLeave_27 rfl (lv_at hl 2 rfl) ?_
          refine get_X0_4 hx hb hA hown hE hG t_h0 wd_1_139 dX0_someLeave_28 (fun x24 h25 => ?_)
          refine ty_icmp_ge (tgt := 43) hx hb dX0_someLeave_31 (by decide) (fun c27 => ?_) (fun c27 => ?_)
          · skip
            obtain ⟨x28, h29⟩ : ∃ y : Int32, y = v2_4 + Int32.ofInt (1) := ⟨_, rfl⟩
            try have h30 : x28.toInt = v2_4.toInt + (1) := ty_inc h29 (by decide) (by omega) (by omega)
            refine lv_iinc (v := x28) (lv' := [(2, .int x28), (1, .int v1_4), (0, .ref h0)]) hx hb dX0_someLeave_43 hl (k := 0) rfl h29.symm (by decide) rfl (fun ls hl => ?_)
            refine lv_goto (tgt := 4) hx hb dX0_someLeave_46 (by decide) ?_
            exact ih_4 x28 v1_4 _ _ ls (by omega) (by omega) (by omega) hG hS (lv_sub hl [0, 1, 2] rfl)
          · skip
            refine lv_aload_n hx hb dX0_someLeave_34 rfl (lv_at hl 2 rfl) ?_
            refine get_X0_2 hx hb hA hown hE hG t_h0 wd_1_137 dX0_someLeave_35 (fun b31 (t_b31 : ty Γ b31 24) => ?_)
            refine lv_iload_n hx hb dX0_someLeave_38 rfl (lv_at hl 0 rfl) ?_
            refine ty_iconst hx hb (1) dX0_someLeave_39 (by decide) (fun x32 h33 => ?_)
            refine ast_24 hx hb hE hG hS t_b31 (by omega) (by omega) dX0_someLeave_40 (fun H locs hG hS => ?_)
            refine ty_iconst hx hb (1) dX0_someLeave_41 (by decide) (fun x34 h35 => ?_)
            refine lv_istore_n (lv' := [(1, .int x34), (2, .int v2_4), (0, .ref h0)]) hx hb dX0_someLeave_42 rfl hl (by decide) rfl (fun ls hl => ?_)
            obtain ⟨x36, h37⟩ : ∃ y : Int32, y = v2_4 + Int32.ofInt (1) := ⟨_, rfl⟩
            try have h38 : x36.toInt = v2_4.toInt + (1) := ty_inc h37 (by decide) (by omega) (by omega)
            refine lv_iinc (v := x36) (lv' := [(2, .int x36), (1, .int x34), (0, .ref h0)]) hx hb dX0_someLeave_43 hl (k := 1) rfl h37.symm (by decide) rfl (fun ls hl => ?_)
            refine lv_goto (tgt := 4) hx hb dX0_someLeave_46 (by decide) ?_
            exact ih_4 x36 x34 _ _ ls (by omega) (by omega) (by omega) hG hS (lv_sub hl [0, 1, 2] rfl)
  exact L_4 ((g 30 0 - x3.toInt) + 1).toNat x3 x1 _ _ ls (by omega) (by omega) (by omega) hG hS (lv_sub hl [0, 1, 2] rfl)

set_option maxHeartbeats 4000000 in
set_option maxRecDepth 100000 in
/-- WeekBank$FeeRounds.reckon:  -/
theorem k_X0_reckon (l : Launch) (dC : Nat → ClassId) (dI : Nat → Nat → Nat) (dA : Nat → ClassId) (sz : Nat) (X : va_W) (Γ : ty_G) (hU : Un Γ) (g : gh) (h0 : Nat) (t_h0 : ty Γ h0 9) (p1 : Int32) (g9 : 0 ≤ g 30 0 ∧ g 30 0 ≤ 10) : Met l yX0_reckon (.code yX0_reckon cX0_reckon 4 (Option.none : Option Jvm.ClassFile.FieldType) :: AL) ({ frames := 1, cells := 0, slots := 0, locals := 22 }) (PCx dC dI dA sz X Γ g [.ref h0, .int p1]) (va_Qv (fun (u : gh) => (∀ c j : Nat, c ≠ 31 → c ≠ 32 → u c j = g c j)) (okb dC dI dA sz X Γ) (ty_A sz)) 0 0 (ty_A sz) := by
  refine Met.ofW (cc := cX0_reckon) (maxL := 4) (ret := (Option.none : Option Jvm.ClassFile.FieldType)) (by decide) rfl ?_
  intro p e s m args below meth c s₁ B hml hv
  obtain ⟨rfl, hG, hE⟩ := hv
  have hx := B.exec
  have hb := B.bytes
  have hr := B.returns
  have hts := atoms_spec B.pre
  have hA : ∀ w ∈ AL, w.before _ s = true := fun w h => hts w (List.mem_cons_of_mem _ h)
  have hown : s.vm.findClass RX0 = some m.cls := findClass_of_methodNamed B.named
  have hlocks := B.notSynchronized
  have hS : va_S (ty_A sz) s.heap s.heap [] := va_S.rf
  have hl := lv_entry ([.ref h0, .int p1]) (n := 4) (Nat.le_of_ble_eq_true rfl)
  rw [lg_entry_eq]
  generalize (lg_sl ([.ref h0, .int p1]) ++ List.replicate (4 - (lg_sl ([.ref h0, .int p1])).length) Slot.unset).toArray = ls at hl ⊢
  have hl : lv_has ls 4 [(0, .ref h0), (1, .int p1)] := hl
  refine ty_iconst hx hb (0) dX0_reckon_0 (by decide) (fun x1 h2 => ?_)
  refine lv_istore_n (lv' := [(2, .int x1), (0, .ref h0), (1, .int p1)]) hx hb dX0_reckon_1 rfl hl (by decide) rfl (fun ls hl => ?_)
  have L_2 : ∀ (n : Nat) (v2_2 : Int32) (g3 : gh) (H : Heap) (locs : List Loc) (ls : Array Slot), (11 - v2_2.toInt : Int) < n → 0 ≤ v2_2.toInt ∧ v2_2.toInt ≤ 11 → (∀ c j : Nat, c ≠ 31 → c ≠ 32 → g3 c j = g c j) → ty_ok (dC, dI) vwCl Γ (TP dA Γ g3) sz X H → va_S (ty_A sz) s.heap H locs → lv_has ls 4 [(2, .int v2_2), (0, .ref h0), (1, .int p1)] → W p l e (headSpec (.code yX0_reckon cX0_reckon 4 (Option.none : Option Jvm.ClassFile.FieldType) :: AL) ({ frames := 1, cells := 0, slots := 0, locals := 22 })).room s m ([.ref h0, .int p1] : List Value).toArray below meth c H locs 0 0 (MQ below (va_Qv (fun (u : gh) => (∀ c j : Nat, c ≠ 31 → c ≠ 32 → u c j = g c j)) (okb dC dI dA sz X Γ) (ty_A sz)) ([.ref h0, .int p1] : List Value).toArray s 0 0 (ty_A sz)) (F0 m 2 ls []) := by
    intro n
    induction n with
    | zero => intro v2_2 g3 H locs ls hm hi0 hf4 hG hS hl; exfalso; omega
    | succ n ih_2 =>
      intro v2_2 g3 H locs ls hm hi0 hf4 hG hS hl
      refine lv_iload_n hx hb dX0_reckon_2 rfl (lv_at hl 0 rfl) ?_
      refine ty_bipush hx hb (10) dX0_reckon_3 (by decide) (fun x5 h6 => ?_)
      refine ty_icmp_gt (tgt := 58) hx hb dX0_reckon_5 (by decide) (fun c7 => ?_) (fun c7 => ?_)
      · skip
        exact W.vret hx hb hr (fun t ht hW => ⟨⟨g3, rfl, (fun c j h31 h32 => by rw [hf4 c j h31 h32]), ok1 ht hG⟩, hS.F ht⟩) hS.2.2 dX0_reckon_58
      · skip
        refine lv_aload_n hx hb dX0_reckon_8 rfl (lv_at hl 1 rfl) ?_
        have hk8 : g3 30 0 = g 30 0 := hf4 30 0 (by decide) (by decide)
        refine cI (va_runV (C := RX0) (As := []) (rest := []) ⟨hx, hb, hml, hown, hA⟩ (k_X0_countOwned l dC dI dA sz X Γ hU g3 h0 t_h0   (by omega)) ⟨callB_of 0 hA (al_A wd_4_21) rfl rfl rfl (hA _ wd_1_6) (hA _ wd_4_18) (by decide +kernel) ⟨Nat.le_of_ble_eq_true rfl, Nat.le_of_ble_eq_true rfl⟩, hA _ wd_4_20, hA _ ws_32⟩ ⟨bl, recv_X0 hE hG t_h0, fun U hU9 hW9 => ⟨rfl, by rw [hU9]; exact hG, hE.go hS hU9 hW9⟩⟩ rfl rfl hl.1 rfl (lv_room (Nat.le_of_ble_eq_true rfl)) dX0_reckon_9 ⟨Nat.zero_le _, Nat.zero_le _⟩) hS (fun x11 u9 H locs w10 hG hS => ?_)
        have eu12 := w10
        rw [eu12] at hG
        refine lv_istore_n (lv' := [(3, .int x11), (2, .int v2_2), (0, .ref h0), (1, .int p1)]) hx hb dX0_reckon_12 rfl hl (by decide) rfl (fun ls hl => ?_)
        refine lv_iload_n hx hb dX0_reckon_13 rfl (lv_at hl 0 rfl) ?_
        refine ty_if_gt (tgt := 23) hx hb dX0_reckon_14 (by decide) (fun c13 => ?_) (fun c13 => ?_)
        · skip
          refine lv_aload_n hx hb dX0_reckon_23 rfl (lv_at hl 2 rfl) ?_
          refine lv_iload_n hx hb dX0_reckon_24 rfl (lv_at hl 3 rfl) ?_
          refine lv_iload_n hx hb dX0_reckon_25 rfl (lv_at hl 0 rfl) ?_
          refine ty_iadd hx hb dX0_reckon_26 (fun x14 h15 => ?_)
          try have h16 : x14.toInt = p1.toInt + x11.toInt := ty_add h15 (by omega) (by omega)
          refine ty_iconst hx hb (1) dX0_reckon_27 (by decide) (fun x17 h18 => ?_)
          refine ty_isub hx hb dX0_reckon_28 (fun x19 h20 => ?_)
          try have h21 : x19.toInt = x14.toInt - x17.toInt := ty_sub h20 (by omega) (by omega)
          refine lv_iload_n hx hb dX0_reckon_29 rfl (lv_at hl 0 rfl) ?_
          refine lv_idiv hx hb dX0_reckon_30 (fun h0 => by have := ty_c0.mp h0; omega) ?_
          refine lv_topi (fun x22 h23 => ?_)
          refine put_X0_4 hx hb hA hown hE hG hS hU t_h0 wd_1_139 dX0_reckon_31 (fun H locs hG hS => ?_)
          refine lv_aload_n hx hb dX0_reckon_34 rfl (lv_at hl 2 rfl) ?_
          have e24 : (gs g3 31 0 x22.toInt) 30 0 = g3 30 0 := by rw [gs_c _ _ _ _ (by decide)]
          refine cI (va_runV (C := RX0) (As := []) (rest := []) ⟨hx, hb, hml, hown, hA⟩ (k_X0_someLeave l dC dI dA sz X Γ hU (gs g3 31 0 x22.toInt) h0 t_h0   (by omega)) ⟨callB_of 0 hA (al_A wd_4_25) rfl rfl rfl (hA _ wd_1_6) (hA _ wd_4_22) (by decide +kernel) ⟨Nat.le_of_ble_eq_true rfl, Nat.le_of_ble_eq_true rfl⟩, hA _ wd_4_24, hA _ ws_33⟩ ⟨bl, recv_X0 hE hG t_h0, fun U hU9 hW9 => ⟨rfl, by rw [hU9]; exact hG, hE.go hS hU9 hW9⟩⟩ rfl rfl hl.1 rfl (lv_room (Nat.le_of_ble_eq_true rfl)) dX0_reckon_35 ⟨Nat.zero_le _, Nat.zero_le _⟩) hS (fun x27 u25 H locs w26 hG hS => ?_)
          have eu28 := w26
          rw [eu28] at hG
          refine ty_if_ne (tgt := 42) hx hb dX0_reckon_38 (by decide) (fun c29 => ?_) (fun c29 => ?_)
          · skip
            refine lv_aload_n hx hb dX0_reckon_42 rfl (lv_at hl 2 rfl) ?_
            refine lv_dup hx hb dX0_reckon_43 rfl ?_
            refine get_X0_5 hx hb hA hown hE hG t_h0 wd_1_141 dX0_reckon_44 (fun x30 h31 => ?_)
            replace h31 : x30.toInt = g3 32 0 := by rw [h31, gs_c _ _ _ _ (by decide)]
            refine ty_iconst hx hb (1) dX0_reckon_47 (by decide) (fun x33 h34 => ?_)
            refine ty_iadd hx hb dX0_reckon_48 (fun x35 h36 => ?_)
            try have h37 : x35.toInt = x30.toInt + x33.toInt := ty_add h36 (by omega) (by omega)
            refine put_X0_5 hx hb hA hown hE hG hS hU t_h0 wd_1_141 dX0_reckon_49 (fun H locs hG hS => ?_)
            obtain ⟨x38, h39⟩ : ∃ y : Int32, y = v2_2 + Int32.ofInt (1) := ⟨_, rfl⟩
            try have h40 : x38.toInt = v2_2.toInt + (1) := ty_inc h39 (by decide) (by omega) (by omega)
            refine lv_iinc (v := x38) (lv' := [(2, .int x38), (3, .int x11), (0, .ref h0), (1, .int p1)]) hx hb dX0_reckon_52 hl (k := 1) rfl h39.symm (by decide) rfl (fun ls hl => ?_)
            refine lv_goto (tgt := 2) hx hb dX0_reckon_55 (by decide) ?_
            exact ih_2 x38 (gs (gs g3 31 0 x22.toInt) 32 0 x35.toInt) _ _ ls (by omega) (by omega) (fun c j h31 h32 => by rw [gs_c _ _ _ _ h32, gs_c _ _ _ _ h31, hf4 c j h31 h32]) hG hS (lv_sub hl [0, 2, 3] rfl)
          · skip
            exact W.vret hx hb hr (fun t ht hW => ⟨⟨(gs g3 31 0 x22.toInt), rfl, (fun c j h31 h32 => by rw [gs_c _ _ _ _ h31, hf4 c j h31 h32]), ok1 ht hG⟩, hS.F ht⟩) hS.2.2 dX0_reckon_41
        · skip
          refine lv_aload_n hx hb dX0_reckon_17 rfl (lv_at hl 2 rfl) ?_
          refine ty_iconst hx hb (0) dX0_reckon_18 (by decide) (fun x41 h42 => ?_)
          refine put_X0_4 hx hb hA hown hE hG hS hU t_h0 wd_1_139 dX0_reckon_19 (fun H locs hG hS => ?_)
          exact W.vret hx hb hr (fun t ht hW => ⟨⟨(gs g3 31 0 x41.toInt), rfl, (fun c j h31 h32 => by rw [gs_c _ _ _ _ h31, hf4 c j h31 h32]), ok1 ht hG⟩, hS.F ht⟩) hS.2.2 dX0_reckon_22
  exact L_2 ((11 - x1.toInt) + 1).toNat x1 g _ _ ls (by omega) (by omega) (fun c j _ _ => rfl) hG hS (lv_sub hl [0, 1, 2] rfl)

set_option maxHeartbeats 4000000 in
set_option maxRecDepth 100000 in
/-- WeekBank.fees:  -/
theorem k_X8_fees (l : Launch) (dC : Nat → ClassId) (dI : Nat → Nat → Nat) (dA : Nat → ClassId) (sz : Nat) (X : va_W) (Γ : ty_G) (hU : Un Γ) (g : gh) (h0 : Nat) (t_h0 : ty Γ h0 1) (p1 : Int32) (p2 : Int32) (g2 : g 2 0 = g 34 0 ∧ 0 ≤ g 2 0 ∧ g 2 0 ≤ 10) : Met l yX8_fees (.code yX8_fees cX8_fees 4 (Option.some Jvm.ClassFile.FieldType.int) :: AL) ({ frames := 2, cells := 0, slots := 0, locals := 45 }) (PCx dC dI dA sz X Γ g [.ref h0, .int p1, .int p2]) (va_Qi (fun (r : Int32) (u : gh) => (∀ c j : Nat, c ≠ 30 → c ≠ 31 → c ≠ 32 → u c j = g c j)) (okb dC dI dA sz X Γ) (ty_A sz)) 0 0 (ty_A sz) := by
  refine Met.ofW (cc := cX8_fees) (maxL := 4) (ret := (Option.some Jvm.ClassFile.FieldType.int)) (by decide) rfl ?_
  intro p e s m args below meth c s₁ B hml hv
  obtain ⟨rfl, hG, hE⟩ := hv
  have hx := B.exec
  have hb := B.bytes
  have hr := B.returns
  have hts := atoms_spec B.pre
  have hA : ∀ w ∈ AL, w.before _ s = true := fun w h => hts w (List.mem_cons_of_mem _ h)
  have hown : s.vm.findClass RX8 = some m.cls := findClass_of_methodNamed B.named
  have hlocks := B.notSynchronized
  have hS : va_S (ty_A sz) s.heap s.heap [] := va_S.rf
  have hl := lv_entry ([.ref h0, .int p1, .int p2]) (n := 4) (Nat.le_of_ble_eq_true rfl)
  rw [lg_entry_eq]
  generalize (lg_sl ([.ref h0, .int p1, .int p2]) ++ List.replicate (4 - (lg_sl ([.ref h0, .int p1, .int p2])).length) Slot.unset).toArray = ls at hl ⊢
  have hl : lv_has ls 4 [(0, .ref h0), (1, .int p1), (2, .int p2)] := hl
  refine lv_iload_n hx hb dX8_fees_0 rfl (lv_at hl 1 rfl) ?_
  refine ty_iconst hx hb (1) dX8_fees_1 (by decide) (fun x1 h2 => ?_)
  refine ty_icmp_lt (tgt := 20) hx hb dX8_fees_2 (by decide) (fun c3 => ?_) (fun c3 => ?_)
  · skip
    refine ty_iconst hx hb (-1) dX8_fees_20 (by decide) (fun x4 h5 => ?_)
    exact W.iret (v := x4) hx hb hr (fun t ht hW => ⟨⟨x4, g, rfl, (fun c j h30 h31 h32 => by rfl), ok1 ht hG⟩, hS.F ht⟩) hS.2.2 dX8_fees_21
  · skip
    refine lv_iload_n hx hb dX8_fees_5 rfl (lv_at hl 1 rfl) ?_
    refine ty_ldc hx hb (999999) hown (hA _ wd_4_5) dX8_fees_6 (by decide) (fun x6 h7 => ?_)
    refine ty_icmp_gt (tgt := 20) hx hb dX8_fees_8 (by decide) (fun c8 => ?_) (fun c8 => ?_)
    · skip
      refine ty_iconst hx hb (-1) dX8_fees_20 (by decide) (fun x9 h10 => ?_)
      exact W.iret (v := x9) hx hb hr (fun t ht hW => ⟨⟨x9, g, rfl, (fun c j h30 h31 h32 => by rfl), ok1 ht hG⟩, hS.F ht⟩) hS.2.2 dX8_fees_21
    · skip
      refine lv_iload_n hx hb dX8_fees_11 rfl (lv_at hl 2 rfl) ?_
      refine ty_if_lt (tgt := 20) hx hb dX8_fees_12 (by decide) (fun c11 => ?_) (fun c11 => ?_)
      · skip
        refine ty_iconst hx hb (-1) dX8_fees_20 (by decide) (fun x12 h13 => ?_)
        exact W.iret (v := x12) hx hb hr (fun t ht hW => ⟨⟨x12, g, rfl, (fun c j h30 h31 h32 => by rfl), ok1 ht hG⟩, hS.F ht⟩) hS.2.2 dX8_fees_21
      · skip
        refine lv_iload_n hx hb dX8_fees_15 rfl (lv_at hl 2 rfl) ?_
        refine ty_iconst hx hb (2) dX8_fees_16 (by decide) (fun x14 h15 => ?_)
        refine ty_icmp_le (tgt := 22) hx hb dX8_fees_17 (by decide) (fun c16 => ?_) (fun c16 => ?_)
        · skip
          refine lv_aload_n hx hb dX8_fees_22 rfl (lv_at hl 0 rfl) ?_
          refine get_X8_12 hx hb hA hown hE hG t_h0 wd_1_169 dX8_fees_23 (fun b17 (t_b17 : ty Γ b17 9) => ?_)
          refine cV (va_runV (C := RX0) (As := []) (rest := []) ⟨hx, hb, hml, hown, hA⟩ (k_X0_clear l dC dI dA sz X Γ hU g b17 t_b17   ) ⟨callB_of 0 hA (al_A wd_4_9) rfl rfl rfl (hA _ wd_1_6) (hA _ wd_4_6) (by decide +kernel) ⟨Nat.le_of_ble_eq_true rfl, Nat.le_of_ble_eq_true rfl⟩, hA _ wd_4_7, hA _ wd_4_8⟩ ⟨bl, recv_X0 hE hG t_b17, fun U hU9 hW9 => ⟨rfl, by rw [hU9]; exact hG, hE.go hS hU9 hW9⟩⟩ rfl rfl hl.1 rfl (lv_room (Nat.le_of_ble_eq_true rfl)) dX8_fees_26 ⟨Nat.zero_le _, Nat.zero_le _⟩) hS (fun u18 H locs w19 hG hS => ?_)
          obtain ⟨hf20, w19⟩ := w19
          refine ty_iconst hx hb (0) dX8_fees_29 (by decide) (fun x21 h22 => ?_)
          refine lv_istore_n (lv' := [(3, .int x21), (0, .ref h0), (1, .int p1), (2, .int p2)]) hx hb dX8_fees_30 rfl hl (by decide) rfl (fun ls hl => ?_)
          have L_31 : ∀ (n : Nat) (v3_31 : Int32) (g23 : gh) (H : Heap) (locs : List Loc) (ls : Array Slot), (g23 2 0 - v3_31.toInt : Int) < n → 0 ≤ v3_31.toInt ∧ v3_31.toInt ≤ g23 2 0 → 0 ≤ g23 30 0 ∧ g23 30 0 ≤ 10 → (∀ c j : Nat, c ≠ 30 → g23 c j = u18 c j) → ty_ok (dC, dI) vwCl Γ (TP dA Γ g23) sz X H → va_S (ty_A sz) s.heap H locs → lv_has ls 4 [(3, .int v3_31), (0, .ref h0), (1, .int p1), (2, .int p2)] → W p l e (headSpec (.code yX8_fees cX8_fees 4 (Option.some Jvm.ClassFile.FieldType.int) :: AL) ({ frames := 2, cells := 0, slots := 0, locals := 45 })).room s m ([.ref h0, .int p1, .int p2] : List Value).toArray below meth c H locs 0 0 (MQ below (va_Qi (fun (r : Int32) (u : gh) => (∀ c j : Nat, c ≠ 30 → c ≠ 31 → c ≠ 32 → u c j = g c j)) (okb dC dI dA sz X Γ) (ty_A sz)) ([.ref h0, .int p1, .int p2] : List Value).toArray s 0 0 (ty_A sz)) (F0 m 31 ls []) := by
            intro n
            induction n with
            | zero => intro v3_31 g23 H locs ls hm hi0 hi1 hf24 hG hS hl; exfalso; omega
            | succ n ih_31 =>
              intro v3_31 g23 H locs ls hm hi0 hi1 hf24 hG hS hl
              have hk25 : g23 2 0 = u18 2 0 := hf24 2 0 (by decide)
              have hk26 : u18 2 0 = g 2 0 := hf20 2 0 (by decide) (by decide) (by decide)
              refine lv_iload_n hx hb dX8_fees_31 rfl (lv_at hl 0 rfl) ?_
              refine lv_aload_n hx hb dX8_fees_32 rfl (lv_at hl 1 rfl) ?_
              refine get_X8_3 hx hb hA hown hE hG t_h0 wd_1_160 dX8_fees_33 (fun x27 h28 => ?_)
              refine ty_icmp_ge (tgt := 82) hx hb dX8_fees_36 (by decide) (fun c30 => ?_) (fun c30 => ?_)
              · skip
                refine lv_aload_n hx hb dX8_fees_82 rfl (lv_at hl 1 rfl) ?_
                refine get_X8_12 hx hb hA hown hE hG t_h0 wd_1_169 dX8_fees_83 (fun b31 (t_b31 : ty Γ b31 9) => ?_)
                refine lv_iload_n hx hb dX8_fees_86 rfl (lv_at hl 2 rfl) ?_
                refine cV (va_runV (C := RX0) (As := [.int p1]) (rest := []) ⟨hx, hb, hml, hown, hA⟩ (k_X0_reckon l dC dI dA sz X Γ hU g23 b31 t_b31 p1   (by omega)) ⟨callB_of 1 hA (al_A wd_4_17) rfl rfl rfl (hA _ wd_1_6) (hA _ wd_4_14) (by decide +kernel) ⟨Nat.le_of_ble_eq_true rfl, Nat.le_of_ble_eq_true rfl⟩, hA _ wd_4_15, hA _ wd_4_16⟩ ⟨bl, recv_X0 hE hG t_b31, fun U hU9 hW9 => ⟨rfl, by rw [hU9]; exact hG, hE.go hS hU9 hW9⟩⟩ rfl rfl hl.1 rfl (lv_room (Nat.le_of_ble_eq_true rfl)) dX8_fees_87 ⟨Nat.zero_le _, Nat.zero_le _⟩) hS (fun u32 H locs w33 hG hS => ?_)
                have hf34 := w33
                refine lv_iload_n hx hb dX8_fees_90 rfl (lv_at hl 3 rfl) ?_
                refine ty_if_ne (tgt := 102) hx hb dX8_fees_91 (by decide) (fun c35 => ?_) (fun c35 => ?_)
                · skip
                  refine lv_iload_n hx hb dX8_fees_102 rfl (lv_at hl 3 rfl) ?_
                  refine ty_iconst hx hb (1) dX8_fees_103 (by decide) (fun x36 h37 => ?_)
                  refine ty_icmp_ne (tgt := 117) hx hb dX8_fees_104 (by decide) (fun c38 => ?_) (fun c38 => ?_)
                  · skip
                    refine lv_aload_n hx hb dX8_fees_117 rfl (lv_at hl 1 rfl) ?_
                    refine get_X8_12 hx hb hA hown hE hG t_h0 wd_1_169 dX8_fees_118 (fun b39 (t_b39 : ty Γ b39 9) => ?_)
                    have hk40 : u32 30 0 = g23 30 0 := hf34 30 0 (by decide) (by decide)
                    refine cI (va_runV (C := RX0) (As := []) (rest := []) ⟨hx, hb, hml, hown, hA⟩ (k_X0_countStaying l dC dI dA sz X Γ hU u32 b39 t_b39   (by omega)) ⟨callB_of 0 hA (al_A wd_4_29) rfl rfl rfl (hA _ wd_1_6) (hA _ wd_4_26) (by decide +kernel) ⟨Nat.le_of_ble_eq_true rfl, Nat.le_of_ble_eq_true rfl⟩, hA _ wd_4_27, hA _ wd_4_28⟩ ⟨bl, recv_X0 hE hG t_b39, fun U hU9 hW9 => ⟨rfl, by rw [hU9]; exact hG, hE.go hS hU9 hW9⟩⟩ rfl rfl hl.1 rfl (lv_room (Nat.le_of_ble_eq_true rfl)) dX8_fees_121 ⟨Nat.zero_le _, Nat.zero_le _⟩) hS (fun x43 u41 H locs w42 hG hS => ?_)
                    have eu44 := w42
                    rw [eu44] at hG
                    exact W.iret (v := x43) hx hb hr (fun t ht hW => ⟨⟨x43, u32, rfl, (fun c j h30 h31 h32 => by rw [hf34 c j h31 h32, hf24 c j h30, hf20 c j h30 h31 h32]), ok1 ht hG⟩, hS.F ht⟩) hS.2.2 dX8_fees_124
                  · skip
                    refine lv_aload_n hx hb dX8_fees_107 rfl (lv_at hl 1 rfl) ?_
                    refine get_X8_12 hx hb hA hown hE hG t_h0 wd_1_169 dX8_fees_108 (fun b45 (t_b45 : ty Γ b45 9) => ?_)
                    refine get_X0_5 hx hb hA hown hE hG t_b45 wd_1_142 dX8_fees_111 (fun x46 h47 => ?_)
                    refine lv_goto (tgt := 124) hx hb dX8_fees_114 (by decide) ?_
                    exact W.iret (v := x46) hx hb hr (fun t ht hW => ⟨⟨x46, u32, rfl, (fun c j h30 h31 h32 => by rw [hf34 c j h31 h32, hf24 c j h30, hf20 c j h30 h31 h32]), ok1 ht hG⟩, hS.F ht⟩) hS.2.2 dX8_fees_124
                · skip
                  refine lv_aload_n hx hb dX8_fees_94 rfl (lv_at hl 1 rfl) ?_
                  refine get_X8_12 hx hb hA hown hE hG t_h0 wd_1_169 dX8_fees_95 (fun b49 (t_b49 : ty Γ b49 9) => ?_)
                  refine get_X0_4 hx hb hA hown hE hG t_b49 wd_1_140 dX8_fees_98 (fun x50 h51 => ?_)
                  exact W.iret (v := x50) hx hb hr (fun t ht hW => ⟨⟨x50, u32, rfl, (fun c j h30 h31 h32 => by rw [hf34 c j h31 h32, hf24 c j h30, hf20 c j h30 h31 h32]), ok1 ht hG⟩, hS.F ht⟩) hS.2.2 dX8_fees_101
              · skip
                refine lv_aload_n hx hb dX8_fees_39 rfl (lv_at hl 1 rfl) ?_
                refine get_X8_2 hx hb hA hown hE hG t_h0 wd_1_159 dX8_fees_40 (fun b53 (t_b53 : ty Γ b53 11) => ?_)
                refine lv_iload_n hx hb dX8_fees_43 rfl (lv_at hl 0 rfl) ?_
                refine ald_11 hx hb hE hG t_b53 (by omega) dX8_fees_44 (fun j55 r54 h56 t_r54 h57 => ?_)
                obtain rfl : j55 = v3_31.toInt.toNat := by omega
                have hk58 : g23 34 0 = u18 34 0 := hf24 34 0 (by decide)
                have hk59 : u18 34 0 = g 34 0 := hf20 34 0 (by decide) (by decide) (by decide)
                obtain ⟨b60, h61⟩ := Option.ne_none_iff_exists'.mp (h57 (by omega))
                have t_b60 := t_r54 b60 h61
                clear h57 t_r54
                subst h61
                refine get_X3_5 hx hb hA hown hE hG t_b60 wd_2_19 dX8_fees_45 (fun x62 h63 h64 => ?_)
                have hk65 : g23 54 v3_31.toInt.toNat = u18 54 v3_31.toInt.toNat := hf24 54 v3_31.toInt.toNat (by decide)
                have hk66 : u18 54 v3_31.toInt.toNat = g 54 v3_31.toInt.toNat := hf20 54 v3_31.toInt.toNat (by decide) (by decide) (by decide)
                refine ty_if_ne (tgt := 76) hx hb dX8_fees_48 (by decide) (fun c67 => ?_) (fun c67 => ?_)
                · skip
                  obtain ⟨x68, h69⟩ : ∃ y : Int32, y = v3_31 + Int32.ofInt (1) := ⟨_, rfl⟩
                  try have h70 : x68.toInt = v3_31.toInt + (1) := ty_inc h69 (by decide) (by omega) (by omega)
                  refine lv_iinc (v := x68) (lv' := [(3, .int x68), (0, .ref h0), (1, .int p1), (2, .int p2)]) hx hb dX8_fees_76 hl (k := 0) rfl h69.symm (by decide) rfl (fun ls hl => ?_)
                  refine lv_goto (tgt := 31) hx hb dX8_fees_79 (by decide) ?_
                  exact ih_31 x68 g23 _ _ ls (by omega) (by omega) (by omega) (fun c j h30 => by rw [hf24 c j h30]) hG hS (lv_sub hl [0, 1, 2, 3] rfl)
                · skip
                  refine lv_aload_n hx hb dX8_fees_51 rfl (lv_at hl 1 rfl) ?_
                  refine get_X8_12 hx hb hA hown hE hG t_h0 wd_1_169 dX8_fees_52 (fun b71 (t_b71 : ty Γ b71 9) => ?_)
                  refine lv_aload_n hx hb dX8_fees_55 rfl (lv_at hl 1 rfl) ?_
                  refine get_X8_2 hx hb hA hown hE hG t_h0 wd_1_159 dX8_fees_56 (fun b72 (t_b72 : ty Γ b72 11) => ?_)
                  refine lv_iload_n hx hb dX8_fees_59 rfl (lv_at hl 0 rfl) ?_
                  refine ald_11 hx hb hE hG t_b72 (by omega) dX8_fees_60 (fun j74 r73 h75 t_r73 h76 => ?_)
                  obtain rfl : j74 = v3_31.toInt.toNat := by omega
                  obtain ⟨b77, h78⟩ := Option.ne_none_iff_exists'.mp (h76 (by omega))
                  have t_b77 := t_r73 b77 h78
                  clear h76 t_r73
                  subst h78
                  refine get_X3_1 hx hb hA hown hE hG t_b77 wd_2_9 dX8_fees_61 (fun x79 h80 => ?_)
                  have hk82 : g23 50 v3_31.toInt.toNat = u18 50 v3_31.toInt.toNat := hf24 50 v3_31.toInt.toNat (by decide)
                  have hk83 : u18 50 v3_31.toInt.toNat = g 50 v3_31.toInt.toNat := hf20 50 v3_31.toInt.toNat (by decide) (by decide) (by decide)
                  refine lv_aload_n hx hb dX8_fees_64 rfl (lv_at hl 1 rfl) ?_
                  refine get_X8_2 hx hb hA hown hE hG t_h0 wd_1_159 dX8_fees_65 (fun b84 (t_b84 : ty Γ b84 11) => ?_)
                  refine lv_iload_n hx hb dX8_fees_68 rfl (lv_at hl 0 rfl) ?_
                  refine ald_11 hx hb hE hG t_b84 (by omega) dX8_fees_69 (fun j86 r85 h87 t_r85 h88 => ?_)
                  obtain rfl : j86 = v3_31.toInt.toNat := by omega
                  obtain ⟨b89, h90⟩ := Option.ne_none_iff_exists'.mp (h88 (by omega))
                  have t_b89 := t_r85 b89 h90
                  clear h88 t_r85
                  subst h90
                  refine get_X3_4 hx hb hA hown hE hG t_b89 wd_2_17 dX8_fees_70 (fun x91 h92 => ?_)
                  have hk94 : g23 53 v3_31.toInt.toNat = u18 53 v3_31.toInt.toNat := hf24 53 v3_31.toInt.toNat (by decide)
                  have hk95 : u18 53 v3_31.toInt.toNat = g 53 v3_31.toInt.toNat := hf20 53 v3_31.toInt.toNat (by decide) (by decide) (by decide)
                  refine cV (va_runV (C := RX0) (As := [.int x79, .int x91]) (rest := []) ⟨hx, hb, hml, hown, hA⟩ (k_X0_add l dC dI dA sz X Γ hU g23 b71 t_b71 x79 x91   (by omega)) ⟨callB_of 2 hA (al_A wd_4_13) rfl rfl rfl (hA _ wd_1_6) (hA _ wd_4_10) (by decide +kernel) ⟨Nat.le_of_ble_eq_true rfl, Nat.le_of_ble_eq_true rfl⟩, hA _ wd_4_11, hA _ wd_4_12⟩ ⟨bl, recv_X0 hE hG t_b71, fun U hU9 hW9 => ⟨rfl, by rw [hU9]; exact hG, hE.go hS hU9 hW9⟩⟩ rfl rfl hl.1 rfl (lv_room (Nat.le_of_ble_eq_true rfl)) dX8_fees_73 ⟨Nat.zero_le _, Nat.zero_le _⟩) hS (fun u96 H locs w97 hG hS => ?_)
                  obtain ⟨hf98, w97⟩ := w97
                  obtain ⟨x99, h100⟩ : ∃ y : Int32, y = v3_31 + Int32.ofInt (1) := ⟨_, rfl⟩
                  try have h101 : x99.toInt = v3_31.toInt + (1) := ty_inc h100 (by decide) (by omega) (by omega)
                  refine lv_iinc (v := x99) (lv' := [(3, .int x99), (0, .ref h0), (1, .int p1), (2, .int p2)]) hx hb dX8_fees_76 hl (k := 0) rfl h100.symm (by decide) rfl (fun ls hl => ?_)
                  refine lv_goto (tgt := 31) hx hb dX8_fees_79 (by decide) ?_
                  have hk102 : u96 2 0 = g23 2 0 := hf98 2 0 (by decide)
                  exact ih_31 x99 u96 _ _ ls (by omega) (by omega) (by omega) (fun c j h30 => by rw [hf98 c j h30, hf24 c j h30]) hG hS (lv_sub hl [0, 1, 2, 3] rfl)
          have hk103 : u18 2 0 = g 2 0 := hf20 2 0 (by decide) (by decide) (by decide)
          exact L_31 ((u18 2 0 - x21.toInt) + 1).toNat x21 u18 _ _ ls (by omega) (by omega) (by omega) (fun c j _ => rfl) hG hS (lv_sub hl [0, 1, 2, 3] rfl)
        · skip
          refine ty_iconst hx hb (-1) dX8_fees_20 (by decide) (fun x104 h105 => ?_)
          exact W.iret (v := x104) hx hb hr (fun t ht hW => ⟨⟨x104, g, rfl, (fun c j h30 h31 h32 => by rfl), ok1 ht hG⟩, hS.F ht⟩) hS.2.2 dX8_fees_21
