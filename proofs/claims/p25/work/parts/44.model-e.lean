set_option maxHeartbeats 4000000 in
set_option maxRecDepth 100000 in
/-- WeekBankModel.shut:  -/
theorem k_X9_shut (l : Launch) (dC : Nat → ClassId) (dI : Nat → Nat → Nat) (dA : Nat → ClassId) (sz : Nat) (X : va_W) (Γ : ty_G) (hU : Un Γ) (g : gh) (h0 : Nat) (t_h0 : ty Γ h0 30) (p1 : Int32) (p2 : Int32) (p3 : Int32) (m1 : 0 ≤ g 101 0 ∧ g 101 0 ≤ 6) (m26 : 0 ≤ g 126 0 ∧ g 126 0 ≤ 200) (m12 : 0 ≤ g 112 0 ∧ g 112 0 ≤ 52) (hIJ : IJ g) : Met l yX9_shut (.code yX9_shut cX9_shut 6 (Option.some Jvm.ClassFile.FieldType.int) :: AL) ({ frames := 2, cells := 0, slots := 0, locals := 44 }) (PCx dC dI dA sz X Γ g [.ref h0, .int p1, .int p2, .int p3]) (va_Qi (fun (r : Int32) (u : gh) => (∀ c j : Nat, c ≠ 100 → c ≠ 106 → c ≠ 110 → c ≠ 132 → u c j = g c j) ∧ (IJ u) ∧ (((0 ≤ p1.toInt ∧ p1.toInt < g 101 0 ∧ g 112 0 ≤ p2.toInt ∧ p2.toInt ≤ p3.toInt ∧ p3.toInt ≤ 52) → r.toInt = (sh_f (g 127) (g 134) (g 131) (g 128) (g 129) (g 130) p1.toInt p2.toInt p3.toInt (g 111 0) (g 106) (g 132) (g 126 0).toNat).2.2 ∧ u 110 = fz (g 110) (53 * p1.toInt.toNat + p2.toInt.toNat) 1 (p3.toInt - p2.toInt + 1).toNat ∧ u 106 = (sh_f (g 127) (g 134) (g 131) (g 128) (g 129) (g 130) p1.toInt p2.toInt p3.toInt (g 111 0) (g 106) (g 132) (g 126 0).toNat).1 ∧ u 132 = (sh_f (g 127) (g 134) (g 131) (g 128) (g 129) (g 130) p1.toInt p2.toInt p3.toInt (g 111 0) (g 106) (g 132) (g 126 0).toNat).2.1) ∧ (¬ ((0 ≤ p1.toInt ∧ p1.toInt < g 101 0 ∧ g 112 0 ≤ p2.toInt ∧ p2.toInt ≤ p3.toInt ∧ p3.toInt ≤ 52)) → r.toInt = -1 ∧ u 110 = g 110 ∧ u 106 = g 106 ∧ u 132 = g 132))) (okb dC dI dA sz X Γ) (ty_A sz)) 0 0 (ty_A sz) := by
  refine Met.ofW (cc := cX9_shut) (maxL := 6) (ret := (Option.some Jvm.ClassFile.FieldType.int)) (by decide) rfl ?_
  intro p e s m args below meth c s₁ B hml hv
  obtain ⟨rfl, hG, hE⟩ := hv
  have hx := B.exec
  have hb := B.bytes
  have hr := B.returns
  have hts := atoms_spec B.pre
  have hA : ∀ w ∈ AL, w.before _ s = true := fun w h => hts w (List.mem_cons_of_mem _ h)
  have hown : s.vm.findClass RX9 = some m.cls := findClass_of_methodNamed B.named
  have hlocks := B.notSynchronized
  have hS : va_S (ty_A sz) s.heap s.heap [] := va_S.rf
  have hl := lv_entry ([.ref h0, .int p1, .int p2, .int p3]) (n := 6) (Nat.le_of_ble_eq_true rfl)
  rw [lg_entry_eq]
  generalize (lg_sl ([.ref h0, .int p1, .int p2, .int p3]) ++ List.replicate (6 - (lg_sl ([.ref h0, .int p1, .int p2, .int p3])).length) Slot.unset).toArray = ls at hl ⊢
  have hl : lv_has ls 6 [(0, .ref h0), (1, .int p1), (2, .int p2), (3, .int p3)] := hl
  refine lv_aload_n hx hb dX9_shut_0 rfl (lv_at hl 0 rfl) ?_
  refine ty_iconst hx hb (0) dX9_shut_1 (by decide) (fun x1 h2 => ?_)
  refine put_X9_0 hx hb hA hown hE hG hS hU t_h0 wd_4_130 dX9_shut_2 (fun H locs hG hS => ?_)
  refine lv_aload_n hx hb dX9_shut_5 rfl (lv_at hl 0 rfl) ?_
  refine lv_iload_n hx hb dX9_shut_6 rfl (lv_at hl 1 rfl) ?_
  refine lv_iload_n hx hb dX9_shut_7 rfl (lv_at hl 2 rfl) ?_
  have e3 : (gs g 100 0 x1.toInt) 101 0 = g 101 0 := by rw [gs_c _ _ _ _ (by decide)]
  refine cI (va_runV (C := RX9) (As := [.int p1, .int p2]) (rest := []) ⟨hx, hb, hml, hown, hA⟩ (k_X9_isPlace l dC dI dA sz X Γ hU (gs g 100 0 x1.toInt) h0 t_h0 p1 p2   ) ⟨callB_of 2 hA (al_A wd_5_50) rfl rfl rfl (hA _ wd_1_7) (hA _ wd_5_47) (by decide +kernel) ⟨Nat.le_of_ble_eq_true rfl, Nat.le_of_ble_eq_true rfl⟩, hA _ wd_5_49, hA _ ws_36⟩ ⟨bl, recv_X9 hE hG t_h0, fun U hU9 hW9 => ⟨rfl, by rw [hU9]; exact hG, hE.go hS hU9 hW9⟩⟩ rfl rfl hl.1 rfl (lv_room (Nat.le_of_ble_eq_true rfl)) dX9_shut_8 ⟨Nat.zero_le _, Nat.zero_le _⟩) hS (fun x6 u4 H locs w5 hG hS => ?_)
  obtain ⟨eu7, w5⟩ := w5
  rw [eu7] at hG
  refine ty_if_eq (tgt := 36) hx hb dX9_shut_11 (by decide) (fun c8 => ?_) (fun c8 => ?_)
  · skip
    refine ty_iconst hx hb (-1) dX9_shut_36 (by decide) (fun x9 h10 => ?_)
    exact W.iret (v := x9) hx hb hr (fun t ht hW => ⟨⟨x9, (gs g 100 0 x1.toInt), rfl, ⟨(fun c j h100 h106 h110 h132 => by rw [gs_c _ _ _ _ h100]), (by (repeat (first | with_reducible assumption | (refine IJ_c (by decide) (by decide) (by decide) ?_) | (refine IJ_take (by omega) (by omega) ?_) | (refine IJ_how (by omega) ?_) | (refine IJ_by (by omega) ?_)))), (⟨fun q => absurd q (by omega), fun _ => ⟨(by omega), (by rw [gs_r _ _ _ (by decide)]), (by rw [gs_r _ _ _ (by decide)]), (by rw [gs_r _ _ _ (by decide)])⟩⟩)⟩, ok1 ht hG⟩, hS.F ht⟩) hS.2.2 dX9_shut_37
  · skip
    refine lv_aload_n hx hb dX9_shut_14 rfl (lv_at hl 0 rfl) ?_
    refine lv_iload_n hx hb dX9_shut_15 rfl (lv_at hl 1 rfl) ?_
    refine lv_iload_n hx hb dX9_shut_16 rfl (lv_at hl 3 rfl) ?_
    have e11 : (gs g 100 0 x1.toInt) 101 0 = g 101 0 := by rw [gs_c _ _ _ _ (by decide)]
    refine cI (va_runV (C := RX9) (As := [.int p1, .int p3]) (rest := []) ⟨hx, hb, hml, hown, hA⟩ (k_X9_isPlace l dC dI dA sz X Γ hU (gs g 100 0 x1.toInt) h0 t_h0 p1 p3   ) ⟨callB_of 2 hA (al_A wd_5_50) rfl rfl rfl (hA _ wd_1_7) (hA _ wd_5_47) (by decide +kernel) ⟨Nat.le_of_ble_eq_true rfl, Nat.le_of_ble_eq_true rfl⟩, hA _ wd_5_49, hA _ ws_36⟩ ⟨bl, recv_X9 hE hG t_h0, fun U hU9 hW9 => ⟨rfl, by rw [hU9]; exact hG, hE.go hS hU9 hW9⟩⟩ rfl rfl hl.1 rfl (lv_room (Nat.le_of_ble_eq_true rfl)) dX9_shut_17 ⟨Nat.zero_le _, Nat.zero_le _⟩) hS (fun x14 u12 H locs w13 hG hS => ?_)
    obtain ⟨eu15, w13⟩ := w13
    rw [eu15] at hG
    refine ty_if_eq (tgt := 36) hx hb dX9_shut_20 (by decide) (fun c16 => ?_) (fun c16 => ?_)
    · skip
      refine ty_iconst hx hb (-1) dX9_shut_36 (by decide) (fun x17 h18 => ?_)
      exact W.iret (v := x17) hx hb hr (fun t ht hW => ⟨⟨x17, (gs g 100 0 x1.toInt), rfl, ⟨(fun c j h100 h106 h110 h132 => by rw [gs_c _ _ _ _ h100]), (by (repeat (first | with_reducible assumption | (refine IJ_c (by decide) (by decide) (by decide) ?_) | (refine IJ_take (by omega) (by omega) ?_) | (refine IJ_how (by omega) ?_) | (refine IJ_by (by omega) ?_)))), (⟨fun q => absurd q (by omega), fun _ => ⟨(by omega), (by rw [gs_r _ _ _ (by decide)]), (by rw [gs_r _ _ _ (by decide)]), (by rw [gs_r _ _ _ (by decide)])⟩⟩)⟩, ok1 ht hG⟩, hS.F ht⟩) hS.2.2 dX9_shut_37
    · skip
      refine lv_iload_n hx hb dX9_shut_23 rfl (lv_at hl 2 rfl) ?_
      refine lv_iload_n hx hb dX9_shut_24 rfl (lv_at hl 3 rfl) ?_
      refine ty_icmp_gt (tgt := 36) hx hb dX9_shut_25 (by decide) (fun c19 => ?_) (fun c19 => ?_)
      · skip
        refine ty_iconst hx hb (-1) dX9_shut_36 (by decide) (fun x20 h21 => ?_)
        exact W.iret (v := x20) hx hb hr (fun t ht hW => ⟨⟨x20, (gs g 100 0 x1.toInt), rfl, ⟨(fun c j h100 h106 h110 h132 => by rw [gs_c _ _ _ _ h100]), (by (repeat (first | with_reducible assumption | (refine IJ_c (by decide) (by decide) (by decide) ?_) | (refine IJ_take (by omega) (by omega) ?_) | (refine IJ_how (by omega) ?_) | (refine IJ_by (by omega) ?_)))), (⟨fun q => absurd q (by omega), fun _ => ⟨(by omega), (by rw [gs_r _ _ _ (by decide)]), (by rw [gs_r _ _ _ (by decide)]), (by rw [gs_r _ _ _ (by decide)])⟩⟩)⟩, ok1 ht hG⟩, hS.F ht⟩) hS.2.2 dX9_shut_37
      · skip
        refine lv_iload_n hx hb dX9_shut_28 rfl (lv_at hl 2 rfl) ?_
        refine lv_aload_n hx hb dX9_shut_29 rfl (lv_at hl 0 rfl) ?_
        refine get_X9_12 hx hb hA hown hE hG t_h0 wd_4_142 dX9_shut_30 (fun x22 h23 => ?_)
        replace h23 : x22.toInt = g 112 0 := by rw [h23, gs_c _ _ _ _ (by decide)]
        refine ty_icmp_ge (tgt := 38) hx hb dX9_shut_33 (by decide) (fun c25 => ?_) (fun c25 => ?_)
        · skip
          refine lv_iload_n hx hb dX9_shut_38 rfl (lv_at hl 2 rfl) ?_
          refine lv_istore (lv' := [(4, .int p2), (0, .ref h0), (1, .int p1), (2, .int p2), (3, .int p3)]) hx hb dX9_shut_39 hl (by decide) rfl (fun ls hl => ?_)
          have L_41 : ∀ (n : Nat) (v4_41 : Int32) (g26 : gh) (H : Heap) (locs : List Loc) (ls : Array Slot), (53 - v4_41.toInt : Int) < n → 0 ≤ v4_41.toInt ∧ v4_41.toInt ≤ 53 ∧ p2.toInt ≤ v4_41.toInt ∧ v4_41.toInt ≤ p3.toInt + 1 → (∀ c j : Nat, c ≠ 110 → g26 c j = (gs g 100 0 x1.toInt) c j) → (g26 110 = fz (g 110) (53 * p1.toInt.toNat + p2.toInt.toNat) 1 (v4_41.toInt - p2.toInt).toNat) → ty_ok (dC, dI) vwCl Γ (TP dA Γ g26) sz X H → va_S (ty_A sz) s.heap H locs → lv_has ls 6 [(4, .int v4_41), (0, .ref h0), (1, .int p1), (2, .int p2), (3, .int p3)] → W p l e (headSpec (.code yX9_shut cX9_shut 6 (Option.some Jvm.ClassFile.FieldType.int) :: AL) ({ frames := 2, cells := 0, slots := 0, locals := 44 })).room s m ([.ref h0, .int p1, .int p2, .int p3] : List Value).toArray below meth c H locs 0 0 (MQ below (va_Qi (fun (r : Int32) (u : gh) => (∀ c j : Nat, c ≠ 100 → c ≠ 106 → c ≠ 110 → c ≠ 132 → u c j = g c j) ∧ (IJ u) ∧ (((0 ≤ p1.toInt ∧ p1.toInt < g 101 0 ∧ g 112 0 ≤ p2.toInt ∧ p2.toInt ≤ p3.toInt ∧ p3.toInt ≤ 52) → r.toInt = (sh_f (g 127) (g 134) (g 131) (g 128) (g 129) (g 130) p1.toInt p2.toInt p3.toInt (g 111 0) (g 106) (g 132) (g 126 0).toNat).2.2 ∧ u 110 = fz (g 110) (53 * p1.toInt.toNat + p2.toInt.toNat) 1 (p3.toInt - p2.toInt + 1).toNat ∧ u 106 = (sh_f (g 127) (g 134) (g 131) (g 128) (g 129) (g 130) p1.toInt p2.toInt p3.toInt (g 111 0) (g 106) (g 132) (g 126 0).toNat).1 ∧ u 132 = (sh_f (g 127) (g 134) (g 131) (g 128) (g 129) (g 130) p1.toInt p2.toInt p3.toInt (g 111 0) (g 106) (g 132) (g 126 0).toNat).2.1) ∧ (¬ ((0 ≤ p1.toInt ∧ p1.toInt < g 101 0 ∧ g 112 0 ≤ p2.toInt ∧ p2.toInt ≤ p3.toInt ∧ p3.toInt ≤ 52)) → r.toInt = -1 ∧ u 110 = g 110 ∧ u 106 = g 106 ∧ u 132 = g 132))) (okb dC dI dA sz X Γ) (ty_A sz)) ([.ref h0, .int p1, .int p2, .int p3] : List Value).toArray s 0 0 (ty_A sz)) (F0 m 41 ls []) := by
            intro n
            induction n with
            | zero => intro v4_41 g26 H locs ls hm hi0 hf27 ha0 hG hS hl; exfalso; omega
            | succ n ih_41 =>
              intro v4_41 g26 H locs ls hm hi0 hf27 ha0 hG hS hl
              have hj28 : IJ g26 := IJ_cg (hf27 126 0 (by decide)) (fun j => hf27 132 j (by decide)) (fun j => hf27 134 j (by decide)) (by (repeat (first | with_reducible assumption | (refine IJ_c (by decide) (by decide) (by decide) ?_) | (refine IJ_take (by omega) (by omega) ?_) | (refine IJ_how (by omega) ?_) | (refine IJ_by (by omega) ?_))))
              refine lv_iload hx hb dX9_shut_41 (lv_at hl 0 rfl) ?_
              refine lv_iload_n hx hb dX9_shut_43 rfl (lv_at hl 4 rfl) ?_
              refine ty_icmp_gt (tgt := 66) hx hb dX9_shut_44 (by decide) (fun c29 => ?_) (fun c29 => ?_)
              · skip
                refine ty_iconst hx hb (0) dX9_shut_66 (by decide) (fun x30 h31 => ?_)
                refine lv_istore (lv' := [(4, .int x30), (0, .ref h0), (1, .int p1), (2, .int p2), (3, .int p3)]) hx hb dX9_shut_67 hl (by decide) rfl (fun ls hl => ?_)
                refine ty_iconst hx hb (0) dX9_shut_69 (by decide) (fun x32 h33 => ?_)
                refine lv_istore (lv' := [(5, .int x32), (4, .int x30), (0, .ref h0), (1, .int p1), (2, .int p2), (3, .int p3)]) hx hb dX9_shut_70 hl (by decide) rfl (fun ls hl => ?_)
                have L_72 : ∀ (n : Nat) (v5_72 : Int32) (v4_72 : Int32) (g34 : gh) (H : Heap) (locs : List Loc) (ls : Array Slot), (g34 126 0 - v5_72.toInt : Int) < n → 0 ≤ v5_72.toInt ∧ v5_72.toInt ≤ g34 126 0 → 0 ≤ v4_72.toInt ∧ v4_72.toInt ≤ v5_72.toInt → (∀ c j : Nat, c ≠ 106 → c ≠ 132 → g34 c j = g26 c j) → (IJ g34) → (g34 106 = (sh_f (g 127) (g 134) (g 131) (g 128) (g 129) (g 130) p1.toInt p2.toInt p3.toInt (g 111 0) (g 106) (g 132) v5_72.toInt.toNat).1) → (g34 132 = (sh_f (g 127) (g 134) (g 131) (g 128) (g 129) (g 130) p1.toInt p2.toInt p3.toInt (g 111 0) (g 106) (g 132) v5_72.toInt.toNat).2.1) → (v4_72.toInt = (sh_f (g 127) (g 134) (g 131) (g 128) (g 129) (g 130) p1.toInt p2.toInt p3.toInt (g 111 0) (g 106) (g 132) v5_72.toInt.toNat).2.2) → ty_ok (dC, dI) vwCl Γ (TP dA Γ g34) sz X H → va_S (ty_A sz) s.heap H locs → lv_has ls 6 [(5, .int v5_72), (4, .int v4_72), (0, .ref h0), (1, .int p1), (2, .int p2), (3, .int p3)] → W p l e (headSpec (.code yX9_shut cX9_shut 6 (Option.some Jvm.ClassFile.FieldType.int) :: AL) ({ frames := 2, cells := 0, slots := 0, locals := 44 })).room s m ([.ref h0, .int p1, .int p2, .int p3] : List Value).toArray below meth c H locs 0 0 (MQ below (va_Qi (fun (r : Int32) (u : gh) => (∀ c j : Nat, c ≠ 100 → c ≠ 106 → c ≠ 110 → c ≠ 132 → u c j = g c j) ∧ (IJ u) ∧ (((0 ≤ p1.toInt ∧ p1.toInt < g 101 0 ∧ g 112 0 ≤ p2.toInt ∧ p2.toInt ≤ p3.toInt ∧ p3.toInt ≤ 52) → r.toInt = (sh_f (g 127) (g 134) (g 131) (g 128) (g 129) (g 130) p1.toInt p2.toInt p3.toInt (g 111 0) (g 106) (g 132) (g 126 0).toNat).2.2 ∧ u 110 = fz (g 110) (53 * p1.toInt.toNat + p2.toInt.toNat) 1 (p3.toInt - p2.toInt + 1).toNat ∧ u 106 = (sh_f (g 127) (g 134) (g 131) (g 128) (g 129) (g 130) p1.toInt p2.toInt p3.toInt (g 111 0) (g 106) (g 132) (g 126 0).toNat).1 ∧ u 132 = (sh_f (g 127) (g 134) (g 131) (g 128) (g 129) (g 130) p1.toInt p2.toInt p3.toInt (g 111 0) (g 106) (g 132) (g 126 0).toNat).2.1) ∧ (¬ ((0 ≤ p1.toInt ∧ p1.toInt < g 101 0 ∧ g 112 0 ≤ p2.toInt ∧ p2.toInt ≤ p3.toInt ∧ p3.toInt ≤ 52)) → r.toInt = -1 ∧ u 110 = g 110 ∧ u 106 = g 106 ∧ u 132 = g 132))) (okb dC dI dA sz X Γ) (ty_A sz)) ([.ref h0, .int p1, .int p2, .int p3] : List Value).toArray s 0 0 (ty_A sz)) (F0 m 72 ls []) := by
                  intro n
                  induction n with
                  | zero => intro v5_72 v4_72 g34 H locs ls hm hi0 hi1 hf35 hq0 hq1 hq2 hq3 hG hS hl; exfalso; omega
                  | succ n ih_72 =>
                    intro v5_72 v4_72 g34 H locs ls hm hi0 hi1 hf35 hq0 hq1 hq2 hq3 hG hS hl
                    have hk36 : g34 126 0 = g26 126 0 := hf35 126 0 (by decide) (by decide)
                    have hk37 : g26 126 0 = (gs g 100 0 x1.toInt) 126 0 := hf27 126 0 (by decide)
                    replace hk37 : g26 126 0 = g 126 0 := by rw [hk37, gs_c _ _ _ _ (by decide)]
                    refine lv_iload hx hb dX9_shut_72 (lv_at hl 0 rfl) ?_
                    refine lv_aload_n hx hb dX9_shut_74 rfl (lv_at hl 2 rfl) ?_
                    refine get_X9_26 hx hb hA hown hE hG t_h0 wd_4_156 dX9_shut_75 (fun x38 h39 => ?_)
                    replace h39 : x38.toInt = g 126 0 := by rw [h39, hf35 126 0 (by decide) (by decide), hf27 126 0 (by decide), gs_c _ _ _ _ (by decide)]
                    refine ty_icmp_ge (tgt := 254) hx hb dX9_shut_78 (by decide) (fun c41 => ?_) (fun c41 => ?_)
                    · skip
                      refine lv_iload hx hb dX9_shut_254 (lv_at hl 1 rfl) ?_
                      exact W.iret (v := v4_72) hx hb hr (fun t ht hW => ⟨⟨v4_72, g34, rfl, ⟨(fun c j h100 h106 h110 h132 => by rw [hf35 c j h106 h132, hf27 c j h110, gs_c _ _ _ _ h100]), (by (repeat (first | with_reducible assumption | (refine IJ_c (by decide) (by decide) (by decide) ?_) | (refine IJ_take (by omega) (by omega) ?_) | (refine IJ_how (by omega) ?_) | (refine IJ_by (by omega) ?_)))), (⟨fun _ => ⟨(by rw [hq3, show v5_72.toInt.toNat = (g 126 0).toNat by omega]), (by rw [(show g34 110 = g26 110 from funext fun j => hf35 110 j (by decide) (by decide)), ha0, show (v4_41.toInt - p2.toInt).toNat = (p3.toInt - p2.toInt + 1).toNat by omega]), (by rw [hq1, show v5_72.toInt.toNat = (g 126 0).toNat by omega]), (by rw [hq2, show v5_72.toInt.toNat = (g 126 0).toNat by omega])⟩, fun q => absurd (by omega) q⟩)⟩, ok1 ht hG⟩, hS.F ht⟩) hS.2.2 dX9_shut_256
                    · skip
                      refine lv_aload_n hx hb dX9_shut_81 rfl (lv_at hl 2 rfl) ?_
                      refine get_X9_30 hx hb hA hown hE hG t_h0 wd_4_160 dX9_shut_82 (fun b42 (t_b42 : ty Γ b42 130) => ?_)
                      refine lv_iload hx hb dX9_shut_85 (lv_at hl 0 rfl) ?_
                      refine ald_mI hx hb hE hG 30 rfl (n := 200) rfl (lo := -2147483648) (hi := 2147483647) rfl rfl t_b42 (by omega) dX9_shut_87 (fun j44 x43 h45 h46 h47 => ?_)
                      clear h47
                      obtain rfl : j44 = v5_72.toInt.toNat := by omega
                      replace h46 : x43.toInt = g34 130 v5_72.toInt.toNat := h46
                      have hk48 : g34 130 v5_72.toInt.toNat = g26 130 v5_72.toInt.toNat := hf35 130 v5_72.toInt.toNat (by decide) (by decide)
                      have hk49 : g26 130 v5_72.toInt.toNat = (gs g 100 0 x1.toInt) 130 v5_72.toInt.toNat := hf27 130 v5_72.toInt.toNat (by decide)
                      replace hk49 : g26 130 v5_72.toInt.toNat = g 130 v5_72.toInt.toNat := by rw [hk49, gs_c _ _ _ _ (by decide)]
                      replace h46 : x43.toInt = g 130 v5_72.toInt.toNat := by rw [h46, hf35 130 v5_72.toInt.toNat (by decide) (by decide), hf27 130 v5_72.toInt.toNat (by decide), gs_c _ _ _ _ (by decide)]
                      refine lv_aload_n hx hb dX9_shut_88 rfl (lv_at hl 2 rfl) ?_
                      refine get_X9_11 hx hb hA hown hE hG t_h0 wd_4_141 dX9_shut_89 (fun x50 h51 => ?_)
                      replace h51 : x50.toInt = g 111 0 := by rw [h51, hf35 111 0 (by decide) (by decide), hf27 111 0 (by decide), gs_c _ _ _ _ (by decide)]
                      have hk53 : g34 111 0 = g26 111 0 := hf35 111 0 (by decide) (by decide)
                      have hk54 : g26 111 0 = (gs g 100 0 x1.toInt) 111 0 := hf27 111 0 (by decide)
                      replace hk54 : g26 111 0 = g 111 0 := by rw [hk54, gs_c _ _ _ _ (by decide)]
                      refine ty_icmp_ne (tgt := 248) hx hb dX9_shut_92 (by decide) (fun c55 => ?_) (fun c55 => ?_)
                      · skip
                        obtain ⟨x56, h57⟩ : ∃ y : Int32, y = v5_72 + Int32.ofInt (1) := ⟨_, rfl⟩
                        try have h58 : x56.toInt = v5_72.toInt + (1) := ty_inc h57 (by decide) (by omega) (by omega)
                        refine lv_iinc (v := x56) (lv' := [(5, .int x56), (4, .int v4_72), (0, .ref h0), (1, .int p1), (2, .int p2), (3, .int p3)]) hx hb dX9_shut_248 hl (k := 0) rfl h57.symm (by decide) rfl (fun ls hl => ?_)
                        refine lv_goto (tgt := 72) hx hb dX9_shut_251 (by decide) ?_
                        exact ih_72 x56 v4_72 g34 _ _ ls (by omega) (by omega) (by omega) (fun c j h106 h132 => by rw [hf35 c j h106 h132]) (by (repeat (first | with_reducible assumption | (refine IJ_c (by decide) (by decide) (by decide) ?_) | (refine IJ_take (by omega) (by omega) ?_) | (refine IJ_how (by omega) ?_) | (refine IJ_by (by omega) ?_)))) (by rw [show x56.toInt.toNat = v5_72.toInt.toNat + 1 by omega, sh_n (by rw [← hq2]; omega)]; exact hq1) (by rw [show x56.toInt.toNat = v5_72.toInt.toNat + 1 by omega, sh_n (by rw [← hq2]; omega)]; exact hq2) (by rw [show x56.toInt.toNat = v5_72.toInt.toNat + 1 by omega, sh_n (by rw [← hq2]; omega)]; exact hq3) hG hS (lv_sub hl [0, 1, 2, 3, 4, 5] rfl)
                      · skip
                        refine lv_aload_n hx hb dX9_shut_95 rfl (lv_at hl 2 rfl) ?_
                        refine get_X9_28 hx hb hA hown hE hG t_h0 wd_4_158 dX9_shut_96 (fun b59 (t_b59 : ty Γ b59 128) => ?_)
                        refine lv_iload hx hb dX9_shut_99 (lv_at hl 0 rfl) ?_
                        refine ald_mI hx hb hE hG 28 rfl (n := 200) rfl (lo := 0) (hi := 5) rfl rfl t_b59 (by omega) dX9_shut_101 (fun j61 x60 h62 h63 h64 => ?_)
                        obtain rfl : j61 = v5_72.toInt.toNat := by omega
                        replace h63 : x60.toInt = g34 128 v5_72.toInt.toNat := h63
                        have hk65 : g34 128 v5_72.toInt.toNat = g26 128 v5_72.toInt.toNat := hf35 128 v5_72.toInt.toNat (by decide) (by decide)
                        have hk66 : g26 128 v5_72.toInt.toNat = (gs g 100 0 x1.toInt) 128 v5_72.toInt.toNat := hf27 128 v5_72.toInt.toNat (by decide)
                        replace hk66 : g26 128 v5_72.toInt.toNat = g 128 v5_72.toInt.toNat := by rw [hk66, gs_c _ _ _ _ (by decide)]
                        replace h63 : x60.toInt = g 128 v5_72.toInt.toNat := by rw [h63, hf35 128 v5_72.toInt.toNat (by decide) (by decide), hf27 128 v5_72.toInt.toNat (by decide), gs_c _ _ _ _ (by decide)]
                        refine lv_iload_n hx hb dX9_shut_102 rfl (lv_at hl 3 rfl) ?_
                        refine ty_icmp_ne (tgt := 248) hx hb dX9_shut_103 (by decide) (fun c67 => ?_) (fun c67 => ?_)
                        · skip
                          obtain ⟨x68, h69⟩ : ∃ y : Int32, y = v5_72 + Int32.ofInt (1) := ⟨_, rfl⟩
                          try have h70 : x68.toInt = v5_72.toInt + (1) := ty_inc h69 (by decide) (by omega) (by omega)
                          refine lv_iinc (v := x68) (lv' := [(5, .int x68), (4, .int v4_72), (0, .ref h0), (1, .int p1), (2, .int p2), (3, .int p3)]) hx hb dX9_shut_248 hl (k := 0) rfl h69.symm (by decide) rfl (fun ls hl => ?_)
                          refine lv_goto (tgt := 72) hx hb dX9_shut_251 (by decide) ?_
                          exact ih_72 x68 v4_72 g34 _ _ ls (by omega) (by omega) (by omega) (fun c j h106 h132 => by rw [hf35 c j h106 h132]) (by (repeat (first | with_reducible assumption | (refine IJ_c (by decide) (by decide) (by decide) ?_) | (refine IJ_take (by omega) (by omega) ?_) | (refine IJ_how (by omega) ?_) | (refine IJ_by (by omega) ?_)))) (by rw [show x68.toInt.toNat = v5_72.toInt.toNat + 1 by omega, sh_n (by rw [← hq2]; omega)]; exact hq1) (by rw [show x68.toInt.toNat = v5_72.toInt.toNat + 1 by omega, sh_n (by rw [← hq2]; omega)]; exact hq2) (by rw [show x68.toInt.toNat = v5_72.toInt.toNat + 1 by omega, sh_n (by rw [← hq2]; omega)]; exact hq3) hG hS (lv_sub hl [0, 1, 2, 3, 4, 5] rfl)
                        · skip
                          refine lv_aload_n hx hb dX9_shut_106 rfl (lv_at hl 2 rfl) ?_
                          refine get_X9_29 hx hb hA hown hE hG t_h0 wd_4_159 dX9_shut_107 (fun b71 (t_b71 : ty Γ b71 129) => ?_)
                          refine lv_iload hx hb dX9_shut_110 (lv_at hl 0 rfl) ?_
                          refine ald_mI hx hb hE hG 29 rfl (n := 200) rfl (lo := -2147483648) (hi := 2147483647) rfl rfl t_b71 (by omega) dX9_shut_112 (fun j73 x72 h74 h75 h76 => ?_)
                          clear h76
                          obtain rfl : j73 = v5_72.toInt.toNat := by omega
                          replace h75 : x72.toInt = g34 129 v5_72.toInt.toNat := h75
                          have hk77 : g34 129 v5_72.toInt.toNat = g26 129 v5_72.toInt.toNat := hf35 129 v5_72.toInt.toNat (by decide) (by decide)
                          have hk78 : g26 129 v5_72.toInt.toNat = (gs g 100 0 x1.toInt) 129 v5_72.toInt.toNat := hf27 129 v5_72.toInt.toNat (by decide)
                          replace hk78 : g26 129 v5_72.toInt.toNat = g 129 v5_72.toInt.toNat := by rw [hk78, gs_c _ _ _ _ (by decide)]
                          replace h75 : x72.toInt = g 129 v5_72.toInt.toNat := by rw [h75, hf35 129 v5_72.toInt.toNat (by decide) (by decide), hf27 129 v5_72.toInt.toNat (by decide), gs_c _ _ _ _ (by decide)]
                          refine lv_iload_n hx hb dX9_shut_113 rfl (lv_at hl 4 rfl) ?_
                          refine lv_iload_n hx hb dX9_shut_114 rfl (lv_at hl 5 rfl) ?_
                          refine cI (va_runS (As := [.int x72, .int p2, .int p3]) (rest := []) ⟨hx, hb, hml, hown, hA⟩ (k_X9_within l dC dI dA sz X Γ hU g34 x72 p2 p3   ) ⟨callB_of 3 hA (al_A wd_5_38) rfl rfl rfl (hA _ wd_1_7) (hA _ wd_5_36) (by decide +kernel) ⟨Nat.le_of_ble_eq_true rfl, Nat.le_of_ble_eq_true rfl⟩, hA _ wd_5_37⟩ ⟨bl, fun U hU9 hW9 => ⟨rfl, by rw [hU9]; exact hG, hE.go hS hU9 hW9⟩⟩ rfl rfl hl.1 rfl (lv_room (Nat.le_of_ble_eq_true rfl)) dX9_shut_115 ⟨Nat.zero_le _, Nat.zero_le _⟩) hS (fun x81 u79 H locs w80 hG hS => ?_)
                          obtain ⟨eu82, w80⟩ := w80
                          rw [eu82] at hG
                          refine ty_if_eq (tgt := 248) hx hb dX9_shut_118 (by decide) (fun c83 => ?_) (fun c83 => ?_)
                          · skip
                            obtain ⟨x84, h85⟩ : ∃ y : Int32, y = v5_72 + Int32.ofInt (1) := ⟨_, rfl⟩
                            try have h86 : x84.toInt = v5_72.toInt + (1) := ty_inc h85 (by decide) (by omega) (by omega)
                            refine lv_iinc (v := x84) (lv' := [(5, .int x84), (4, .int v4_72), (0, .ref h0), (1, .int p1), (2, .int p2), (3, .int p3)]) hx hb dX9_shut_248 hl (k := 0) rfl h85.symm (by decide) rfl (fun ls hl => ?_)
                            refine lv_goto (tgt := 72) hx hb dX9_shut_251 (by decide) ?_
                            exact ih_72 x84 v4_72 g34 _ _ ls (by omega) (by omega) (by omega) (fun c j h106 h132 => by rw [hf35 c j h106 h132]) (by (repeat (first | with_reducible assumption | (refine IJ_c (by decide) (by decide) (by decide) ?_) | (refine IJ_take (by omega) (by omega) ?_) | (refine IJ_how (by omega) ?_) | (refine IJ_by (by omega) ?_)))) (by rw [show x84.toInt.toNat = v5_72.toInt.toNat + 1 by omega, sh_n (by rw [← hq2]; omega)]; exact hq1) (by rw [show x84.toInt.toNat = v5_72.toInt.toNat + 1 by omega, sh_n (by rw [← hq2]; omega)]; exact hq2) (by rw [show x84.toInt.toNat = v5_72.toInt.toNat + 1 by omega, sh_n (by rw [← hq2]; omega)]; exact hq3) hG hS (lv_sub hl [0, 1, 2, 3, 4, 5] rfl)
                          · skip
                            refine lv_aload_n hx hb dX9_shut_121 rfl (lv_at hl 2 rfl) ?_
                            refine get_X9_32 hx hb hA hown hE hG t_h0 wd_4_162 dX9_shut_122 (fun b87 (t_b87 : ty Γ b87 132) => ?_)
                            refine lv_iload hx hb dX9_shut_125 (lv_at hl 0 rfl) ?_
                            refine ald_mI hx hb hE hG 32 rfl (n := 200) rfl (lo := 0) (hi := 5) rfl rfl t_b87 (by omega) dX9_shut_127 (fun j89 x88 h90 h91 h92 => ?_)
                            obtain rfl : j89 = v5_72.toInt.toNat := by omega
                            replace h91 : x88.toInt = g34 132 v5_72.toInt.toNat := h91
                            refine ty_iconst hx hb (4) dX9_shut_128 (by decide) (fun x93 h94 => ?_)
                            refine ty_icmp_lt (tgt := 135) hx hb dX9_shut_129 (by decide) (fun c95 => ?_) (fun c95 => ?_)
                            · skip
                              obtain ⟨x96, h97⟩ : ∃ y : Int32, y = v4_72 + Int32.ofInt (1) := ⟨_, rfl⟩
                              try have h98 : x96.toInt = v4_72.toInt + (1) := ty_inc h97 (by decide) (by omega) (by omega)
                              refine lv_iinc (v := x96) (lv' := [(4, .int x96), (5, .int v5_72), (0, .ref h0), (1, .int p1), (2, .int p2), (3, .int p3)]) hx hb dX9_shut_135 hl (k := 1) rfl h97.symm (by decide) rfl (fun ls hl => ?_)
                              refine lv_aload_n hx hb dX9_shut_138 rfl (lv_at hl 2 rfl) ?_
                              refine get_X9_32 hx hb hA hown hE hG t_h0 wd_4_162 dX9_shut_139 (fun b99 (t_b99 : ty Γ b99 132) => ?_)
                              refine lv_iload hx hb dX9_shut_142 (lv_at hl 1 rfl) ?_
                              refine ald_mI hx hb hE hG 32 rfl (n := 200) rfl (lo := 0) (hi := 5) rfl rfl t_b99 (by omega) dX9_shut_144 (fun j101 x100 h102 h103 h104 => ?_)
                              obtain rfl : j101 = v5_72.toInt.toNat := by omega
                              replace h103 : x100.toInt = g34 132 v5_72.toInt.toNat := h103
                              refine ty_iconst hx hb (2) dX9_shut_145 (by decide) (fun x105 h106 => ?_)
                              refine ty_icmp_ne (tgt := 185) hx hb dX9_shut_146 (by decide) (fun c107 => ?_) (fun c107 => ?_)
                              · skip
                                refine lv_aload_n hx hb dX9_shut_185 rfl (lv_at hl 2 rfl) ?_
                                refine get_X9_32 hx hb hA hown hE hG t_h0 wd_4_162 dX9_shut_186 (fun b108 (t_b108 : ty Γ b108 132) => ?_)
                                refine lv_iload hx hb dX9_shut_189 (lv_at hl 1 rfl) ?_
                                refine ald_mI hx hb hE hG 32 rfl (n := 200) rfl (lo := 0) (hi := 5) rfl rfl t_b108 (by omega) dX9_shut_191 (fun j110 x109 h111 h112 h113 => ?_)
                                obtain rfl : j110 = v5_72.toInt.toNat := by omega
                                replace h112 : x109.toInt = g34 132 v5_72.toInt.toNat := h112
                                refine ty_iconst hx hb (1) dX9_shut_192 (by decide) (fun x114 h115 => ?_)
                                refine ty_icmp_eq (tgt := 207) hx hb dX9_shut_193 (by decide) (fun c116 => ?_) (fun c116 => ?_)
                                · skip
                                  refine lv_aload_n hx hb dX9_shut_207 rfl (lv_at hl 2 rfl) ?_
                                  refine get_X9_6 hx hb hA hown hE hG t_h0 wd_4_136 dX9_shut_208 (fun b117 (t_b117 : ty Γ b117 106) => ?_)
                                  refine lv_aload_n hx hb dX9_shut_211 rfl (lv_at hl 2 rfl) ?_
                                  refine get_X9_34 hx hb hA hown hE hG t_h0 wd_4_164 dX9_shut_212 (fun b118 (t_b118 : ty Γ b118 134) => ?_)
                                  refine lv_iload hx hb dX9_shut_215 (lv_at hl 1 rfl) ?_
                                  refine ald_mI hx hb hE hG 34 rfl (n := 200) rfl (lo := -1) (hi := 9) rfl rfl t_b118 (by omega) dX9_shut_217 (fun j120 x119 h121 h122 h123 => ?_)
                                  obtain rfl : j120 = v5_72.toInt.toNat := by omega
                                  replace h122 : x119.toInt = g34 134 v5_72.toInt.toNat := h122
                                  have hk124 : g34 134 v5_72.toInt.toNat = g26 134 v5_72.toInt.toNat := hf35 134 v5_72.toInt.toNat (by decide) (by decide)
                                  have hk125 : g26 134 v5_72.toInt.toNat = (gs g 100 0 x1.toInt) 134 v5_72.toInt.toNat := hf27 134 v5_72.toInt.toNat (by decide)
                                  replace hk125 : g26 134 v5_72.toInt.toNat = g 134 v5_72.toInt.toNat := by rw [hk125, gs_c _ _ _ _ (by decide)]
                                  replace h122 : x119.toInt = g 134 v5_72.toInt.toNat := by rw [h122, hf35 134 v5_72.toInt.toNat (by decide) (by decide), hf27 134 v5_72.toInt.toNat (by decide), gs_c _ _ _ _ (by decide)]
                                  have hJ := hq0.1 v5_72.toInt.toNat
                                  refine lv_dup2_11 hx hb dX9_shut_218 rfl rfl ?_
                                  refine ald_mI hx hb hE hG 6 rfl (n := 10) rfl (lo := -2147483648) (hi := 2147483647) rfl rfl t_b117 (by omega) dX9_shut_219 (fun j127 x126 h128 h129 h130 => ?_)
                                  clear h130
                                  obtain rfl : j127 = x119.toInt.toNat := by omega
                                  replace h129 : x126.toInt = g34 106 x119.toInt.toNat := h129
                                  replace h129 : x126.toInt = g34 106 ((g 134 v5_72.toInt.toNat).toNat) := by rw [h129, show x119.toInt.toNat = ((g 134 v5_72.toInt.toNat).toNat) by omega]
                                  refine lv_aload_n hx hb dX9_shut_220 rfl (lv_at hl 2 rfl) ?_
                                  refine get_X9_31 hx hb hA hown hE hG t_h0 wd_4_161 dX9_shut_221 (fun b131 (t_b131 : ty Γ b131 131) => ?_)
                                  refine lv_iload hx hb dX9_shut_224 (lv_at hl 1 rfl) ?_
                                  refine ald_mI hx hb hE hG 31 rfl (n := 200) rfl (lo := -2147483648) (hi := 2147483647) rfl rfl t_b131 (by omega) dX9_shut_226 (fun j133 x132 h134 h135 h136 => ?_)
                                  clear h136
                                  obtain rfl : j133 = v5_72.toInt.toNat := by omega
                                  replace h135 : x132.toInt = g34 131 v5_72.toInt.toNat := h135
                                  have hk137 : g34 131 v5_72.toInt.toNat = g26 131 v5_72.toInt.toNat := hf35 131 v5_72.toInt.toNat (by decide) (by decide)
                                  have hk138 : g26 131 v5_72.toInt.toNat = (gs g 100 0 x1.toInt) 131 v5_72.toInt.toNat := hf27 131 v5_72.toInt.toNat (by decide)
                                  replace hk138 : g26 131 v5_72.toInt.toNat = g 131 v5_72.toInt.toNat := by rw [hk138, gs_c _ _ _ _ (by decide)]
                                  replace h135 : x132.toInt = g 131 v5_72.toInt.toNat := by rw [h135, hf35 131 v5_72.toInt.toNat (by decide) (by decide), hf27 131 v5_72.toInt.toNat (by decide), gs_c _ _ _ _ (by decide)]
                                  refine ty_iadd hx hb dX9_shut_227 (fun x139 h140 => ?_)
                                  have h141 : x139.toInt = wa (g34 106 ((g 134 v5_72.toInt.toNat).toNat)) (g 131 v5_72.toInt.toNat) := by rw [ty_wa h140, h129, h135]
                                  refine ast_mI hx hb hE hG hS hU 6 rfl (n := 10) rfl (lo := -2147483648) (hi := 2147483647) rfl rfl rfl t_b117 (rgD _) (by omega) dX9_shut_228 (fun H locs hG hS => ?_)
                                  rw [show x119.toInt.toNat = ((g 134 v5_72.toInt.toNat).toNat) by omega] at hG
                                  refine lv_aload_n hx hb dX9_shut_229 rfl (lv_at hl 2 rfl) ?_
                                  refine get_X9_32 hx hb hA hown hE hG t_h0 wd_4_162 dX9_shut_230 (fun b142 (t_b142 : ty Γ b142 132) => ?_)
                                  refine lv_iload hx hb dX9_shut_233 (lv_at hl 1 rfl) ?_
                                  refine ty_iconst hx hb (5) dX9_shut_235 (by decide) (fun x143 h144 => ?_)
                                  refine ast_mI hx hb hE hG hS hU 32 rfl (n := 200) rfl (lo := 0) (hi := 5) rfl rfl rfl t_b142 (by omega) (by omega) dX9_shut_236 (fun H locs hG hS => ?_)
                                  refine lv_goto (tgt := 248) hx hb dX9_shut_237 (by decide) ?_
                                  obtain ⟨x145, h146⟩ : ∃ y : Int32, y = v5_72 + Int32.ofInt (1) := ⟨_, rfl⟩
                                  try have h147 : x145.toInt = v5_72.toInt + (1) := ty_inc h146 (by decide) (by omega) (by omega)
                                  refine lv_iinc (v := x145) (lv' := [(5, .int x145), (4, .int x96), (0, .ref h0), (1, .int p1), (2, .int p2), (3, .int p3)]) hx hb dX9_shut_248 hl (k := 1) rfl h146.symm (by decide) rfl (fun ls hl => ?_)
                                  refine lv_goto (tgt := 72) hx hb dX9_shut_251 (by decide) ?_
                                  have e148 : (gs (gs g34 106 ((g 134 v5_72.toInt.toNat).toNat) x139.toInt) 132 v5_72.toInt.toNat x143.toInt) 126 0 = g34 126 0 := by rw [gs_c _ _ _ _ (by decide), gs_c _ _ _ _ (by decide)]
                                  exact ih_72 x145 x96 (gs (gs g34 106 ((g 134 v5_72.toInt.toNat).toNat) x139.toInt) 132 v5_72.toInt.toNat x143.toInt) _ _ ls (by omega) (by omega) (by omega) (fun c j h106 h132 => by rw [gs_c _ _ _ _ h132, gs_c _ _ _ _ h106, hf35 c j h106 h132]) (by (repeat (first | with_reducible assumption | (refine IJ_c (by decide) (by decide) (by decide) ?_) | (refine IJ_take (by omega) (by omega) ?_) | (refine IJ_how (by omega) ?_) | (refine IJ_by (by omega) ?_)))) (by rw [show x145.toInt.toNat = v5_72.toInt.toNat + 1 by omega, sh_y (by rw [← hq2]; omega)]; show (gs (gs g34 106 ((g 134 v5_72.toInt.toNat).toNat) x139.toInt) 132 v5_72.toInt.toNat x143.toInt) 106 = es_p _ _ _ _ _ _; rw [← hq1, ← hq2]; rw [gs_r _ _ _ (by decide), pz_gs]; exact es_2 (by omega) (by omega) (by omega)) (by rw [show x145.toInt.toNat = v5_72.toInt.toNat + 1 by omega, sh_y (by rw [← hq2]; omega)]; show (gs (gs g34 106 ((g 134 v5_72.toInt.toNat).toNat) x139.toInt) 132 v5_72.toInt.toNat x143.toInt) 132 = es_s _ _; rw [← hq2]; rw [pz_gs, gs_r _ _ _ (by decide)]; exact es_5 (by omega) (by omega)) (by rw [show x145.toInt.toNat = v5_72.toInt.toNat + 1 by omega, sh_y (by rw [← hq2]; omega)]; show _ = (sh_f (g 127) (g 134) (g 131) (g 128) (g 129) (g 130) p1.toInt p2.toInt p3.toInt (g 111 0) (g 106) (g 132) v5_72.toInt.toNat).2.2 + 1; omega) hG hS (lv_sub hl [0, 1, 2, 3, 4, 5] rfl)
                                · skip
                                  refine lv_aload_n hx hb dX9_shut_196 rfl (lv_at hl 2 rfl) ?_
                                  refine get_X9_32 hx hb hA hown hE hG t_h0 wd_4_162 dX9_shut_197 (fun b149 (t_b149 : ty Γ b149 132) => ?_)
                                  refine lv_iload hx hb dX9_shut_200 (lv_at hl 1 rfl) ?_
                                  refine ald_mI hx hb hE hG 32 rfl (n := 200) rfl (lo := 0) (hi := 5) rfl rfl t_b149 (by omega) dX9_shut_202 (fun j151 x150 h152 h153 h154 => ?_)
                                  obtain rfl : j151 = v5_72.toInt.toNat := by omega
                                  replace h153 : x150.toInt = g34 132 v5_72.toInt.toNat := h153
                                  refine ty_iconst hx hb (3) dX9_shut_203 (by decide) (fun x155 h156 => ?_)
                                  refine ty_icmp_ne (tgt := 240) hx hb dX9_shut_204 (by decide) (fun c157 => ?_) (fun c157 => ?_)
                                  · skip
                                    refine lv_aload_n hx hb dX9_shut_240 rfl (lv_at hl 2 rfl) ?_
                                    refine get_X9_32 hx hb hA hown hE hG t_h0 wd_4_162 dX9_shut_241 (fun b158 (t_b158 : ty Γ b158 132) => ?_)
                                    refine lv_iload hx hb dX9_shut_244 (lv_at hl 1 rfl) ?_
                                    refine ty_iconst hx hb (4) dX9_shut_246 (by decide) (fun x159 h160 => ?_)
                                    refine ast_mI hx hb hE hG hS hU 32 rfl (n := 200) rfl (lo := 0) (hi := 5) rfl rfl rfl t_b158 (by omega) (by omega) dX9_shut_247 (fun H locs hG hS => ?_)
                                    obtain ⟨x161, h162⟩ : ∃ y : Int32, y = v5_72 + Int32.ofInt (1) := ⟨_, rfl⟩
                                    try have h163 : x161.toInt = v5_72.toInt + (1) := ty_inc h162 (by decide) (by omega) (by omega)
                                    refine lv_iinc (v := x161) (lv' := [(5, .int x161), (4, .int x96), (0, .ref h0), (1, .int p1), (2, .int p2), (3, .int p3)]) hx hb dX9_shut_248 hl (k := 1) rfl h162.symm (by decide) rfl (fun ls hl => ?_)
                                    refine lv_goto (tgt := 72) hx hb dX9_shut_251 (by decide) ?_
                                    have e164 : (gs g34 132 v5_72.toInt.toNat x159.toInt) 126 0 = g34 126 0 := by rw [gs_c _ _ _ _ (by decide)]
                                    exact ih_72 x161 x96 (gs g34 132 v5_72.toInt.toNat x159.toInt) _ _ ls (by omega) (by omega) (by omega) (fun c j h106 h132 => by rw [gs_c _ _ _ _ h132, hf35 c j h106 h132]) (by (repeat (first | with_reducible assumption | (refine IJ_c (by decide) (by decide) (by decide) ?_) | (refine IJ_take (by omega) (by omega) ?_) | (refine IJ_how (by omega) ?_) | (refine IJ_by (by omega) ?_)))) (by rw [show x161.toInt.toNat = v5_72.toInt.toNat + 1 by omega, sh_y (by rw [← hq2]; omega)]; show (gs g34 132 v5_72.toInt.toNat x159.toInt) 106 = es_p _ _ _ _ _ _; rw [← hq1, ← hq2]; rw [gs_r _ _ _ (by decide)]; exact es_4 (by omega) (by omega)) (by rw [show x161.toInt.toNat = v5_72.toInt.toNat + 1 by omega, sh_y (by rw [← hq2]; omega)]; show (gs g34 132 v5_72.toInt.toNat x159.toInt) 132 = es_s _ _; rw [← hq2]; rw [pz_gs]; exact es_6 (by omega) (by omega)) (by rw [show x161.toInt.toNat = v5_72.toInt.toNat + 1 by omega, sh_y (by rw [← hq2]; omega)]; show _ = (sh_f (g 127) (g 134) (g 131) (g 128) (g 129) (g 130) p1.toInt p2.toInt p3.toInt (g 111 0) (g 106) (g 132) v5_72.toInt.toNat).2.2 + 1; omega) hG hS (lv_sub hl [0, 1, 2, 3, 4, 5] rfl)
                                  · skip
                                    refine lv_aload_n hx hb dX9_shut_207 rfl (lv_at hl 2 rfl) ?_
                                    refine get_X9_6 hx hb hA hown hE hG t_h0 wd_4_136 dX9_shut_208 (fun b165 (t_b165 : ty Γ b165 106) => ?_)
                                    refine lv_aload_n hx hb dX9_shut_211 rfl (lv_at hl 2 rfl) ?_
                                    refine get_X9_34 hx hb hA hown hE hG t_h0 wd_4_164 dX9_shut_212 (fun b166 (t_b166 : ty Γ b166 134) => ?_)
                                    refine lv_iload hx hb dX9_shut_215 (lv_at hl 1 rfl) ?_
                                    refine ald_mI hx hb hE hG 34 rfl (n := 200) rfl (lo := -1) (hi := 9) rfl rfl t_b166 (by omega) dX9_shut_217 (fun j168 x167 h169 h170 h171 => ?_)
                                    obtain rfl : j168 = v5_72.toInt.toNat := by omega
                                    replace h170 : x167.toInt = g34 134 v5_72.toInt.toNat := h170
                                    have hk172 : g34 134 v5_72.toInt.toNat = g26 134 v5_72.toInt.toNat := hf35 134 v5_72.toInt.toNat (by decide) (by decide)
                                    have hk173 : g26 134 v5_72.toInt.toNat = (gs g 100 0 x1.toInt) 134 v5_72.toInt.toNat := hf27 134 v5_72.toInt.toNat (by decide)
                                    replace hk173 : g26 134 v5_72.toInt.toNat = g 134 v5_72.toInt.toNat := by rw [hk173, gs_c _ _ _ _ (by decide)]
                                    replace h170 : x167.toInt = g 134 v5_72.toInt.toNat := by rw [h170, hf35 134 v5_72.toInt.toNat (by decide) (by decide), hf27 134 v5_72.toInt.toNat (by decide), gs_c _ _ _ _ (by decide)]
                                    have hJ := hq0.1 v5_72.toInt.toNat
                                    refine lv_dup2_11 hx hb dX9_shut_218 rfl rfl ?_
                                    refine ald_mI hx hb hE hG 6 rfl (n := 10) rfl (lo := -2147483648) (hi := 2147483647) rfl rfl t_b165 (by omega) dX9_shut_219 (fun j175 x174 h176 h177 h178 => ?_)
                                    clear h178
                                    obtain rfl : j175 = x167.toInt.toNat := by omega
                                    replace h177 : x174.toInt = g34 106 x167.toInt.toNat := h177
                                    replace h177 : x174.toInt = g34 106 ((g 134 v5_72.toInt.toNat).toNat) := by rw [h177, show x167.toInt.toNat = ((g 134 v5_72.toInt.toNat).toNat) by omega]
                                    refine lv_aload_n hx hb dX9_shut_220 rfl (lv_at hl 2 rfl) ?_
                                    refine get_X9_31 hx hb hA hown hE hG t_h0 wd_4_161 dX9_shut_221 (fun b179 (t_b179 : ty Γ b179 131) => ?_)
                                    refine lv_iload hx hb dX9_shut_224 (lv_at hl 1 rfl) ?_
                                    refine ald_mI hx hb hE hG 31 rfl (n := 200) rfl (lo := -2147483648) (hi := 2147483647) rfl rfl t_b179 (by omega) dX9_shut_226 (fun j181 x180 h182 h183 h184 => ?_)
                                    clear h184
                                    obtain rfl : j181 = v5_72.toInt.toNat := by omega
                                    replace h183 : x180.toInt = g34 131 v5_72.toInt.toNat := h183
                                    have hk185 : g34 131 v5_72.toInt.toNat = g26 131 v5_72.toInt.toNat := hf35 131 v5_72.toInt.toNat (by decide) (by decide)
                                    have hk186 : g26 131 v5_72.toInt.toNat = (gs g 100 0 x1.toInt) 131 v5_72.toInt.toNat := hf27 131 v5_72.toInt.toNat (by decide)
                                    replace hk186 : g26 131 v5_72.toInt.toNat = g 131 v5_72.toInt.toNat := by rw [hk186, gs_c _ _ _ _ (by decide)]
                                    replace h183 : x180.toInt = g 131 v5_72.toInt.toNat := by rw [h183, hf35 131 v5_72.toInt.toNat (by decide) (by decide), hf27 131 v5_72.toInt.toNat (by decide), gs_c _ _ _ _ (by decide)]
                                    refine ty_iadd hx hb dX9_shut_227 (fun x187 h188 => ?_)
                                    have h189 : x187.toInt = wa (g34 106 ((g 134 v5_72.toInt.toNat).toNat)) (g 131 v5_72.toInt.toNat) := by rw [ty_wa h188, h177, h183]
                                    refine ast_mI hx hb hE hG hS hU 6 rfl (n := 10) rfl (lo := -2147483648) (hi := 2147483647) rfl rfl rfl t_b165 (rgD _) (by omega) dX9_shut_228 (fun H locs hG hS => ?_)
                                    rw [show x167.toInt.toNat = ((g 134 v5_72.toInt.toNat).toNat) by omega] at hG
                                    refine lv_aload_n hx hb dX9_shut_229 rfl (lv_at hl 2 rfl) ?_
                                    refine get_X9_32 hx hb hA hown hE hG t_h0 wd_4_162 dX9_shut_230 (fun b190 (t_b190 : ty Γ b190 132) => ?_)
                                    refine lv_iload hx hb dX9_shut_233 (lv_at hl 1 rfl) ?_
                                    refine ty_iconst hx hb (5) dX9_shut_235 (by decide) (fun x191 h192 => ?_)
                                    refine ast_mI hx hb hE hG hS hU 32 rfl (n := 200) rfl (lo := 0) (hi := 5) rfl rfl rfl t_b190 (by omega) (by omega) dX9_shut_236 (fun H locs hG hS => ?_)
                                    refine lv_goto (tgt := 248) hx hb dX9_shut_237 (by decide) ?_
                                    obtain ⟨x193, h194⟩ : ∃ y : Int32, y = v5_72 + Int32.ofInt (1) := ⟨_, rfl⟩
                                    try have h195 : x193.toInt = v5_72.toInt + (1) := ty_inc h194 (by decide) (by omega) (by omega)
                                    refine lv_iinc (v := x193) (lv' := [(5, .int x193), (4, .int x96), (0, .ref h0), (1, .int p1), (2, .int p2), (3, .int p3)]) hx hb dX9_shut_248 hl (k := 1) rfl h194.symm (by decide) rfl (fun ls hl => ?_)
                                    refine lv_goto (tgt := 72) hx hb dX9_shut_251 (by decide) ?_
                                    have e196 : (gs (gs g34 106 ((g 134 v5_72.toInt.toNat).toNat) x187.toInt) 132 v5_72.toInt.toNat x191.toInt) 126 0 = g34 126 0 := by rw [gs_c _ _ _ _ (by decide), gs_c _ _ _ _ (by decide)]
                                    exact ih_72 x193 x96 (gs (gs g34 106 ((g 134 v5_72.toInt.toNat).toNat) x187.toInt) 132 v5_72.toInt.toNat x191.toInt) _ _ ls (by omega) (by omega) (by omega) (fun c j h106 h132 => by rw [gs_c _ _ _ _ h132, gs_c _ _ _ _ h106, hf35 c j h106 h132]) (by (repeat (first | with_reducible assumption | (refine IJ_c (by decide) (by decide) (by decide) ?_) | (refine IJ_take (by omega) (by omega) ?_) | (refine IJ_how (by omega) ?_) | (refine IJ_by (by omega) ?_)))) (by rw [show x193.toInt.toNat = v5_72.toInt.toNat + 1 by omega, sh_y (by rw [← hq2]; omega)]; show (gs (gs g34 106 ((g 134 v5_72.toInt.toNat).toNat) x187.toInt) 132 v5_72.toInt.toNat x191.toInt) 106 = es_p _ _ _ _ _ _; rw [← hq1, ← hq2]; rw [gs_r _ _ _ (by decide), pz_gs]; exact es_2 (by omega) (by omega) (by omega)) (by rw [show x193.toInt.toNat = v5_72.toInt.toNat + 1 by omega, sh_y (by rw [← hq2]; omega)]; show (gs (gs g34 106 ((g 134 v5_72.toInt.toNat).toNat) x187.toInt) 132 v5_72.toInt.toNat x191.toInt) 132 = es_s _ _; rw [← hq2]; rw [pz_gs, gs_r _ _ _ (by decide)]; exact es_5 (by omega) (by omega)) (by rw [show x193.toInt.toNat = v5_72.toInt.toNat + 1 by omega, sh_y (by rw [← hq2]; omega)]; show _ = (sh_f (g 127) (g 134) (g 131) (g 128) (g 129) (g 130) p1.toInt p2.toInt p3.toInt (g 111 0) (g 106) (g 132) v5_72.toInt.toNat).2.2 + 1; omega) hG hS (lv_sub hl [0, 1, 2, 3, 4, 5] rfl)
                              · skip
                                refine lv_aload_n hx hb dX9_shut_149 rfl (lv_at hl 2 rfl) ?_
                                refine get_X9_6 hx hb hA hown hE hG t_h0 wd_4_136 dX9_shut_150 (fun b197 (t_b197 : ty Γ b197 106) => ?_)
                                refine lv_aload_n hx hb dX9_shut_153 rfl (lv_at hl 2 rfl) ?_
                                refine get_X9_27 hx hb hA hown hE hG t_h0 wd_4_157 dX9_shut_154 (fun b198 (t_b198 : ty Γ b198 127) => ?_)
                                refine lv_iload hx hb dX9_shut_157 (lv_at hl 1 rfl) ?_
                                refine ald_mI hx hb hE hG 27 rfl (n := 200) rfl (lo := 0) (hi := 9) rfl rfl t_b198 (by omega) dX9_shut_159 (fun j200 x199 h201 h202 h203 => ?_)
                                obtain rfl : j200 = v5_72.toInt.toNat := by omega
                                replace h202 : x199.toInt = g34 127 v5_72.toInt.toNat := h202
                                have hk204 : g34 127 v5_72.toInt.toNat = g26 127 v5_72.toInt.toNat := hf35 127 v5_72.toInt.toNat (by decide) (by decide)
                                have hk205 : g26 127 v5_72.toInt.toNat = (gs g 100 0 x1.toInt) 127 v5_72.toInt.toNat := hf27 127 v5_72.toInt.toNat (by decide)
                                replace hk205 : g26 127 v5_72.toInt.toNat = g 127 v5_72.toInt.toNat := by rw [hk205, gs_c _ _ _ _ (by decide)]
                                replace h202 : x199.toInt = g 127 v5_72.toInt.toNat := by rw [h202, hf35 127 v5_72.toInt.toNat (by decide) (by decide), hf27 127 v5_72.toInt.toNat (by decide), gs_c _ _ _ _ (by decide)]
                                refine ty_iconst hx hb (0) dX9_shut_160 (by decide) (fun x206 h207 => ?_)
                                refine lv_aload_n hx hb dX9_shut_161 rfl (lv_at hl 2 rfl) ?_
                                refine get_X9_6 hx hb hA hown hE hG t_h0 wd_4_136 dX9_shut_162 (fun b208 (t_b208 : ty Γ b208 106) => ?_)
                                refine lv_aload_n hx hb dX9_shut_165 rfl (lv_at hl 2 rfl) ?_
                                refine get_X9_27 hx hb hA hown hE hG t_h0 wd_4_157 dX9_shut_166 (fun b209 (t_b209 : ty Γ b209 127) => ?_)
                                refine lv_iload hx hb dX9_shut_169 (lv_at hl 1 rfl) ?_
                                refine ald_mI hx hb hE hG 27 rfl (n := 200) rfl (lo := 0) (hi := 9) rfl rfl t_b209 (by omega) dX9_shut_171 (fun j211 x210 h212 h213 h214 => ?_)
                                obtain rfl : j211 = v5_72.toInt.toNat := by omega
                                replace h213 : x210.toInt = g34 127 v5_72.toInt.toNat := h213
                                replace h213 : x210.toInt = g 127 v5_72.toInt.toNat := by rw [h213, hf35 127 v5_72.toInt.toNat (by decide) (by decide), hf27 127 v5_72.toInt.toNat (by decide), gs_c _ _ _ _ (by decide)]
                                refine ald_mI hx hb hE hG 6 rfl (n := 10) rfl (lo := -2147483648) (hi := 2147483647) rfl rfl t_b208 (by omega) dX9_shut_172 (fun j216 x215 h217 h218 h219 => ?_)
                                clear h219
                                obtain rfl : j216 = x210.toInt.toNat := by omega
                                replace h218 : x215.toInt = g34 106 x210.toInt.toNat := h218
                                replace h218 : x215.toInt = g34 106 ((g 127 v5_72.toInt.toNat).toNat) := by rw [h218, show x210.toInt.toNat = ((g 127 v5_72.toInt.toNat).toNat) by omega]
                                refine lv_aload_n hx hb dX9_shut_173 rfl (lv_at hl 2 rfl) ?_
                                refine get_X9_31 hx hb hA hown hE hG t_h0 wd_4_161 dX9_shut_174 (fun b220 (t_b220 : ty Γ b220 131) => ?_)
                                refine lv_iload hx hb dX9_shut_177 (lv_at hl 1 rfl) ?_
                                refine ald_mI hx hb hE hG 31 rfl (n := 200) rfl (lo := -2147483648) (hi := 2147483647) rfl rfl t_b220 (by omega) dX9_shut_179 (fun j222 x221 h223 h224 h225 => ?_)
                                clear h225
                                obtain rfl : j222 = v5_72.toInt.toNat := by omega
                                replace h224 : x221.toInt = g34 131 v5_72.toInt.toNat := h224
                                have hk226 : g34 131 v5_72.toInt.toNat = g26 131 v5_72.toInt.toNat := hf35 131 v5_72.toInt.toNat (by decide) (by decide)
                                have hk227 : g26 131 v5_72.toInt.toNat = (gs g 100 0 x1.toInt) 131 v5_72.toInt.toNat := hf27 131 v5_72.toInt.toNat (by decide)
                                replace hk227 : g26 131 v5_72.toInt.toNat = g 131 v5_72.toInt.toNat := by rw [hk227, gs_c _ _ _ _ (by decide)]
                                replace h224 : x221.toInt = g 131 v5_72.toInt.toNat := by rw [h224, hf35 131 v5_72.toInt.toNat (by decide) (by decide), hf27 131 v5_72.toInt.toNat (by decide), gs_c _ _ _ _ (by decide)]
                                refine ty_isub hx hb dX9_shut_180 (fun x228 h229 => ?_)
                                have h230 : x228.toInt = ws (g34 106 ((g 127 v5_72.toInt.toNat).toNat)) (g 131 v5_72.toInt.toNat) := by rw [ty_ws h229, h218, h224]
                                refine va_mmax hx hb (hml.trans hl.1.symm) hown (hA _ wd_5_189) (hA _ wd_2_199) (hA _ wd_1_14) (hA _ wd_2_200) (Nat.le_of_ble_eq_true rfl) (Nat.le_of_ble_eq_true rfl) (Nat.zero_le _) (Nat.zero_le _) dX9_shut_181 ?_
                                refine lv_topi (fun x231 h232 => ?_)
                                have h232 : x231.toInt = if x206.toInt < x228.toInt then x228.toInt else x206.toInt := by rw [h232]; simp only [ty_lt32]; split <;> rfl
                                refine ast_mI hx hb hE hG hS hU 6 rfl (n := 10) rfl (lo := -2147483648) (hi := 2147483647) rfl rfl rfl t_b197 (rgD _) (by omega) dX9_shut_184 (fun H locs hG hS => ?_)
                                rw [show x199.toInt.toNat = ((g 127 v5_72.toInt.toNat).toNat) by omega] at hG
                                refine lv_aload_n hx hb dX9_shut_185 rfl (lv_at hl 2 rfl) ?_
                                refine get_X9_32 hx hb hA hown hE hG t_h0 wd_4_162 dX9_shut_186 (fun b233 (t_b233 : ty Γ b233 132) => ?_)
                                refine lv_iload hx hb dX9_shut_189 (lv_at hl 1 rfl) ?_
                                refine ald_mI hx hb hE hG 32 rfl (n := 200) rfl (lo := 0) (hi := 5) rfl rfl t_b233 (by omega) dX9_shut_191 (fun j235 x234 h236 h237 h238 => ?_)
                                obtain rfl : j235 = v5_72.toInt.toNat := by omega
                                rw [gs_c _ _ _ _ (by decide)] at h237
                                replace h237 : x234.toInt = g34 132 v5_72.toInt.toNat := h237
                                refine ty_iconst hx hb (1) dX9_shut_192 (by decide) (fun x239 h240 => ?_)
                                refine ty_icmp_eq (tgt := 207) hx hb dX9_shut_193 (by decide) (fun c241 => ?_) (fun c241 => ?_)
                                · exfalso; omega
                                · skip
                                  refine lv_aload_n hx hb dX9_shut_196 rfl (lv_at hl 2 rfl) ?_
                                  refine get_X9_32 hx hb hA hown hE hG t_h0 wd_4_162 dX9_shut_197 (fun b242 (t_b242 : ty Γ b242 132) => ?_)
                                  refine lv_iload hx hb dX9_shut_200 (lv_at hl 1 rfl) ?_
                                  refine ald_mI hx hb hE hG 32 rfl (n := 200) rfl (lo := 0) (hi := 5) rfl rfl t_b242 (by omega) dX9_shut_202 (fun j244 x243 h245 h246 h247 => ?_)
                                  obtain rfl : j244 = v5_72.toInt.toNat := by omega
                                  rw [gs_c _ _ _ _ (by decide)] at h246
                                  replace h246 : x243.toInt = g34 132 v5_72.toInt.toNat := h246
                                  refine ty_iconst hx hb (3) dX9_shut_203 (by decide) (fun x248 h249 => ?_)
                                  refine ty_icmp_ne (tgt := 240) hx hb dX9_shut_204 (by decide) (fun c250 => ?_) (fun c250 => ?_)
                                  · skip
                                    refine lv_aload_n hx hb dX9_shut_240 rfl (lv_at hl 2 rfl) ?_
                                    refine get_X9_32 hx hb hA hown hE hG t_h0 wd_4_162 dX9_shut_241 (fun b251 (t_b251 : ty Γ b251 132) => ?_)
                                    refine lv_iload hx hb dX9_shut_244 (lv_at hl 1 rfl) ?_
                                    refine ty_iconst hx hb (4) dX9_shut_246 (by decide) (fun x252 h253 => ?_)
                                    refine ast_mI hx hb hE hG hS hU 32 rfl (n := 200) rfl (lo := 0) (hi := 5) rfl rfl rfl t_b251 (by omega) (by omega) dX9_shut_247 (fun H locs hG hS => ?_)
                                    obtain ⟨x254, h255⟩ : ∃ y : Int32, y = v5_72 + Int32.ofInt (1) := ⟨_, rfl⟩
                                    try have h256 : x254.toInt = v5_72.toInt + (1) := ty_inc h255 (by decide) (by omega) (by omega)
                                    refine lv_iinc (v := x254) (lv' := [(5, .int x254), (4, .int x96), (0, .ref h0), (1, .int p1), (2, .int p2), (3, .int p3)]) hx hb dX9_shut_248 hl (k := 1) rfl h255.symm (by decide) rfl (fun ls hl => ?_)
                                    refine lv_goto (tgt := 72) hx hb dX9_shut_251 (by decide) ?_
                                    have e257 : (gs (gs g34 106 ((g 127 v5_72.toInt.toNat).toNat) x231.toInt) 132 v5_72.toInt.toNat x252.toInt) 126 0 = g34 126 0 := by rw [gs_c _ _ _ _ (by decide), gs_c _ _ _ _ (by decide)]
                                    exact ih_72 x254 x96 (gs (gs g34 106 ((g 127 v5_72.toInt.toNat).toNat) x231.toInt) 132 v5_72.toInt.toNat x252.toInt) _ _ ls (by omega) (by omega) (by omega) (fun c j h106 h132 => by rw [gs_c _ _ _ _ h132, gs_c _ _ _ _ h106, hf35 c j h106 h132]) (by (repeat (first | with_reducible assumption | (refine IJ_c (by decide) (by decide) (by decide) ?_) | (refine IJ_take (by omega) (by omega) ?_) | (refine IJ_how (by omega) ?_) | (refine IJ_by (by omega) ?_)))) (by rw [show x254.toInt.toNat = v5_72.toInt.toNat + 1 by omega, sh_y (by rw [← hq2]; omega)]; show (gs (gs g34 106 ((g 127 v5_72.toInt.toNat).toNat) x231.toInt) 132 v5_72.toInt.toNat x252.toInt) 106 = es_p _ _ _ _ _ _; rw [← hq1, ← hq2]; rw [gs_r _ _ _ (by decide), pz_gs]; exact es_3 (by omega) (by omega) (by unfold mx0; omega)) (by rw [show x254.toInt.toNat = v5_72.toInt.toNat + 1 by omega, sh_y (by rw [← hq2]; omega)]; show (gs (gs g34 106 ((g 127 v5_72.toInt.toNat).toNat) x231.toInt) 132 v5_72.toInt.toNat x252.toInt) 132 = es_s _ _; rw [← hq2]; rw [pz_gs, gs_r _ _ _ (by decide)]; exact es_6 (by omega) (by omega)) (by rw [show x254.toInt.toNat = v5_72.toInt.toNat + 1 by omega, sh_y (by rw [← hq2]; omega)]; show _ = (sh_f (g 127) (g 134) (g 131) (g 128) (g 129) (g 130) p1.toInt p2.toInt p3.toInt (g 111 0) (g 106) (g 132) v5_72.toInt.toNat).2.2 + 1; omega) hG hS (lv_sub hl [0, 1, 2, 3, 4, 5] rfl)
                                  · exfalso; omega
                            · skip
                              refine lv_goto (tgt := 248) hx hb dX9_shut_132 (by decide) ?_
                              obtain ⟨x258, h259⟩ : ∃ y : Int32, y = v5_72 + Int32.ofInt (1) := ⟨_, rfl⟩
                              try have h260 : x258.toInt = v5_72.toInt + (1) := ty_inc h259 (by decide) (by omega) (by omega)
                              refine lv_iinc (v := x258) (lv' := [(5, .int x258), (4, .int v4_72), (0, .ref h0), (1, .int p1), (2, .int p2), (3, .int p3)]) hx hb dX9_shut_248 hl (k := 0) rfl h259.symm (by decide) rfl (fun ls hl => ?_)
                              refine lv_goto (tgt := 72) hx hb dX9_shut_251 (by decide) ?_
                              exact ih_72 x258 v4_72 g34 _ _ ls (by omega) (by omega) (by omega) (fun c j h106 h132 => by rw [hf35 c j h106 h132]) (by (repeat (first | with_reducible assumption | (refine IJ_c (by decide) (by decide) (by decide) ?_) | (refine IJ_take (by omega) (by omega) ?_) | (refine IJ_how (by omega) ?_) | (refine IJ_by (by omega) ?_)))) (by rw [show x258.toInt.toNat = v5_72.toInt.toNat + 1 by omega, sh_n (by rw [← hq2]; omega)]; exact hq1) (by rw [show x258.toInt.toNat = v5_72.toInt.toNat + 1 by omega, sh_n (by rw [← hq2]; omega)]; exact hq2) (by rw [show x258.toInt.toNat = v5_72.toInt.toNat + 1 by omega, sh_n (by rw [← hq2]; omega)]; exact hq3) hG hS (lv_sub hl [0, 1, 2, 3, 4, 5] rfl)
                have hk261 : g26 126 0 = (gs g 100 0 x1.toInt) 126 0 := hf27 126 0 (by decide)
                replace hk261 : g26 126 0 = g 126 0 := by rw [hk261, gs_c _ _ _ _ (by decide)]
                exact L_72 ((g26 126 0 - x32.toInt) + 1).toNat x32 x30 g26 _ _ ls (by omega) (by omega) (by omega) (fun c j _ _ => rfl) (by (repeat (first | with_reducible assumption | (refine IJ_c (by decide) (by decide) (by decide) ?_) | (refine IJ_take (by omega) (by omega) ?_) | (refine IJ_how (by omega) ?_) | (refine IJ_by (by omega) ?_)))) (by rw [show x32.toInt.toNat = 0 by omega]; show g26 106 = g 106; rw [(show g26 106 = (gs g 100 0 x1.toInt) 106 from funext fun j => hf27 106 j (by decide)), gs_r _ _ _ (by decide)]) (by rw [show x32.toInt.toNat = 0 by omega]; show g26 132 = g 132; rw [(show g26 132 = (gs g 100 0 x1.toInt) 132 from funext fun j => hf27 132 j (by decide)), gs_r _ _ _ (by decide)]) (by rw [show x32.toInt.toNat = 0 by omega]; show _ = (0 : Int); omega) hG hS (lv_sub hl [0, 1, 2, 3, 4, 5] rfl)
              · skip
                refine lv_aload_n hx hb dX9_shut_47 rfl (lv_at hl 1 rfl) ?_
                refine get_X9_10 hx hb hA hown hE hG t_h0 wd_4_140 dX9_shut_48 (fun b262 (t_b262 : ty Γ b262 110) => ?_)
                refine ty_bipush hx hb (53) dX9_shut_51 (by decide) (fun x263 h264 => ?_)
                refine lv_iload_n hx hb dX9_shut_53 rfl (lv_at hl 2 rfl) ?_
                refine ty_imul hx hb dX9_shut_54 (fun x265 h266 => ?_)
                try have h267 : x265.toInt = 53 * p1.toInt := ty_mull h266 (by omega) (by omega) (by omega)
                refine lv_iload hx hb dX9_shut_55 (lv_at hl 0 rfl) ?_
                refine ty_iadd hx hb dX9_shut_57 (fun x268 h269 => ?_)
                try have h270 : x268.toInt = x265.toInt + v4_41.toInt := ty_add h269 (by omega) (by omega)
                refine ty_iconst hx hb (1) dX9_shut_58 (by decide) (fun x271 h272 => ?_)
                refine ast_mZ hx hb hE hG hS hU 10 rfl (n := 318) rfl (lo := 0) (hi := 1) rfl rfl rfl t_b262 (by omega) (by omega) (by omega) dX9_shut_59 (fun H locs hG hS => ?_)
                rw [show x268.toInt.toNat = (53 * p1.toInt.toNat + v4_41.toInt.toNat) by omega] at hG
                obtain ⟨x273, h274⟩ : ∃ y : Int32, y = v4_41 + Int32.ofInt (1) := ⟨_, rfl⟩
                try have h275 : x273.toInt = v4_41.toInt + (1) := ty_inc h274 (by decide) (by omega) (by omega)
                refine lv_iinc (v := x273) (lv' := [(4, .int x273), (0, .ref h0), (1, .int p1), (2, .int p2), (3, .int p3)]) hx hb dX9_shut_60 hl (k := 0) rfl h274.symm (by decide) rfl (fun ls hl => ?_)
                refine lv_goto (tgt := 41) hx hb dX9_shut_63 (by decide) ?_
                exact ih_41 x273 (gs g26 110 (53 * p1.toInt.toNat + v4_41.toInt.toNat) x271.toInt) _ _ ls (by omega) (by omega) (fun c j h110 => by rw [gs_c _ _ _ _ h110, hf27 c j h110]) (by rw [pz_gs]; exact fz_s ha0 (by omega) (by omega) (by omega)) hG hS (lv_sub hl [0, 1, 2, 3, 4] rfl)
          exact L_41 ((53 - p2.toInt) + 1).toNat p2 (gs g 100 0 x1.toInt) _ _ ls (by omega) (by omega) (fun c j _ => rfl) (by rw [gs_r _ _ _ (by decide)]; exact fz_0 (by omega)) hG hS (lv_sub hl [0, 1, 2, 3, 4] rfl)
        · skip
          refine ty_iconst hx hb (-1) dX9_shut_36 (by decide) (fun x276 h277 => ?_)
          exact W.iret (v := x276) hx hb hr (fun t ht hW => ⟨⟨x276, (gs g 100 0 x1.toInt), rfl, ⟨(fun c j h100 h106 h110 h132 => by rw [gs_c _ _ _ _ h100]), (by (repeat (first | with_reducible assumption | (refine IJ_c (by decide) (by decide) (by decide) ?_) | (refine IJ_take (by omega) (by omega) ?_) | (refine IJ_how (by omega) ?_) | (refine IJ_by (by omega) ?_)))), (⟨fun q => absurd q (by omega), fun _ => ⟨(by omega), (by rw [gs_r _ _ _ (by decide)]), (by rw [gs_r _ _ _ (by decide)]), (by rw [gs_r _ _ _ (by decide)])⟩⟩)⟩, ok1 ht hG⟩, hS.F ht⟩) hS.2.2 dX9_shut_37
