set_option maxHeartbeats 4000000 in
set_option maxRecDepth 100000 in
/-- WeekBank.rings:  -/
theorem k_X8_rings (l : Launch) (dC : Nat → ClassId) (dI : Nat → Nat → Nat) (dA : Nat → ClassId) (sz : Nat) (X : va_W) (Γ : ty_G) (hU : Un Γ) (g : gh) (h0 : Nat) (t_h0 : ty Γ h0 1) (p1 : Int32) (g3 : g 3 0 = g 35 0 ∧ 0 ≤ g 3 0 ∧ g 3 0 ≤ 200) (h64 : ∀ i : Nat, i < (g 3 0).toNat → 0 ≤ g 64 i ∧ g 64 i ≤ 29997) (h860 : g 86 0 = 0) (hcn : cnt (g 3 0).toNat (g 65) 0 ≤ 9) : Met l yX8_rings (.code yX8_rings cX8_rings 3 (Option.some Jvm.ClassFile.FieldType.int) :: AL) ({ frames := 4, cells := 0, slots := 0, locals := 97 }) (PCx dC dI dA sz X Γ g [.ref h0, .int p1]) (va_Qi (fun (r : Int32) (u : gh) => (∀ c j : Nat, c ≠ 7 → c ≠ 8 → c ≠ 46 → c ≠ 65 → c ≠ 67 → c ≠ 68 → c ≠ 83 → c ≠ 84 → c ≠ 85 → c ≠ 86 → u c j = g c j) ∧ ((2 ≤ p1.toInt ∧ p1.toInt ≤ 9 → RGS (g 3 0).toNat p1.toInt.toNat (su_c (g 65) (g 66) (g 61) (g 62) (g 41) (g 42)) (g 64) (g 60) (g 65) (g 67) (g 68) (u 65) (u 67) (u 68) r.toInt) ∧ (¬ (2 ≤ p1.toInt ∧ p1.toInt ≤ 9) → r.toInt = -1 ∧ u 65 = (g 65) ∧ u 67 = (g 67) ∧ u 68 = (g 68))) ∧ (u 86 0 = 0)) (okb dC dI dA sz X Γ) (ty_A sz)) 0 0 (ty_A sz) := by
  refine Met.ofW (cc := cX8_rings) (maxL := 3) (ret := (Option.some Jvm.ClassFile.FieldType.int)) (by decide) rfl ?_
  intro p e s m args below meth c s₁ B hml hv
  obtain ⟨rfl, hG, hE⟩ := hv
  have hx := B.exec
  have hb := B.bytes
  have hr := B.returns
  have hts := atoms_spec B.pre
  have hA : ∀ w ∈ AL, w.before _ s = true := fun w h => hts w (List.mem_cons_of_mem _ h)
  have hown : s.vm.findClass RX8 = some m.cls := findClass_of_methodNamed B.named
  have hlocks := B.notSynchronized
  have hS : va_S (ty_A sz) s.heap s.heap [] := va_S.rf
  have hl := lv_entry ([.ref h0, .int p1]) (n := 3) (Nat.le_of_ble_eq_true rfl)
  rw [lg_entry_eq]
  generalize (lg_sl ([.ref h0, .int p1]) ++ List.replicate (3 - (lg_sl ([.ref h0, .int p1])).length) Slot.unset).toArray = ls at hl ⊢
  have hl : lv_has ls 3 [(0, .ref h0), (1, .int p1)] := hl
  refine lv_iload_n hx hb dX8_rings_0 rfl (lv_at hl 1 rfl) ?_
  refine ty_iconst hx hb (2) dX8_rings_1 (by decide) (fun x1 h2 => ?_)
  refine ty_icmp_lt (tgt := 11) hx hb dX8_rings_2 (by decide) (fun c3 => ?_) (fun c3 => ?_)
  · skip
    refine ty_iconst hx hb (-1) dX8_rings_11 (by decide) (fun x4 h5 => ?_)
    exact W.iret (v := x4) hx hb hr (fun t ht hW => ⟨⟨x4, g, rfl, ⟨(fun c j h7 h8 h46 h65 h67 h68 h83 h84 h85 h86 => by rfl), (⟨fun h => absurd h (by omega), fun _ => ⟨by omega, rfl, rfl, rfl⟩⟩), (h860)⟩, ok1 ht hG⟩, hS.F ht⟩) hS.2.2 dX8_rings_12
  · skip
    refine lv_iload_n hx hb dX8_rings_5 rfl (lv_at hl 1 rfl) ?_
    refine ty_bipush hx hb (9) dX8_rings_6 (by decide) (fun x6 h7 => ?_)
    refine ty_icmp_le (tgt := 13) hx hb dX8_rings_8 (by decide) (fun c8 => ?_) (fun c8 => ?_)
    · skip
      refine lv_aload_n hx hb dX8_rings_13 rfl (lv_at hl 0 rfl) ?_
      refine get_X8_11 hx hb hA hown hE hG t_h0 wd_1_168 dX8_rings_14 (fun b9 (t_b9 : ty Γ b9 8) => ?_)
      refine cV (va_runV (C := RX5) (As := []) (rest := []) ⟨hx, hb, hml, hown, hA⟩ (k_X5_clear l dC dI dA sz X Γ hU g b9 t_b9   ) ⟨callB_of 0 hA (al_A wd_3_114) rfl rfl rfl (hA _ wd_1_5) (hA _ wd_3_111) (by decide +kernel) ⟨Nat.le_of_ble_eq_true rfl, Nat.le_of_ble_eq_true rfl⟩, hA _ wd_3_112, hA _ wd_3_113⟩ ⟨bl, recv_X5 hE hG t_b9, fun U hU9 hW9 => ⟨rfl, by rw [hU9]; exact hG, hE.go hS hU9 hW9⟩⟩ rfl rfl hl.1 rfl (lv_room (Nat.le_of_ble_eq_true rfl)) dX8_rings_17 ⟨Nat.zero_le _, Nat.zero_le _⟩) hS (fun u10 H locs w11 hG hS => ?_)
      obtain ⟨hf12, w11⟩ := w11
      refine ty_iconst hx hb (0) dX8_rings_20 (by decide) (fun x13 h14 => ?_)
      refine lv_istore_n (lv' := [(2, .int x13), (0, .ref h0), (1, .int p1)]) hx hb dX8_rings_21 rfl hl (by decide) rfl (fun ls hl => ?_)
      have L_22 : ∀ (n : Nat) (v2_22 : Int32) (g15 : gh) (H : Heap) (locs : List Loc) (ls : Array Slot), (g15 3 0 - v2_22.toInt : Int) < n → 0 ≤ v2_22.toInt ∧ v2_22.toInt ≤ g15 3 0 → 0 ≤ g15 7 0 ∧ g15 7 0 ≤ 9 → (∀ c j : Nat, c ≠ 7 → c ≠ 46 → g15 c j = u10 c j) → (MB (g15 46) (g 65) (fun x => 0 ≤ g 66 x) (g15 7 0).toNat v2_22.toInt.toNat) → ty_ok (dC, dI) vwCl Γ (TP dA Γ g15) sz X H → va_S (ty_A sz) s.heap H locs → lv_has ls 3 [(2, .int v2_22), (0, .ref h0), (1, .int p1)] → W p l e (headSpec (.code yX8_rings cX8_rings 3 (Option.some Jvm.ClassFile.FieldType.int) :: AL) ({ frames := 4, cells := 0, slots := 0, locals := 97 })).room s m ([.ref h0, .int p1] : List Value).toArray below meth c H locs 0 0 (MQ below (va_Qi (fun (r : Int32) (u : gh) => (∀ c j : Nat, c ≠ 7 → c ≠ 8 → c ≠ 46 → c ≠ 65 → c ≠ 67 → c ≠ 68 → c ≠ 83 → c ≠ 84 → c ≠ 85 → c ≠ 86 → u c j = g c j) ∧ ((2 ≤ p1.toInt ∧ p1.toInt ≤ 9 → RGS (g 3 0).toNat p1.toInt.toNat (su_c (g 65) (g 66) (g 61) (g 62) (g 41) (g 42)) (g 64) (g 60) (g 65) (g 67) (g 68) (u 65) (u 67) (u 68) r.toInt) ∧ (¬ (2 ≤ p1.toInt ∧ p1.toInt ≤ 9) → r.toInt = -1 ∧ u 65 = (g 65) ∧ u 67 = (g 67) ∧ u 68 = (g 68))) ∧ (u 86 0 = 0)) (okb dC dI dA sz X Γ) (ty_A sz)) ([.ref h0, .int p1] : List Value).toArray s 0 0 (ty_A sz)) (F0 m 22 ls []) := by
        intro n
        induction n with
        | zero => intro v2_22 g15 H locs ls hm hi0 hi1 hf16 hq0 hG hS hl; exfalso; omega
        | succ n ih_22 =>
          intro v2_22 g15 H locs ls hm hi0 hi1 hf16 hq0 hG hS hl
          have hk17 : g15 3 0 = u10 3 0 := hf16 3 0 (by decide) (by decide)
          have hk18 : u10 3 0 = g 3 0 := hf12 3 0 (by decide) (by decide)
          refine lv_iload_n hx hb dX8_rings_22 rfl (lv_at hl 0 rfl) ?_
          refine lv_aload_n hx hb dX8_rings_23 rfl (lv_at hl 1 rfl) ?_
          refine get_X8_5 hx hb hA hown hE hG t_h0 wd_1_162 dX8_rings_24 (fun x19 h20 => ?_)
          refine ty_icmp_ge (tgt := 73) hx hb dX8_rings_27 (by decide) (fun c22 => ?_) (fun c22 => ?_)
          · skip
            refine lv_aload_n hx hb dX8_rings_73 rfl (lv_at hl 1 rfl) ?_
            refine get_X8_11 hx hb hA hown hE hG t_h0 wd_1_168 dX8_rings_74 (fun b23 (t_b23 : ty Γ b23 8) => ?_)
            refine lv_iload_n hx hb dX8_rings_77 rfl (lv_at hl 2 rfl) ?_
            have hMB9 := hq0
            rw [show v2_22.toInt.toNat = (g 3 0).toNat by omega] at hMB9
            have hk24 : g15 8 0 = u10 8 0 := hf16 8 0 (by decide) (by decide)
            have hk25 : g15 86 0 = u10 86 0 := hf16 86 0 (by decide) (by decide)
            have hk26 : u10 86 0 = g 86 0 := hf12 86 0 (by decide) (by decide)
            refine cV (va_runV (C := RX5) (As := [.int p1]) (rest := []) ⟨hx, hb, hml, hown, hA⟩ (k_X5_findBest l dC dI dA sz X Γ hU g15 b23 t_b23 p1   (by omega) (fun j hj => (hMB9.2.1 j (by omega)).1) (fun j hj => by rw [show g15 64 = g 64 from funext fun j => by rw [hf16 64 j (by decide) (by decide), hf12 64 j (by decide) (by decide)]]; exact h64 _ (by have := (hMB9.2.1 j (by omega)).2.1; omega)) (by omega) (by omega) (by omega)) ⟨callB_of 1 hA (al_A wd_3_122) rfl rfl rfl (hA _ wd_1_5) (hA _ wd_3_119) (by decide +kernel) ⟨Nat.le_of_ble_eq_true rfl, Nat.le_of_ble_eq_true rfl⟩, hA _ wd_3_120, hA _ wd_3_121⟩ ⟨bl, recv_X5 hE hG t_b23, fun U hU9 hW9 => ⟨rfl, by rw [hU9]; exact hG, hE.go hS hU9 hW9⟩⟩ rfl rfl hl.1 rfl (lv_room (Nat.le_of_ble_eq_true rfl)) dX8_rings_78 ⟨Nat.zero_le _, Nat.zero_le _⟩) hS (fun u27 H locs w28 hG hS => ?_)
            obtain ⟨hf31, w28, hq29, hq30⟩ := w28
            refine lv_aload_n hx hb dX8_rings_81 rfl (lv_at hl 1 rfl) ?_
            refine get_X8_11 hx hb hA hown hE hG t_h0 wd_1_168 dX8_rings_82 (fun b32 (t_b32 : ty Γ b32 8) => ?_)
            have h7b9 : u27 7 0 = g15 7 0 := by rw [hf31 7 0 (by decide) (by decide) (by decide) (by decide) (by decide)]
            have h46b9 : u27 46 = g15 46 := funext fun j => by rw [hf31 46 j (by decide) (by decide) (by decide) (by decide) (by decide)]
            rw [show g15 66 = g 66 from funext fun j => by rw [hf16 66 j (by decide) (by decide), hf12 66 j (by decide) (by decide)]] at hq29
            rw [show g15 41 = g 41 from funext fun j => by rw [hf16 41 j (by decide) (by decide), hf12 41 j (by decide) (by decide)]] at hq29
            rw [show g15 42 = g 42 from funext fun j => by rw [hf16 42 j (by decide) (by decide), hf12 42 j (by decide) (by decide)]] at hq29
            rw [show g15 61 = g 61 from funext fun j => by rw [hf16 61 j (by decide) (by decide), hf12 61 j (by decide) (by decide)]] at hq29
            rw [show g15 62 = g 62 from funext fun j => by rw [hf16 62 j (by decide) (by decide), hf12 62 j (by decide) (by decide)]] at hq29
            rw [show g15 64 = g 64 from funext fun j => by rw [hf16 64 j (by decide) (by decide), hf12 64 j (by decide) (by decide)]] at hq29
            obtain ⟨p9, hB9, hS9, hC9, hN9, hL9⟩ := hq29
            have hV9 := hB9.1
            have h869 := hq30
            have hk33 : u27 7 0 = g15 7 0 := hf31 7 0 (by decide) (by decide) (by decide) (by decide) (by decide)
            refine cI (va_runV (C := RX5) (As := []) (rest := []) ⟨hx, hb, hml, hown, hA⟩ (k_X5_swapBest l dC dI dA sz X Γ hU u27 b32 t_b32 p9  (by omega) (fun j hj => by rw [h46b9]; exact (hMB9.2.1 j (by omega)).1) (by rw [h7b9]; exact hS9) (by rw [h7b9]; exact hC9) (by rw [h7b9]; exact hL9) (fun i hi => by rw [h7b9] at hi ⊢; have h9 := hV9.1 i hi; omega) (by rw [h7b9]; exact hV9.2.1) (by rw [h7b9, h46b9]; exact MB_inj hMB9) (by omega) (by by_cases h0 : u27 8 0 = 0; (rw [h0]; exact Int.le_of_eq h869.symm); (rw [← hC9 h0]; exact (wy_c_le (by omega) ⟨hV9, hS9⟩).1))) ⟨callB_of 0 hA (al_A wd_3_178) rfl rfl rfl (hA _ wd_1_5) (hA _ wd_3_175) (by decide +kernel) ⟨Nat.le_of_ble_eq_true rfl, Nat.le_of_ble_eq_true rfl⟩, hA _ wd_3_176, hA _ wd_3_177⟩ ⟨bl, recv_X5 hE hG t_b32, fun U hU9 hW9 => ⟨rfl, by rw [hU9]; exact hG, hE.go hS hU9 hW9⟩⟩ rfl rfl hl.1 rfl (lv_room (Nat.le_of_ble_eq_true rfl)) dX8_rings_85 ⟨Nat.zero_le _, Nat.zero_le _⟩) hS (fun x36 u34 H locs w35 hG hS => ?_)
            obtain ⟨hf38, w35, hq37⟩ := w35
            exact W.iret (v := x36) hx hb hr (fun t ht hW => ⟨⟨x36, u34, rfl, ⟨(fun c j h7 h8 h46 h65 h67 h68 h83 h84 h85 h86 => by rw [hf38 c j h65 h67 h68, hf31 c j h8 h83 h84 h85 h86, hf16 c j h7 h46, hf12 c j h7 h8]), (⟨fun _ => RGS_c (p := p9) hMB9 (by omega) (by omega) hB9 (by have h9 := hq37; rw [h7b9, h46b9, show u27 60 = g 60 from funext fun j => by rw [hf31 60 j (by decide) (by decide) (by decide) (by decide) (by decide), hf16 60 j (by decide) (by decide), hf12 60 j (by decide) (by decide)], show u27 65 = g 65 from funext fun j => by rw [hf31 65 j (by decide) (by decide) (by decide) (by decide) (by decide), hf16 65 j (by decide) (by decide), hf12 65 j (by decide) (by decide)], show u27 67 = g 67 from funext fun j => by rw [hf31 67 j (by decide) (by decide) (by decide) (by decide) (by decide), hf16 67 j (by decide) (by decide), hf12 67 j (by decide) (by decide)], show u27 68 = g 68 from funext fun j => by rw [hf31 68 j (by decide) (by decide) (by decide) (by decide) (by decide), hf16 68 j (by decide) (by decide), hf12 68 j (by decide) (by decide)]] at h9; exact h9) (by rw [w35, hN9]), fun h => absurd h (by omega)⟩), (by rw [hf38 86 0 (by decide) (by decide) (by decide)]; exact h869)⟩, ok1 ht hG⟩, hS.F ht⟩) hS.2.2 dX8_rings_88
          · skip
            refine lv_aload_n hx hb dX8_rings_30 rfl (lv_at hl 1 rfl) ?_
            refine get_X8_4 hx hb hA hown hE hG t_h0 wd_1_161 dX8_rings_31 (fun b39 (t_b39 : ty Γ b39 12) => ?_)
            refine lv_iload_n hx hb dX8_rings_34 rfl (lv_at hl 0 rfl) ?_
            refine ald_12 hx hb hE hG t_b39 (by omega) dX8_rings_35 (fun j41 r40 h42 t_r40 h43 => ?_)
            obtain rfl : j41 = v2_22.toInt.toNat := by omega
            have hk44 : g15 35 0 = u10 35 0 := hf16 35 0 (by decide) (by decide)
            have hk45 : u10 35 0 = g 35 0 := hf12 35 0 (by decide) (by decide)
            obtain ⟨b46, h47⟩ := Option.ne_none_iff_exists'.mp (h43 (by omega))
            have t_b46 := t_r40 b46 h47
            clear h43 t_r40
            subst h47
            refine get_X2_6 hx hb hA hown hE hG t_b46 wd_3_34 dX8_rings_36 (fun x48 h49 => ?_)
            have hk51 : g15 65 v2_22.toInt.toNat = u10 65 v2_22.toInt.toNat := hf16 65 v2_22.toInt.toNat (by decide) (by decide)
            have hk52 : u10 65 v2_22.toInt.toNat = g 65 v2_22.toInt.toNat := hf12 65 v2_22.toInt.toNat (by decide) (by decide)
            refine ty_if_ne (tgt := 67) hx hb dX8_rings_39 (by decide) (fun c53 => ?_) (fun c53 => ?_)
            · skip
              obtain ⟨x54, h55⟩ : ∃ y : Int32, y = v2_22 + Int32.ofInt (1) := ⟨_, rfl⟩
              try have h56 : x54.toInt = v2_22.toInt + (1) := ty_inc h55 (by decide) (by omega) (by omega)
              refine lv_iinc (v := x54) (lv' := [(2, .int x54), (0, .ref h0), (1, .int p1)]) hx hb dX8_rings_67 hl (k := 0) rfl h55.symm (by decide) rfl (fun ls hl => ?_)
              refine lv_goto (tgt := 22) hx hb dX8_rings_70 (by decide) ?_
              exact ih_22 x54 g15 _ _ ls (by omega) (by omega) (by omega) (fun c j h7 h46 => by rw [hf16 c j h7 h46]) (MB_no hq0 (by omega) (fun h0 h1 => by have h2 : 0 ≤ g 66 v2_22.toInt.toNat := h1; omega)) hG hS (lv_sub hl [0, 1, 2] rfl)
            · skip
              refine lv_aload_n hx hb dX8_rings_42 rfl (lv_at hl 1 rfl) ?_
              refine get_X8_4 hx hb hA hown hE hG t_h0 wd_1_161 dX8_rings_43 (fun b57 (t_b57 : ty Γ b57 12) => ?_)
              refine lv_iload_n hx hb dX8_rings_46 rfl (lv_at hl 0 rfl) ?_
              refine ald_12 hx hb hE hG t_b57 (by omega) dX8_rings_47 (fun j59 r58 h60 t_r58 h61 => ?_)
              obtain rfl : j59 = v2_22.toInt.toNat := by omega
              obtain ⟨b62, h63⟩ := Option.ne_none_iff_exists'.mp (h61 (by omega))
              have t_b62 := t_r58 b62 h63
              clear h61 t_r58
              subst h63
              refine get_X2_7 hx hb hA hown hE hG t_b62 wd_3_37 dX8_rings_48 (fun r64 n_r64 t_r64 => ?_)
              have hk65 : g15 66 v2_22.toInt.toNat = u10 66 v2_22.toInt.toNat := hf16 66 v2_22.toInt.toNat (by decide) (by decide)
              have hk66 : u10 66 v2_22.toInt.toNat = g 66 v2_22.toInt.toNat := hf12 66 v2_22.toInt.toNat (by decide) (by decide)
              refine ty_ifnull (tgt := 67) hx hb dX8_rings_51 (by decide) (fun h68 => ?_) (fun b67 h68 => ?_)
              · skip
                have hz69 := n_r64 h68
                subst h68
                have hl : lv_has ls 3 [(2, .int v2_22), (0, .ref h0), (1, .int p1)] := hl
                obtain ⟨x70, h71⟩ : ∃ y : Int32, y = v2_22 + Int32.ofInt (1) := ⟨_, rfl⟩
                try have h72 : x70.toInt = v2_22.toInt + (1) := ty_inc h71 (by decide) (by omega) (by omega)
                refine lv_iinc (v := x70) (lv' := [(2, .int x70), (0, .ref h0), (1, .int p1)]) hx hb dX8_rings_67 hl (k := 0) rfl h71.symm (by decide) rfl (fun ls hl => ?_)
                refine lv_goto (tgt := 22) hx hb dX8_rings_70 (by decide) ?_
                exact ih_22 x70 g15 _ _ ls (by omega) (by omega) (by omega) (fun c j h7 h46 => by rw [hf16 c j h7 h46]) (MB_no hq0 (by omega) (fun h0 h1 => by have h2 : 0 ≤ g 66 v2_22.toInt.toNat := h1; omega)) hG hS (lv_sub hl [0, 1, 2] rfl)
              · skip
                obtain ⟨t_b67, p_b67⟩ := t_r64 b67 h68
                clear t_r64 n_r64
                subst h68
                have hl : lv_has ls 3 [(2, .int v2_22), (0, .ref h0), (1, .int p1)] := hl
                refine lv_aload_n hx hb dX8_rings_54 rfl (lv_at hl 1 rfl) ?_
                refine get_X8_11 hx hb hA hown hE hG t_h0 wd_1_168 dX8_rings_55 (fun b73 (t_b73 : ty Γ b73 8) => ?_)
                refine lv_aload_n hx hb dX8_rings_58 rfl (lv_at hl 1 rfl) ?_
                refine get_X8_4 hx hb hA hown hE hG t_h0 wd_1_161 dX8_rings_59 (fun b74 (t_b74 : ty Γ b74 12) => ?_)
                refine lv_iload_n hx hb dX8_rings_62 rfl (lv_at hl 0 rfl) ?_
                refine ald_12 hx hb hE hG t_b74 (by omega) dX8_rings_63 (fun j76 r75 h77 t_r75 h78 => ?_)
                obtain rfl : j76 = v2_22.toInt.toNat := by omega
                obtain ⟨b79, h80⟩ := Option.ne_none_iff_exists'.mp (h78 (by omega))
                have t_b79 := t_r75 b79 h80
                clear h78 t_r75
                subst h80
                have hcn9 := cnt_succ v2_22.toInt.toNat (g 65) 0
                have hcm9 := cnt_mo (show v2_22.toInt.toNat + 1 ≤ (g 3 0).toNat by omega) (g 65) 0
                have hm49 := hq0.2.2.2
                refine cV (va_runV (C := RX5) (As := [.ref b79]) (rest := []) ⟨hx, hb, hml, hown, hA⟩ (k_X5_add l dC dI dA sz X Γ hU g15 b73 t_b73 b79 v2_22.toInt.toNat t_b79   (by omega)) ⟨callB_of 1 hA (al_A wd_3_118) rfl rfl rfl (hA _ wd_1_5) (hA _ wd_3_115) (by decide +kernel) ⟨Nat.le_of_ble_eq_true rfl, Nat.le_of_ble_eq_true rfl⟩, hA _ wd_3_116, hA _ wd_3_117⟩ ⟨bl, recv_X5 hE hG t_b73, fun U hU9 hW9 => ⟨rfl, by rw [hU9]; exact hG, hE.go hS hU9 hW9⟩⟩ rfl rfl hl.1 rfl (lv_room (Nat.le_of_ble_eq_true rfl)) dX8_rings_64 ⟨Nat.zero_le _, Nat.zero_le _⟩) hS (fun u81 H locs w82 hG hS => ?_)
                obtain ⟨hf84, w82, hq83⟩ := w82
                obtain ⟨x85, h86⟩ : ∃ y : Int32, y = v2_22 + Int32.ofInt (1) := ⟨_, rfl⟩
                try have h87 : x85.toInt = v2_22.toInt + (1) := ty_inc h86 (by decide) (by omega) (by omega)
                refine lv_iinc (v := x85) (lv' := [(2, .int x85), (0, .ref h0), (1, .int p1)]) hx hb dX8_rings_67 hl (k := 0) rfl h86.symm (by decide) rfl (fun ls hl => ?_)
                refine lv_goto (tgt := 22) hx hb dX8_rings_70 (by decide) ?_
                have hk88 : u81 3 0 = g15 3 0 := hf84 3 0 (by decide) (by decide)
                exact ih_22 x85 u81 _ _ ls (by omega) (by omega) (by omega) (fun c j h7 h46 => by rw [hf84 c j h7 h46, hf16 c j h7 h46]) (MB_up hq0 (by omega) (by omega) (by omega) (show 0 ≤ g 66 v2_22.toInt.toNat by omega) (k := v2_22.toInt.toNat) rfl (hq83.1 (by omega))) hG hS (lv_sub hl [0, 1, 2] rfl)
      have hk89 : u10 3 0 = g 3 0 := hf12 3 0 (by decide) (by decide)
      exact L_22 ((u10 3 0 - x13.toInt) + 1).toNat x13 u10 _ _ ls (by omega) (by omega) (by omega) (fun c j _ _ => rfl) (MB_0 (by omega) (by omega)) hG hS (lv_sub hl [0, 1, 2] rfl)
    · skip
      refine ty_iconst hx hb (-1) dX8_rings_11 (by decide) (fun x90 h91 => ?_)
      exact W.iret (v := x90) hx hb hr (fun t ht hW => ⟨⟨x90, g, rfl, ⟨(fun c j h7 h8 h46 h65 h67 h68 h83 h84 h85 h86 => by rfl), (⟨fun h => absurd h (by omega), fun _ => ⟨by omega, rfl, rfl, rfl⟩⟩), (h860)⟩, ok1 ht hG⟩, hS.F ht⟩) hS.2.2 dX8_rings_12
