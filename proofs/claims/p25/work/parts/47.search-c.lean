set_option maxHeartbeats 4000000 in
set_option maxRecDepth 100000 in
/-- WeekBank$RingSearch.add:  -/
theorem k_X5_add (l : Launch) (dC : Nat → ClassId) (dI : Nat → Nat → Nat) (dA : Nat → ClassId) (sz : Nat) (X : va_W) (Γ : ty_G) (hU : Un Γ) (g : gh) (h0 : Nat) (t_h0 : ty Γ h0 8) (p1 k : Nat) (t_p1 : Γ p1 = (4, k)) (hs : 0 ≤ g 7 0 ∧ g 7 0 ≤ 9) : Met l yX5_add (.code yX5_add cX5_add 2 (Option.none : Option Jvm.ClassFile.FieldType) :: AL) ({ frames := 0, cells := 0, slots := 0, locals := 0 }) (PCx dC dI dA sz X Γ g [.ref h0, .ref p1]) (va_Qv (fun (u : gh) => (∀ c j : Nat, c ≠ 7 → c ≠ 46 → u c j = g c j) ∧ (((g 7 0 < 9 → u 7 0 = g 7 0 + 1) ∧ (¬ g 7 0 < 9 → u 7 0 = g 7 0))) ∧ ((g 7 0 < 9 → u 46 = pz_up (g 46) (0 + (g 7 0).toNat) ((k : Nat) : Int)) ∧ (¬ g 7 0 < 9 → u 46 = g 46))) (okb dC dI dA sz X Γ) (ty_A sz)) 0 0 (ty_A sz) := by
  refine Met.ofW (cc := cX5_add) (maxL := 2) (ret := (Option.none : Option Jvm.ClassFile.FieldType)) (by decide) rfl ?_
  intro p e s m args below meth c s₁ B hml hv
  obtain ⟨rfl, hG, hE⟩ := hv
  have hx := B.exec
  have hb := B.bytes
  have hr := B.returns
  have hts := atoms_spec B.pre
  have hA : ∀ w ∈ AL, w.before _ s = true := fun w h => hts w (List.mem_cons_of_mem _ h)
  have hown : s.vm.findClass RX5 = some m.cls := findClass_of_methodNamed B.named
  have hlocks := B.notSynchronized
  have hS : va_S (ty_A sz) s.heap s.heap [] := va_S.rf
  have hl := lv_entry ([.ref h0, .ref p1]) (n := 2) (Nat.le_of_ble_eq_true rfl)
  rw [lg_entry_eq]
  generalize (lg_sl ([.ref h0, .ref p1]) ++ List.replicate (2 - (lg_sl ([.ref h0, .ref p1])).length) Slot.unset).toArray = ls at hl ⊢
  have hl : lv_has ls 2 [(0, .ref h0), (1, .ref p1)] := hl
  refine lv_aload_n hx hb dX5_add_0 rfl (lv_at hl 0 rfl) ?_
  refine get_X5_1 hx hb hA hown hE hG t_h0 wd_1_108 dX5_add_1 (fun x1 h2 => ?_)
  refine ty_bipush hx hb (9) dX5_add_4 (by decide) (fun x4 h5 => ?_)
  refine ty_icmp_ge (tgt := 29) hx hb dX5_add_6 (by decide) (fun c6 => ?_) (fun c6 => ?_)
  · skip
    exact W.vret hx hb hr (fun t ht hW => ⟨⟨g, rfl, ⟨(fun c j h7 h46 => by rfl), (by omega), (⟨fun q => absurd q (by omega), fun _ => rfl⟩)⟩, ok1 ht hG⟩, hS.F ht⟩) hS.2.2 dX5_add_29
  · skip
    refine lv_aload_n hx hb dX5_add_9 rfl (lv_at hl 0 rfl) ?_
    refine get_X5_0 hx hb hA hown hE hG t_h0 wd_1_107 dX5_add_10 (fun b7 (t_b7 : ty Γ b7 19) => ?_)
    refine lv_aload_n hx hb dX5_add_13 rfl (lv_at hl 0 rfl) ?_
    refine get_X5_1 hx hb hA hown hE hG t_h0 wd_1_108 dX5_add_14 (fun x8 h9 => ?_)
    refine lv_aload_n hx hb dX5_add_17 rfl (lv_at hl 1 rfl) ?_
    refine ast_19 (r := some p1) (z := ((k : Nat) : Int)) hx hb hE hG hS hU t_b7 (rq_s t_p1).1 (rq_s t_p1).2 (by omega) dX5_add_18 (fun H locs hG hS => ?_)
    refine lv_aload_n hx hb dX5_add_19 rfl (lv_at hl 0 rfl) ?_
    refine lv_dup hx hb dX5_add_20 rfl ?_
    refine get_X5_1 hx hb hA hown hE hG t_h0 wd_1_108 dX5_add_21 (fun x11 h12 => ?_)
    replace h12 : x11.toInt = g 7 0 := by rw [h12, gs_c _ _ _ _ (by decide)]
    refine ty_iconst hx hb (1) dX5_add_24 (by decide) (fun x14 h15 => ?_)
    refine ty_iadd hx hb dX5_add_25 (fun x16 h17 => ?_)
    try have h18 : x16.toInt = x11.toInt + x14.toInt := ty_add h17 (by omega) (by omega)
    refine put_X5_1 hx hb hA hown hE hG hS hU t_h0 wd_1_108 dX5_add_26 (fun H locs hG hS => ?_)
    have e19 : (gs (gs g 46 (0 + x8.toInt.toNat) ((k : Nat) : Int)) 7 0 x16.toInt) 7 0 = x16.toInt := by rw [gs_self]
    exact W.vret hx hb hr (fun t ht hW => ⟨⟨(gs (gs g 46 (0 + x8.toInt.toNat) ((k : Nat) : Int)) 7 0 x16.toInt), rfl, ⟨(fun c j h7 h46 => by rw [gs_c _ _ _ _ h7, gs_c _ _ _ _ h46]), (by omega), (⟨fun q => by rw [gs_r _ _ _ (by decide), pz_gs]; exact pz_upc (by omega) rfl, fun q => absurd (by omega) q⟩)⟩, ok1 ht hG⟩, hS.F ht⟩) hS.2.2 dX5_add_29

set_option maxHeartbeats 4000000 in
set_option maxRecDepth 100000 in
/-- WeekBank$RingSearch.findSuiting:  -/
theorem k_X5_findSuiting (l : Launch) (dC : Nat → ClassId) (dI : Nat → Nat → Nat) (dA : Nat → ClassId) (sz : Nat) (X : va_W) (Γ : ty_G) (hU : Un Γ) (g : gh) (h0 : Nat) (t_h0 : ty Γ h0 8) (hs : 0 ≤ g 7 0 ∧ g 7 0 ≤ 9) (hM : ∀ j : Nat, (j : Int) < g 7 0 → 0 ≤ g 46 (0 + j)) : Met l yX5_findSuiting (.code yX5_findSuiting cX5_findSuiting 3 (Option.none : Option Jvm.ClassFile.FieldType) :: AL) ({ frames := 1, cells := 0, slots := 0, locals := 22 }) (PCx dC dI dA sz X Γ g [.ref h0]) (va_Qv (fun (u : gh) => (∀ c j : Nat, c ≠ 83 → u c j = g c j) ∧ (u 83 = fs_f (g 83) (fun i j => decide (i ≠ j ∧ mz_b ((g 66) ((g 46) (0 + i)).toNat) ((g 41) ((g 61) ((g 46) (0 + j)).toNat).toNat) ((g 42) ((g 61) ((g 46) (0 + j)).toNat).toNat) ((g 62) ((g 46) (0 + j)).toNat) ≠ 0)) (g 7 0).toNat (g 7 0).toNat)) (okb dC dI dA sz X Γ) (ty_A sz)) 0 0 (ty_A sz) := by
  refine Met.ofW (cc := cX5_findSuiting) (maxL := 3) (ret := (Option.none : Option Jvm.ClassFile.FieldType)) (by decide) rfl ?_
  intro p e s m args below meth c s₁ B hml hv
  obtain ⟨rfl, hG, hE⟩ := hv
  have hx := B.exec
  have hb := B.bytes
  have hr := B.returns
  have hts := atoms_spec B.pre
  have hA : ∀ w ∈ AL, w.before _ s = true := fun w h => hts w (List.mem_cons_of_mem _ h)
  have hown : s.vm.findClass RX5 = some m.cls := findClass_of_methodNamed B.named
  have hlocks := B.notSynchronized
  have hS : va_S (ty_A sz) s.heap s.heap [] := va_S.rf
  have hl := lv_entry ([.ref h0]) (n := 3) (Nat.le_of_ble_eq_true rfl)
  rw [lg_entry_eq]
  generalize (lg_sl ([.ref h0]) ++ List.replicate (3 - (lg_sl ([.ref h0])).length) Slot.unset).toArray = ls at hl ⊢
  have hl : lv_has ls 3 [(0, .ref h0)] := hl
  refine ty_iconst hx hb (0) dX5_findSuiting_0 (by decide) (fun x1 h2 => ?_)
  refine lv_istore_n (lv' := [(1, .int x1), (0, .ref h0)]) hx hb dX5_findSuiting_1 rfl hl (by decide) rfl (fun ls hl => ?_)
  have L_2 : ∀ (n : Nat) (v1_2 : Int32) (g3 : gh) (H : Heap) (locs : List Loc) (ls : Array Slot), (g3 7 0 - v1_2.toInt : Int) < n → 0 ≤ v1_2.toInt ∧ v1_2.toInt ≤ g3 7 0 → (∀ c j : Nat, c ≠ 83 → g3 c j = g c j) → (g3 83 = fs_f (g 83) (fun i j => decide (i ≠ j ∧ mz_b (g 66 (g 46 (0 + i)).toNat) (g 41 (g 61 (g 46 (0 + j)).toNat).toNat) (g 42 (g 61 (g 46 (0 + j)).toNat).toNat) (g 62 (g 46 (0 + j)).toNat) ≠ 0)) (g 7 0).toNat v1_2.toInt.toNat) → ty_ok (dC, dI) vwCl Γ (TP dA Γ g3) sz X H → va_S (ty_A sz) s.heap H locs → lv_has ls 3 [(1, .int v1_2), (0, .ref h0)] → W p l e (headSpec (.code yX5_findSuiting cX5_findSuiting 3 (Option.none : Option Jvm.ClassFile.FieldType) :: AL) ({ frames := 1, cells := 0, slots := 0, locals := 22 })).room s m ([.ref h0] : List Value).toArray below meth c H locs 0 0 (MQ below (va_Qv (fun (u : gh) => (∀ c j : Nat, c ≠ 83 → u c j = g c j) ∧ (u 83 = fs_f (g 83) (fun i j => decide (i ≠ j ∧ mz_b ((g 66) ((g 46) (0 + i)).toNat) ((g 41) ((g 61) ((g 46) (0 + j)).toNat).toNat) ((g 42) ((g 61) ((g 46) (0 + j)).toNat).toNat) ((g 62) ((g 46) (0 + j)).toNat) ≠ 0)) (g 7 0).toNat (g 7 0).toNat)) (okb dC dI dA sz X Γ) (ty_A sz)) ([.ref h0] : List Value).toArray s 0 0 (ty_A sz)) (F0 m 2 ls []) := by
    intro n
    induction n with
    | zero => intro v1_2 g3 H locs ls hm hi0 hf4 ha0 hG hS hl; exfalso; omega
    | succ n ih_2 =>
      intro v1_2 g3 H locs ls hm hi0 hf4 ha0 hG hS hl
      have hk5 : g3 7 0 = g 7 0 := hf4 7 0 (by decide)
      refine lv_iload_n hx hb dX5_findSuiting_2 rfl (lv_at hl 0 rfl) ?_
      refine lv_aload_n hx hb dX5_findSuiting_3 rfl (lv_at hl 1 rfl) ?_
      refine get_X5_1 hx hb hA hown hE hG t_h0 wd_1_108 dX5_findSuiting_4 (fun x6 h7 => ?_)
      refine ty_icmp_ge (tgt := 77) hx hb dX5_findSuiting_7 (by decide) (fun c9 => ?_) (fun c9 => ?_)
      · skip
        exact W.vret hx hb hr (fun t ht hW => ⟨⟨g3, rfl, ⟨(fun c j h83 => by rw [hf4 c j h83]), (by rw [ha0, show v1_2.toInt.toNat = (g 7 0).toNat by omega])⟩, ok1 ht hG⟩, hS.F ht⟩) hS.2.2 dX5_findSuiting_77
      · skip
        refine lv_aload_n hx hb dX5_findSuiting_10 rfl (lv_at hl 1 rfl) ?_
        refine get_X5_2 hx hb hA hown hE hG t_h0 wd_1_109 dX5_findSuiting_11 (fun b10 (t_b10 : ty Γ b10 20) => ?_)
        refine lv_iload_n hx hb dX5_findSuiting_14 rfl (lv_at hl 0 rfl) ?_
        refine ty_iconst hx hb (0) dX5_findSuiting_15 (by decide) (fun x11 h12 => ?_)
        refine ast_20 hx hb hE hG hS hU t_b10 (by omega) dX5_findSuiting_16 (fun H locs hG hS => ?_)
        refine ty_iconst hx hb (0) dX5_findSuiting_17 (by decide) (fun x13 h14 => ?_)
        refine lv_istore_n (lv' := [(2, .int x13), (1, .int v1_2), (0, .ref h0)]) hx hb dX5_findSuiting_18 rfl hl (by decide) rfl (fun ls hl => ?_)
        have e16 : (gs g3 83 (v1_2.toInt.toNat) x11.toInt) 7 0 = g3 7 0 := by rw [gs_c _ _ _ _ (by decide)]
        have L_19 : ∀ (n : Nat) (v2_19 : Int32) (g15 : gh) (H : Heap) (locs : List Loc) (ls : Array Slot), (g15 7 0 - v2_19.toInt : Int) < n → 0 ≤ v2_19.toInt ∧ v2_19.toInt ≤ g15 7 0 → (∀ c j : Nat, c ≠ 83 → g15 c j = (gs g3 83 (v1_2.toInt.toNat) x11.toInt) c j) → (g15 83 = pz_up (fs_f (g 83) (fun i j => decide (i ≠ j ∧ mz_b (g 66 (g 46 (0 + i)).toNat) (g 41 (g 61 (g 46 (0 + j)).toNat).toNat) (g 42 (g 61 (g 46 (0 + j)).toNat).toNat) (g 62 (g 46 (0 + j)).toNat) ≠ 0)) (g 7 0).toNat v1_2.toInt.toNat) v1_2.toInt.toNat (sm_f ((fun i j => decide (i ≠ j ∧ mz_b (g 66 (g 46 (0 + i)).toNat) (g 41 (g 61 (g 46 (0 + j)).toNat).toNat) (g 42 (g 61 (g 46 (0 + j)).toNat).toNat) (g 62 (g 46 (0 + j)).toNat) ≠ 0)) v1_2.toInt.toNat) v2_19.toInt.toNat : Int)) → ty_ok (dC, dI) vwCl Γ (TP dA Γ g15) sz X H → va_S (ty_A sz) s.heap H locs → lv_has ls 3 [(2, .int v2_19), (1, .int v1_2), (0, .ref h0)] → W p l e (headSpec (.code yX5_findSuiting cX5_findSuiting 3 (Option.none : Option Jvm.ClassFile.FieldType) :: AL) ({ frames := 1, cells := 0, slots := 0, locals := 22 })).room s m ([.ref h0] : List Value).toArray below meth c H locs 0 0 (MQ below (va_Qv (fun (u : gh) => (∀ c j : Nat, c ≠ 83 → u c j = g c j) ∧ (u 83 = fs_f (g 83) (fun i j => decide (i ≠ j ∧ mz_b ((g 66) ((g 46) (0 + i)).toNat) ((g 41) ((g 61) ((g 46) (0 + j)).toNat).toNat) ((g 42) ((g 61) ((g 46) (0 + j)).toNat).toNat) ((g 62) ((g 46) (0 + j)).toNat) ≠ 0)) (g 7 0).toNat (g 7 0).toNat)) (okb dC dI dA sz X Γ) (ty_A sz)) ([.ref h0] : List Value).toArray s 0 0 (ty_A sz)) (F0 m 19 ls []) := by
          intro n
          induction n with
          | zero => intro v2_19 g15 H locs ls hm hi0 hf17 hb0 hG hS hl; exfalso; omega
          | succ n ih_19 =>
            intro v2_19 g15 H locs ls hm hi0 hf17 hb0 hG hS hl
            have hk18 : g15 7 0 = (gs g3 83 (v1_2.toInt.toNat) x11.toInt) 7 0 := hf17 7 0 (by decide)
            replace hk18 : g15 7 0 = g3 7 0 := by rw [hk18, gs_c _ _ _ _ (by decide)]
            refine lv_iload_n hx hb dX5_findSuiting_19 rfl (lv_at hl 0 rfl) ?_
            refine lv_aload_n hx hb dX5_findSuiting_20 rfl (lv_at hl 2 rfl) ?_
            refine get_X5_1 hx hb hA hown hE hG t_h0 wd_1_108 dX5_findSuiting_21 (fun x19 h20 => ?_)
            refine ty_icmp_ge (tgt := 71) hx hb dX5_findSuiting_24 (by decide) (fun c22 => ?_) (fun c22 => ?_)
            · skip
              obtain ⟨x23, h24⟩ : ∃ y : Int32, y = v1_2 + Int32.ofInt (1) := ⟨_, rfl⟩
              try have h25 : x23.toInt = v1_2.toInt + (1) := ty_inc h24 (by decide) (by omega) (by omega)
              refine lv_iinc (v := x23) (lv' := [(1, .int x23), (2, .int v2_19), (0, .ref h0)]) hx hb dX5_findSuiting_71 hl (k := 1) rfl h24.symm (by decide) rfl (fun ls hl => ?_)
              refine lv_goto (tgt := 2) hx hb dX5_findSuiting_74 (by decide) ?_
              exact ih_2 x23 g15 _ _ ls (by omega) (by omega) (fun c j h83 => by rw [hf17 c j h83, gs_c _ _ _ _ h83, hf4 c j h83]) (by rw [hb0]; exact fs_s (by omega) (by omega)) hG hS (lv_sub hl [0, 2] rfl)
            · skip
              refine lv_iload_n hx hb dX5_findSuiting_27 rfl (lv_at hl 1 rfl) ?_
              refine lv_iload_n hx hb dX5_findSuiting_28 rfl (lv_at hl 0 rfl) ?_
              refine ty_icmp_eq (tgt := 65) hx hb dX5_findSuiting_29 (by decide) (fun c26 => ?_) (fun c26 => ?_)
              · skip
                obtain ⟨x27, h28⟩ : ∃ y : Int32, y = v2_19 + Int32.ofInt (1) := ⟨_, rfl⟩
                try have h29 : x27.toInt = v2_19.toInt + (1) := ty_inc h28 (by decide) (by omega) (by omega)
                refine lv_iinc (v := x27) (lv' := [(2, .int x27), (1, .int v1_2), (0, .ref h0)]) hx hb dX5_findSuiting_65 hl (k := 0) rfl h28.symm (by decide) rfl (fun ls hl => ?_)
                refine lv_goto (tgt := 19) hx hb dX5_findSuiting_68 (by decide) ?_
                exact ih_19 x27 g15 _ _ ls (by omega) (by omega) (fun c j h83 => by rw [hf17 c j h83]) (by rw [show x27.toInt.toNat = v2_19.toInt.toNat + 1 by omega, sm_no (P := (fun i j => decide (i ≠ j ∧ mz_b (g 66 (g 46 (0 + i)).toNat) (g 41 (g 61 (g 46 (0 + j)).toNat).toNat) (g 42 (g 61 (g 46 (0 + j)).toNat).toNat) (g 62 (g 46 (0 + j)).toNat) ≠ 0)) v1_2.toInt.toNat) (decide_eq_false (fun q => q.1 (by omega)))]; exact hb0) hG hS (lv_sub hl [0, 1, 2] rfl)
              · skip
                refine lv_aload_n hx hb dX5_findSuiting_32 rfl (lv_at hl 2 rfl) ?_
                refine get_X5_0 hx hb hA hown hE hG t_h0 wd_1_107 dX5_findSuiting_33 (fun b30 (t_b30 : ty Γ b30 19) => ?_)
                refine lv_iload_n hx hb dX5_findSuiting_36 rfl (lv_at hl 0 rfl) ?_
                refine ald_19 hx hb hE hG t_b30 (by omega) dX5_findSuiting_37 (fun j32 r31 h33 n_r31 t_r31 => ?_)
                obtain rfl : j32 = v2_19.toInt.toNat := by omega
                clear h33
                have hk35 : g15 46 (0 + v2_19.toInt.toNat) = (gs g3 83 (v1_2.toInt.toNat) x11.toInt) 46 (0 + v2_19.toInt.toNat) := hf17 46 (0 + v2_19.toInt.toNat) (by decide)
                replace hk35 : g15 46 (0 + v2_19.toInt.toNat) = g3 46 (0 + v2_19.toInt.toNat) := by rw [hk35, gs_c _ _ _ _ (by decide)]
                have hk36 : g3 46 (0 + v2_19.toInt.toNat) = g 46 (0 + v2_19.toInt.toNat) := hf4 46 (0 + v2_19.toInt.toNat) (by decide)
                have hm37 := hM v2_19.toInt.toNat (by omega)
                refine lv_aload_n hx hb dX5_findSuiting_38 rfl (lv_at hl 2 rfl) ?_
                refine get_X5_0 hx hb hA hown hE hG t_h0 wd_1_107 dX5_findSuiting_39 (fun b38 (t_b38 : ty Γ b38 19) => ?_)
                refine lv_iload_n hx hb dX5_findSuiting_42 rfl (lv_at hl 1 rfl) ?_
                refine ald_19 hx hb hE hG t_b38 (by omega) dX5_findSuiting_43 (fun j40 r39 h41 n_r39 t_r39 => ?_)
                obtain rfl : j40 = v1_2.toInt.toNat := by omega
                clear h41
                have hk43 : g15 46 (0 + v1_2.toInt.toNat) = (gs g3 83 (v1_2.toInt.toNat) x11.toInt) 46 (0 + v1_2.toInt.toNat) := hf17 46 (0 + v1_2.toInt.toNat) (by decide)
                replace hk43 : g15 46 (0 + v1_2.toInt.toNat) = g3 46 (0 + v1_2.toInt.toNat) := by rw [hk43, gs_c _ _ _ _ (by decide)]
                have hk44 : g3 46 (0 + v1_2.toInt.toNat) = g 46 (0 + v1_2.toInt.toNat) := hf4 46 (0 + v1_2.toInt.toNat) (by decide)
                have hm45 := hM v1_2.toInt.toNat (by omega)
                obtain ⟨b46, h47⟩ := Option.ne_none_iff_exists'.mp (fun h9 => absurd (n_r39 h9) (by omega))
                obtain ⟨t_b46, p_b46⟩ := t_r39 b46 h47
                clear t_r39 n_r39
                subst h47
                have hl : lv_has ls 3 [(2, .int v2_19), (1, .int v1_2), (0, .ref h0)] := hl
                refine get_X2_7 hx hb hA hown hE hG t_b46 wd_3_36 dX5_findSuiting_44 (fun r48 n_r48 t_r48 => ?_)
                have hk49 : g15 66 ((g15 46 (0 + v1_2.toInt.toNat))).toNat = (gs g3 83 (v1_2.toInt.toNat) x11.toInt) 66 ((g15 46 (0 + v1_2.toInt.toNat))).toNat := hf17 66 ((g15 46 (0 + v1_2.toInt.toNat))).toNat (by decide)
                replace hk49 : g15 66 ((g15 46 (0 + v1_2.toInt.toNat))).toNat = g3 66 ((g15 46 (0 + v1_2.toInt.toNat))).toNat := by rw [hk49, gs_c _ _ _ _ (by decide)]
                have hk50 : g3 66 ((g15 46 (0 + v1_2.toInt.toNat))).toNat = g 66 ((g15 46 (0 + v1_2.toInt.toNat))).toNat := hf4 66 ((g15 46 (0 + v1_2.toInt.toNat))).toNat (by decide)
                obtain ⟨b51, h52⟩ := Option.ne_none_iff_exists'.mp (fun h9 => absurd (n_r31 h9) (by omega))
                obtain ⟨t_b51, p_b51⟩ := t_r31 b51 h52
                clear t_r31 n_r31
                subst h52
                have hl : lv_has ls 3 [(2, .int v2_19), (1, .int v1_2), (0, .ref h0)] := hl
                refine cI (va_runV (C := RX2) (As := [va_rf r48]) (rest := []) ⟨hx, hb, hml, hown, hA⟩ (k_X2_meets l dC dI dA sz X Γ hU g15 b51 ((g15 46 (0 + v2_19.toInt.toNat))).toNat t_b51 (r48) ((g15 66 ((g15 46 (0 + v1_2.toInt.toNat))).toNat)) (And.intro n_r48 t_r48).1 (And.intro n_r48 t_r48).2   ) ⟨callB_of 1 hA (al_A wd_3_130) rfl rfl rfl (hA _ wd_1_15) (hA _ wd_3_127) (by decide +kernel) ⟨Nat.le_of_ble_eq_true rfl, Nat.le_of_ble_eq_true rfl⟩, hA _ wd_3_128, hA _ wd_3_129⟩ ⟨bl, recv_X2 hE hG (by rw [t_b51]), fun U hU9 hW9 => ⟨rfl, by rw [hU9]; exact hG, hE.go hS hU9 hW9⟩⟩ rfl rfl hl.1 rfl (lv_room (Nat.le_of_ble_eq_true rfl)) dX5_findSuiting_47 ⟨Nat.zero_le _, Nat.zero_le _⟩) hS (fun x55 u53 H locs w54 hG hS => ?_)
                obtain ⟨eu56, w54⟩ := w54
                rw [eu56] at hG
                rw [show g15 41 = (g 41) by rw [(show g15 41 = (gs g3 83 (v1_2.toInt.toNat) x11.toInt) 41 from funext fun j => hf17 41 j (by decide)), gs_r _ _ _ (by decide), (show g3 41 = g 41 from funext fun j => hf4 41 j (by decide))]] at w54
                rw [show g15 61 = (g 61) by rw [(show g15 61 = (gs g3 83 (v1_2.toInt.toNat) x11.toInt) 61 from funext fun j => hf17 61 j (by decide)), gs_r _ _ _ (by decide), (show g3 61 = g 61 from funext fun j => hf4 61 j (by decide))]] at w54
                rw [show g15 42 = (g 42) by rw [(show g15 42 = (gs g3 83 (v1_2.toInt.toNat) x11.toInt) 42 from funext fun j => hf17 42 j (by decide)), gs_r _ _ _ (by decide), (show g3 42 = g 42 from funext fun j => hf4 42 j (by decide))]] at w54
                rw [show g15 62 = (g 62) by rw [(show g15 62 = (gs g3 83 (v1_2.toInt.toNat) x11.toInt) 62 from funext fun j => hf17 62 j (by decide)), gs_r _ _ _ (by decide), (show g3 62 = g 62 from funext fun j => hf4 62 j (by decide))]] at w54
                rw [show g15 46 = g 46 from funext fun j => by rw [hf17 46 j (by decide), gs_c _ _ _ _ (by decide), hf4 46 j (by decide)]] at w54
                rw [show g15 66 = g 66 from funext fun j => by rw [hf17 66 j (by decide), gs_c _ _ _ _ (by decide), hf4 66 j (by decide)]] at w54
                refine ty_if_eq (tgt := 65) hx hb dX5_findSuiting_50 (by decide) (fun c57 => ?_) (fun c57 => ?_)
                · skip
                  obtain ⟨x58, h59⟩ : ∃ y : Int32, y = v2_19 + Int32.ofInt (1) := ⟨_, rfl⟩
                  try have h60 : x58.toInt = v2_19.toInt + (1) := ty_inc h59 (by decide) (by omega) (by omega)
                  refine lv_iinc (v := x58) (lv' := [(2, .int x58), (1, .int v1_2), (0, .ref h0)]) hx hb dX5_findSuiting_65 hl (k := 0) rfl h59.symm (by decide) rfl (fun ls hl => ?_)
                  refine lv_goto (tgt := 19) hx hb dX5_findSuiting_68 (by decide) ?_
                  exact ih_19 x58 g15 _ _ ls (by omega) (by omega) (fun c j h83 => by rw [hf17 c j h83]) (by rw [show x58.toInt.toNat = v2_19.toInt.toNat + 1 by omega, sm_no (P := (fun i j => decide (i ≠ j ∧ mz_b (g 66 (g 46 (0 + i)).toNat) (g 41 (g 61 (g 46 (0 + j)).toNat).toNat) (g 42 (g 61 (g 46 (0 + j)).toNat).toNat) (g 62 (g 46 (0 + j)).toNat) ≠ 0)) v1_2.toInt.toNat) (decide_eq_false (fun q => q.2 (by omega)))]; exact hb0) hG hS (lv_sub hl [0, 1, 2] rfl)
                · skip
                  refine lv_aload_n hx hb dX5_findSuiting_53 rfl (lv_at hl 2 rfl) ?_
                  refine get_X5_2 hx hb hA hown hE hG t_h0 wd_1_109 dX5_findSuiting_54 (fun b61 (t_b61 : ty Γ b61 20) => ?_)
                  refine lv_iload_n hx hb dX5_findSuiting_57 rfl (lv_at hl 1 rfl) ?_
                  refine lv_dup2_11 hx hb dX5_findSuiting_58 rfl rfl ?_
                  refine ald_20 hx hb hE hG t_b61 (by omega) dX5_findSuiting_59 (fun j63 x62 h64 h65 => ?_)
                  obtain rfl : j63 = v1_2.toInt.toNat := by omega
                  have hsu9 : g15 83 v1_2.toInt.toNat = (sm_f ((fun i j => decide (i ≠ j ∧ mz_b (g 66 (g 46 (0 + i)).toNat) (g 41 (g 61 (g 46 (0 + j)).toNat).toNat) (g 42 (g 61 (g 46 (0 + j)).toNat).toNat) (g 62 (g 46 (0 + j)).toNat) ≠ 0)) v1_2.toInt.toNat) v2_19.toInt.toNat : Int) := by rw [hb0]; exact pz_up_s
                  refine ty_iconst hx hb (1) dX5_findSuiting_60 (by decide) (fun x66 h67 => ?_)
                  refine lv_iload_n hx hb dX5_findSuiting_61 rfl (lv_at hl 0 rfl) ?_
                  refine lv_ishl hx hb dX5_findSuiting_62 ?_
                  refine lv_topi (fun x68 h69 => ?_)
                  have h70 := shl_pw h69 (by omega) (by omega) (by omega)
                  refine ty_ior hx hb dX5_findSuiting_63 (fun x71 h72 => ?_)
                  refine ast_20 hx hb hE hG hS hU t_b61 (by omega) dX5_findSuiting_64 (fun H locs hG hS => ?_)
                  obtain ⟨x73, h74⟩ : ∃ y : Int32, y = v2_19 + Int32.ofInt (1) := ⟨_, rfl⟩
                  try have h75 : x73.toInt = v2_19.toInt + (1) := ty_inc h74 (by decide) (by omega) (by omega)
                  refine lv_iinc (v := x73) (lv' := [(2, .int x73), (1, .int v1_2), (0, .ref h0)]) hx hb dX5_findSuiting_65 hl (k := 0) rfl h74.symm (by decide) rfl (fun ls hl => ?_)
                  refine lv_goto (tgt := 19) hx hb dX5_findSuiting_68 (by decide) ?_
                  have e76 : (gs g15 83 (v1_2.toInt.toNat) x71.toInt) 7 0 = g15 7 0 := by rw [gs_c _ _ _ _ (by decide)]
                  exact ih_19 x73 (gs g15 83 (v1_2.toInt.toNat) x71.toInt) _ _ ls (by omega) (by omega) (fun c j h83 => by rw [gs_c _ _ _ _ h83, hf17 c j h83]) (by rw [show x73.toInt.toNat = v2_19.toInt.toNat + 1 by omega, sm_or (P := (fun i j => decide (i ≠ j ∧ mz_b (g 66 (g 46 (0 + i)).toNat) (g 41 (g 61 (g 46 (0 + j)).toNat).toNat) (g 42 (g 61 (g 46 (0 + j)).toNat).toNat) (g 62 (g 46 (0 + j)).toNat) ≠ 0)) v1_2.toInt.toNat) (decide_eq_true ⟨by omega, by omega⟩)]; rw [pz_gs, hb0, pz_up_up]; exact pz_upc rfl (or_n h72 (by omega) (by have h9 := pw_n (z := v2_19.toInt); omega) (by have h9 := sm_lt (P := (fun i j => decide (i ≠ j ∧ mz_b (g 66 (g 46 (0 + i)).toNat) (g 41 (g 61 (g 46 (0 + j)).toNat).toNat) (g 42 (g 61 (g 46 (0 + j)).toNat).toNat) (g 62 (g 46 (0 + j)).toNat) ≠ 0)) v1_2.toInt.toNat) v2_19.toInt.toNat; have h8 : 2 ^ v2_19.toInt.toNat ≤ 2 ^ 9 := Nat.pow_le_pow_right (by decide) (by omega); omega) (by have h9 := p2_le8 (z := v2_19.toInt.toNat) (by omega); omega))) hG hS (lv_sub hl [0, 1, 2] rfl)
        have e77 : (gs g3 83 (v1_2.toInt.toNat) x11.toInt) 7 0 = g3 7 0 := by rw [gs_c _ _ _ _ (by decide)]
        exact L_19 (((gs g3 83 (v1_2.toInt.toNat) x11.toInt) 7 0 - x13.toInt) + 1).toNat x13 (gs g3 83 (v1_2.toInt.toNat) x11.toInt) _ _ ls (by omega) (by omega) (fun c j _ => rfl) (by rw [pz_gs, ha0]; exact pz_upc rfl (by rw [show x13.toInt.toNat = 0 by omega]; show _ = (0 : Int); omega)) hG hS (lv_sub hl [0, 1, 2] rfl)
  exact L_2 ((g 7 0 - x1.toInt) + 1).toNat x1 g _ _ ls (by omega) (by omega) (fun c j _ => rfl) (fs_0 (by omega)) hG hS (lv_sub hl [0, 1] rfl)
