set_option maxHeartbeats 4000000 in
set_option maxRecDepth 100000 in
/-- WeekBankModel.chooses:  -/
theorem k_X9_chooses0 (l : Launch) (dC : Nat → ClassId) (dI : Nat → Nat → Nat) (dA : Nat → ClassId) (sz : Nat) (X : va_W) (Γ : ty_G) (hU : Un Γ) (g : gh) (h0 : Nat) (t_h0 : ty Γ h0 30) (p1 : Int32) (p2 : Int32) (p3 : Int32) (p4 : Int32) (hk : 0 ≤ p1.toInt ∧ p1.toInt ≤ g 137 0 ∧ g 137 0 ≤ 9 ∧ 0 ≤ p2.toInt ∧ p2.toInt ≤ p1.toInt ∧ g 137 0 - p1.toInt ≤ 0) (hC : CH g (g 137 0).toNat p1.toInt.toNat) (hB : BG g (g 137 0).toNat) (hL : 2 ≤ g 143 (0) ∧ g 143 (0) ≤ 9) (hP : CP ( g 138) (su_w ( g 135) ( g 128) ( g 129) ( g 102) ( g 103) ( g 136)) (fun i => g 131 (g 136 i).toNat) (g 137 0).toNat p1.toInt.toNat (g 143 (0)).toNat p2.toInt p3.toInt p4.toInt) : Met l yX9_chooses (.code yX9_chooses cX9_chooses 8 (Option.none : Option Jvm.ClassFile.FieldType) :: AL) ({ frames := 0, cells := 0, slots := 0, locals := 0 }) (PCx dC dI dA sz X Γ g [.ref h0, .int p1, .int p2, .int p3, .int p4]) (va_Qv (fun (u : gh) => (∀ c j : Nat, c ≠ 138 → c ≠ 139 → c ≠ 140 → c ≠ 141 → c ≠ 142 → u c j = g c j) ∧ (∀ i : Nat, u 138 i = g 138 i) ∧ (∀ i : Nat, u 140 i = g 140 i) ∧ (BG u (g 137 0).toNat) ∧ ((0 ≤ g 141 0 ∨ ∀ j : Nat, j < (g 137 0).toNat → g 140 j ≠ 1) → 0 ≤ u 141 0) ∧ (rg_S (g 137 0).toNat (fun i => g 131 (g 136 i).toNat) (rg_P (g 137 0).toNat (su_w ( g 135) ( g 128) ( g 129) ( g 102) ( g 103) ( g 136)) (g 143 (0)).toNat p1.toInt.toNat ( g 138)) (g 141 0) (g 142 0) ( g 139) (u 141 0) (u 142 0) ( u 139))) (okb dC dI dA sz X Γ) (ty_A sz)) 0 0 (ty_A sz) := by
  refine Met.ofW (cc := cX9_chooses) (maxL := 8) (ret := (Option.none : Option Jvm.ClassFile.FieldType)) (by decide) rfl ?_
  intro p e s m args below meth c s₁ B hml hv
  obtain ⟨rfl, hG, hE⟩ := hv
  have hx := B.exec
  have hb := B.bytes
  have hr := B.returns
  have hts := atoms_spec B.pre
  have hA : ∀ w ∈ AL, w.before _ s = true := fun w h => hts w (List.mem_cons_of_mem _ h)
  have hown : s.vm.findClass RX9 = some m.cls := findClass_of_methodNamed B.named
  have hlocks := B.notSynchronized
  have hS : va_S (ty_A sz) s.heap s.heap [] := va_S.rf
  have hb9 := CP_b hP (by omega)
  have hw9 : Unit → p1.toInt < g 137 0 → 0 ≤ g 131 (g 136 p1.toInt.toNat).toNat ∧ g 131 (g 136 p1.toInt.toNat).toNat ≤ 29997 := fun _ h => hP.2.2.2.2.2 p1.toInt.toNat (by omega)
  have hl := lv_entry ([.ref h0, .int p1, .int p2, .int p3, .int p4]) (n := 8) (Nat.le_of_ble_eq_true rfl)
  rw [lg_entry_eq]
  generalize (lg_sl ([.ref h0, .int p1, .int p2, .int p3, .int p4]) ++ List.replicate (8 - (lg_sl ([.ref h0, .int p1, .int p2, .int p3, .int p4])).length) Slot.unset).toArray = ls at hl ⊢
  have hl : lv_has ls 8 [(0, .ref h0), (1, .int p1), (2, .int p2), (3, .int p3), (4, .int p4)] := hl
  refine lv_iload_n hx hb dX9_chooses_0 rfl (lv_at hl 2 rfl) ?_
  refine lv_aload_n hx hb dX9_chooses_1 rfl (lv_at hl 0 rfl) ?_
  refine get_X9_37 hx hb hA hown hE hG t_h0 wd_4_167 dX9_chooses_2 (fun x1 h2 => ?_)
  refine ty_iadd hx hb dX9_chooses_5 (fun x4 h5 => ?_)
  try have h6 : x4.toInt = p2.toInt + x1.toInt := ty_add h5 (by omega) (by omega)
  refine lv_iload_n hx hb dX9_chooses_6 rfl (lv_at hl 1 rfl) ?_
  refine ty_isub hx hb dX9_chooses_7 (fun x7 h8 => ?_)
  try have h9 : x7.toInt = x4.toInt - p1.toInt := ty_sub h8 (by omega) (by omega)
  refine lv_istore (lv' := [(5, .int x7), (0, .ref h0), (1, .int p1), (2, .int p2), (3, .int p3), (4, .int p4)]) hx hb dX9_chooses_8 hl (by decide) rfl (fun ls hl => ?_)
  refine lv_iload hx hb dX9_chooses_10 (lv_at hl 0 rfl) ?_
  refine lv_aload_n hx hb dX9_chooses_12 rfl (lv_at hl 1 rfl) ?_
  refine get_X9_41 hx hb hA hown hE hG t_h0 wd_4_171 dX9_chooses_13 (fun x10 h11 => ?_)
  refine ty_icmp_lt (tgt := 39) hx hb dX9_chooses_16 (by decide) (fun c13 => ?_) (fun c13 => ?_)
  · skip
    exact W.vret hx hb hr (fun t ht hW => ⟨⟨g, rfl, ⟨(fun c j h138 h139 h140 h141 h142 => by rfl), (fun i => rfl), (fun i => rfl), (hB), (fun _ => by omega), (rg_S_none (rg_prune (by omega) (by rw [← hP.2.2.1, ← hP.2.2.2.1, ← hP.2.2.2.2.1]; omega)))⟩, ok1 ht hG⟩, hS.F ht⟩) hS.2.2 dX9_chooses_39
  · skip
    refine lv_iload hx hb dX9_chooses_19 (lv_at hl 0 rfl) ?_
    refine lv_aload_n hx hb dX9_chooses_21 rfl (lv_at hl 1 rfl) ?_
    refine get_X9_41 hx hb hA hown hE hG t_h0 wd_4_171 dX9_chooses_22 (fun x14 h15 => ?_)
    refine ty_icmp_ne (tgt := 40) hx hb dX9_chooses_25 (by decide) (fun c17 => ?_) (fun c17 => ?_)
    · skip
      refine lv_iload_n hx hb dX9_chooses_40 rfl (lv_at hl 2 rfl) ?_
      refine lv_aload_n hx hb dX9_chooses_41 rfl (lv_at hl 1 rfl) ?_
      refine get_X9_37 hx hb hA hown hE hG t_h0 wd_4_167 dX9_chooses_42 (fun x18 h19 => ?_)
      refine ty_icmp_ne (tgt := 94) hx hb dX9_chooses_45 (by decide) (fun c21 => ?_) (fun c21 => ?_)
      · exfalso; omega
      · skip
        refine lv_aload_n hx hb dX9_chooses_48 rfl (lv_at hl 1 rfl) ?_
        refine lv_iload_n hx hb dX9_chooses_49 rfl (lv_at hl 3 rfl) ?_
        refine put_X9_41 hx hb hA hown hE hG hS hU t_h0 wd_4_171 dX9_chooses_50 (fun H locs hG hS => ?_)
        refine lv_aload_n hx hb dX9_chooses_53 rfl (lv_at hl 1 rfl) ?_
        refine lv_iload hx hb dX9_chooses_54 (lv_at hl 5 rfl) ?_
        refine lv_iload_n hx hb dX9_chooses_56 rfl (lv_at hl 4 rfl) ?_
        refine ty_isub hx hb dX9_chooses_57 (fun x22 h23 => ?_)
        try have h24 : x22.toInt = p4.toInt - p3.toInt := ty_sub h23 (by omega) (by omega)
        refine put_X9_42 hx hb hA hown hE hG hS hU t_h0 wd_4_172 dX9_chooses_58 (fun H locs hG hS => ?_)
        refine ty_iconst hx hb (0) dX9_chooses_61 (by decide) (fun x25 h26 => ?_)
        refine lv_istore (lv' := [(6, .int x25), (5, .int x7), (0, .ref h0), (1, .int p1), (2, .int p2), (3, .int p3), (4, .int p4)]) hx hb dX9_chooses_62 hl (by decide) rfl (fun ls hl => ?_)
        have e28 : (gs (gs g 141 0 p2.toInt) 142 0 x22.toInt) 137 0 = g 137 0 := by rw [gs_c _ _ _ _ (by decide), gs_c _ _ _ _ (by decide)]
        have L_64 : ∀ (n : Nat) (v6_64 : Int32) (g27 : gh) (H : Heap) (locs : List Loc) (ls : Array Slot), (g27 137 0 - v6_64.toInt : Int) < n → 0 ≤ v6_64.toInt ∧ v6_64.toInt ≤ g27 137 0 → (∀ c j : Nat, c ≠ 139 → g27 c j = (gs (gs g 141 0 p2.toInt) 142 0 x22.toInt) c j) → (∀ i : Nat, (i : Int) < v6_64.toInt → g27 139 i = g 138 i) → ty_ok (dC, dI) vwCl Γ (TP dA Γ g27) sz X H → va_S (ty_A sz) s.heap H locs → lv_has ls 8 [(6, .int v6_64), (5, .int x7), (0, .ref h0), (1, .int p1), (2, .int p2), (3, .int p3), (4, .int p4)] → W p l e (headSpec (.code yX9_chooses cX9_chooses 8 (Option.none : Option Jvm.ClassFile.FieldType) :: AL) ({ frames := 0, cells := 0, slots := 0, locals := 0 })).room s m ([.ref h0, .int p1, .int p2, .int p3, .int p4] : List Value).toArray below meth c H locs 0 0 (MQ below (va_Qv (fun (u : gh) => (∀ c j : Nat, c ≠ 138 → c ≠ 139 → c ≠ 140 → c ≠ 141 → c ≠ 142 → u c j = g c j) ∧ (∀ i : Nat, u 138 i = g 138 i) ∧ (∀ i : Nat, u 140 i = g 140 i) ∧ (BG u (g 137 0).toNat) ∧ ((0 ≤ g 141 0 ∨ ∀ j : Nat, j < (g 137 0).toNat → g 140 j ≠ 1) → 0 ≤ u 141 0) ∧ (rg_S (g 137 0).toNat (fun i => g 131 (g 136 i).toNat) (rg_P (g 137 0).toNat (su_w ( g 135) ( g 128) ( g 129) ( g 102) ( g 103) ( g 136)) (g 143 (0)).toNat p1.toInt.toNat ( g 138)) (g 141 0) (g 142 0) ( g 139) (u 141 0) (u 142 0) ( u 139))) (okb dC dI dA sz X Γ) (ty_A sz)) ([.ref h0, .int p1, .int p2, .int p3, .int p4] : List Value).toArray s 0 0 (ty_A sz)) (F0 m 64 ls []) := by
          intro n
          induction n with
          | zero => intro v6_64 g27 H locs ls hm hi0 hf29 hq0 hG hS hl; exfalso; omega
          | succ n ih_64 =>
            intro v6_64 g27 H locs ls hm hi0 hf29 hq0 hG hS hl
            have hk30 : g27 137 0 = (gs (gs g 141 0 p2.toInt) 142 0 x22.toInt) 137 0 := hf29 137 0 (by decide)
            replace hk30 : g27 137 0 = g 137 0 := by rw [hk30, gs_c _ _ _ _ (by decide), gs_c _ _ _ _ (by decide)]
            refine lv_iload hx hb dX9_chooses_64 (lv_at hl 0 rfl) ?_
            refine lv_aload_n hx hb dX9_chooses_66 rfl (lv_at hl 2 rfl) ?_
            refine get_X9_37 hx hb hA hown hE hG t_h0 wd_4_167 dX9_chooses_67 (fun x31 h32 => ?_)
            refine ty_icmp_ge (tgt := 93) hx hb dX9_chooses_70 (by decide) (fun c34 => ?_) (fun c34 => ?_)
            · skip
              have hr35 : g27 141 = (gs g 141 0 p2.toInt) 141 := funext fun j => by rw [hf29 141 j (by decide), gs_c _ _ _ _ (by decide)]
              have hr36 : g27 141 = (gs g 141 0 p2.toInt) 141 := funext fun j => by rw [hf29 141 j (by decide), gs_c _ _ _ _ (by decide)]
              have hr37 : g27 142 = (gs (gs g 141 0 p2.toInt) 142 0 x22.toInt) 142 := funext fun j => by rw [hf29 142 j (by decide)]
              exact W.vret hx hb hr (fun t ht hW => ⟨⟨g27, rfl, ⟨(fun c j h138 h139 h140 h141 h142 => by rw [hf29 c j h139, gs_c _ _ _ _ h142, gs_c _ _ _ _ h141]), (fun i => by rw [hf29 138 i (by decide), gs_c _ _ _ _ (by decide), gs_c _ _ _ _ (by decide)]), (fun i => by rw [hf29 140 i (by decide), gs_c _ _ _ _ (by decide), gs_c _ _ _ _ (by decide)]), (BG_leaf (g := g) (by have h9 := hC; rw [show p1.toInt.toNat = (g 137 0).toNat by omega] at h9; exact h9) (fun i hi => hq0 i (by omega))), (fun _ => by rw [hr35, gs_self]; omega), (by have hC9 := hC; have hP9 := hP; rw [show p1.toInt.toNat = (g 137 0).toNat by omega] at hC9 hP9 ⊢; exact ch_leaf hC9 hP9 (fun i hi => hq0 i (by omega)) (by rw [hr36, gs_self]) (by rw [hr37, gs_self]; omega) (fun q => by rw [hr36, hr37, gs_self, gs_self] at q; unfold rg_le at q; omega))⟩, ok1 ht hG⟩, hS.F ht⟩) hS.2.2 dX9_chooses_93
            · skip
              refine lv_aload_n hx hb dX9_chooses_73 rfl (lv_at hl 2 rfl) ?_
              refine get_X9_39 hx hb hA hown hE hG t_h0 wd_4_169 dX9_chooses_74 (fun b38 (t_b38 : ty Γ b38 139) => ?_)
              refine lv_iload hx hb dX9_chooses_77 (lv_at hl 0 rfl) ?_
              refine lv_aload_n hx hb dX9_chooses_79 rfl (lv_at hl 2 rfl) ?_
              refine get_X9_38 hx hb hA hown hE hG t_h0 wd_4_168 dX9_chooses_80 (fun b39 (t_b39 : ty Γ b39 138) => ?_)
              refine lv_iload hx hb dX9_chooses_83 (lv_at hl 0 rfl) ?_
              refine ald_mI hx hb hE hG 38 rfl (n := 9) rfl (lo := -2) (hi := 8) rfl rfl t_b39 (by omega) dX9_chooses_85 (fun j41 x40 h42 h43 h44 => ?_)
              obtain rfl : j41 = v6_64.toInt.toNat := by omega
              replace h43 : x40.toInt = g27 138 v6_64.toInt.toNat := h43
              have hk45 : g27 138 v6_64.toInt.toNat = (gs (gs g 141 0 p2.toInt) 142 0 x22.toInt) 138 v6_64.toInt.toNat := hf29 138 v6_64.toInt.toNat (by decide)
              replace hk45 : g27 138 v6_64.toInt.toNat = g 138 v6_64.toInt.toNat := by rw [hk45, gs_c _ _ _ _ (by decide), gs_c _ _ _ _ (by decide)]
              have hR9 : g27 138 v6_64.toInt.toNat = g 138 v6_64.toInt.toNat := by rw [hf29 138 v6_64.toInt.toNat (by decide), gs_c _ _ _ _ (by decide), gs_c _ _ _ _ (by decide)]
              have hA9 := (hC.1 v6_64.toInt.toNat (by omega)).1
              refine ast_mI hx hb hE hG hS hU 39 rfl (n := 9) rfl (lo := -1) (hi := 8) rfl rfl rfl t_b38 (by omega) (by omega) dX9_chooses_86 (fun H locs hG hS => ?_)
              obtain ⟨x46, h47⟩ : ∃ y : Int32, y = v6_64 + Int32.ofInt (1) := ⟨_, rfl⟩
              try have h48 : x46.toInt = v6_64.toInt + (1) := ty_inc h47 (by decide) (by omega) (by omega)
              refine lv_iinc (v := x46) (lv' := [(6, .int x46), (5, .int x7), (0, .ref h0), (1, .int p1), (2, .int p2), (3, .int p3), (4, .int p4)]) hx hb dX9_chooses_87 hl (k := 0) rfl h47.symm (by decide) rfl (fun ls hl => ?_)
              refine lv_goto (tgt := 64) hx hb dX9_chooses_90 (by decide) ?_
              have e49 : (gs g27 139 v6_64.toInt.toNat x40.toInt) 137 0 = g27 137 0 := by rw [gs_c _ _ _ _ (by decide)]
              exact ih_64 x46 (gs g27 139 v6_64.toInt.toNat x40.toInt) _ _ ls (by omega) (by omega) (fun c j h139 => by rw [gs_c _ _ _ _ h139, hf29 c j h139]) (fun i hi => by by_cases e9 : i = v6_64.toInt.toNat; (rw [e9, gs_self]; omega); (rw [gs_j _ _ _ _ e9]; exact hq0 i (by omega))) hG hS (lv_sub hl [0, 1, 2, 3, 4, 5, 6] rfl)
        have e50 : (gs (gs g 141 0 p2.toInt) 142 0 x22.toInt) 137 0 = g 137 0 := by rw [gs_c _ _ _ _ (by decide), gs_c _ _ _ _ (by decide)]
        exact L_64 (((gs (gs g 141 0 p2.toInt) 142 0 x22.toInt) 137 0 - x25.toInt) + 1).toNat x25 (gs (gs g 141 0 p2.toInt) 142 0 x22.toInt) _ _ ls (by omega) (by omega) (fun c j _ => rfl) (fun i hi => absurd hi (by omega)) hG hS (lv_sub hl [0, 1, 2, 3, 4, 5, 6] rfl)
    · skip
      refine lv_iload hx hb dX9_chooses_28 (lv_at hl 5 rfl) ?_
      refine lv_iload_n hx hb dX9_chooses_30 rfl (lv_at hl 4 rfl) ?_
      refine ty_isub hx hb dX9_chooses_31 (fun x51 h52 => ?_)
      try have h53 : x51.toInt = p4.toInt - p3.toInt := ty_sub h52 (by omega) (by omega)
      refine lv_aload_n hx hb dX9_chooses_32 rfl (lv_at hl 1 rfl) ?_
      refine get_X9_42 hx hb hA hown hE hG t_h0 wd_4_172 dX9_chooses_33 (fun x54 h55 => ?_)
      refine ty_icmp_gt (tgt := 40) hx hb dX9_chooses_36 (by decide) (fun c57 => ?_) (fun c57 => ?_)
      · skip
        refine lv_iload_n hx hb dX9_chooses_40 rfl (lv_at hl 2 rfl) ?_
        refine lv_aload_n hx hb dX9_chooses_41 rfl (lv_at hl 1 rfl) ?_
        refine get_X9_37 hx hb hA hown hE hG t_h0 wd_4_167 dX9_chooses_42 (fun x58 h59 => ?_)
        refine ty_icmp_ne (tgt := 94) hx hb dX9_chooses_45 (by decide) (fun c61 => ?_) (fun c61 => ?_)
        · exfalso; omega
        · skip
          refine lv_aload_n hx hb dX9_chooses_48 rfl (lv_at hl 1 rfl) ?_
          refine lv_iload_n hx hb dX9_chooses_49 rfl (lv_at hl 3 rfl) ?_
          refine put_X9_41 hx hb hA hown hE hG hS hU t_h0 wd_4_171 dX9_chooses_50 (fun H locs hG hS => ?_)
          refine lv_aload_n hx hb dX9_chooses_53 rfl (lv_at hl 1 rfl) ?_
          refine lv_iload hx hb dX9_chooses_54 (lv_at hl 5 rfl) ?_
          refine lv_iload_n hx hb dX9_chooses_56 rfl (lv_at hl 4 rfl) ?_
          refine ty_isub hx hb dX9_chooses_57 (fun x62 h63 => ?_)
          try have h64 : x62.toInt = p4.toInt - p3.toInt := ty_sub h63 (by omega) (by omega)
          refine put_X9_42 hx hb hA hown hE hG hS hU t_h0 wd_4_172 dX9_chooses_58 (fun H locs hG hS => ?_)
          refine ty_iconst hx hb (0) dX9_chooses_61 (by decide) (fun x65 h66 => ?_)
          refine lv_istore (lv' := [(6, .int x65), (5, .int x7), (0, .ref h0), (1, .int p1), (2, .int p2), (3, .int p3), (4, .int p4)]) hx hb dX9_chooses_62 hl (by decide) rfl (fun ls hl => ?_)
          have e68 : (gs (gs g 141 0 p2.toInt) 142 0 x62.toInt) 137 0 = g 137 0 := by rw [gs_c _ _ _ _ (by decide), gs_c _ _ _ _ (by decide)]
          have L_64 : ∀ (n : Nat) (v6_64 : Int32) (g67 : gh) (H : Heap) (locs : List Loc) (ls : Array Slot), (g67 137 0 - v6_64.toInt : Int) < n → 0 ≤ v6_64.toInt ∧ v6_64.toInt ≤ g67 137 0 → (∀ c j : Nat, c ≠ 139 → g67 c j = (gs (gs g 141 0 p2.toInt) 142 0 x62.toInt) c j) → (∀ i : Nat, (i : Int) < v6_64.toInt → g67 139 i = g 138 i) → ty_ok (dC, dI) vwCl Γ (TP dA Γ g67) sz X H → va_S (ty_A sz) s.heap H locs → lv_has ls 8 [(6, .int v6_64), (5, .int x7), (0, .ref h0), (1, .int p1), (2, .int p2), (3, .int p3), (4, .int p4)] → W p l e (headSpec (.code yX9_chooses cX9_chooses 8 (Option.none : Option Jvm.ClassFile.FieldType) :: AL) ({ frames := 0, cells := 0, slots := 0, locals := 0 })).room s m ([.ref h0, .int p1, .int p2, .int p3, .int p4] : List Value).toArray below meth c H locs 0 0 (MQ below (va_Qv (fun (u : gh) => (∀ c j : Nat, c ≠ 138 → c ≠ 139 → c ≠ 140 → c ≠ 141 → c ≠ 142 → u c j = g c j) ∧ (∀ i : Nat, u 138 i = g 138 i) ∧ (∀ i : Nat, u 140 i = g 140 i) ∧ (BG u (g 137 0).toNat) ∧ ((0 ≤ g 141 0 ∨ ∀ j : Nat, j < (g 137 0).toNat → g 140 j ≠ 1) → 0 ≤ u 141 0) ∧ (rg_S (g 137 0).toNat (fun i => g 131 (g 136 i).toNat) (rg_P (g 137 0).toNat (su_w ( g 135) ( g 128) ( g 129) ( g 102) ( g 103) ( g 136)) (g 143 (0)).toNat p1.toInt.toNat ( g 138)) (g 141 0) (g 142 0) ( g 139) (u 141 0) (u 142 0) ( u 139))) (okb dC dI dA sz X Γ) (ty_A sz)) ([.ref h0, .int p1, .int p2, .int p3, .int p4] : List Value).toArray s 0 0 (ty_A sz)) (F0 m 64 ls []) := by
            intro n
            induction n with
            | zero => intro v6_64 g67 H locs ls hm hi0 hf69 hq0 hG hS hl; exfalso; omega
            | succ n ih_64 =>
              intro v6_64 g67 H locs ls hm hi0 hf69 hq0 hG hS hl
              have hk70 : g67 137 0 = (gs (gs g 141 0 p2.toInt) 142 0 x62.toInt) 137 0 := hf69 137 0 (by decide)
              replace hk70 : g67 137 0 = g 137 0 := by rw [hk70, gs_c _ _ _ _ (by decide), gs_c _ _ _ _ (by decide)]
              refine lv_iload hx hb dX9_chooses_64 (lv_at hl 0 rfl) ?_
              refine lv_aload_n hx hb dX9_chooses_66 rfl (lv_at hl 2 rfl) ?_
              refine get_X9_37 hx hb hA hown hE hG t_h0 wd_4_167 dX9_chooses_67 (fun x71 h72 => ?_)
              refine ty_icmp_ge (tgt := 93) hx hb dX9_chooses_70 (by decide) (fun c74 => ?_) (fun c74 => ?_)
              · skip
                have hr75 : g67 141 = (gs g 141 0 p2.toInt) 141 := funext fun j => by rw [hf69 141 j (by decide), gs_c _ _ _ _ (by decide)]
                have hr76 : g67 141 = (gs g 141 0 p2.toInt) 141 := funext fun j => by rw [hf69 141 j (by decide), gs_c _ _ _ _ (by decide)]
                have hr77 : g67 142 = (gs (gs g 141 0 p2.toInt) 142 0 x62.toInt) 142 := funext fun j => by rw [hf69 142 j (by decide)]
                exact W.vret hx hb hr (fun t ht hW => ⟨⟨g67, rfl, ⟨(fun c j h138 h139 h140 h141 h142 => by rw [hf69 c j h139, gs_c _ _ _ _ h142, gs_c _ _ _ _ h141]), (fun i => by rw [hf69 138 i (by decide), gs_c _ _ _ _ (by decide), gs_c _ _ _ _ (by decide)]), (fun i => by rw [hf69 140 i (by decide), gs_c _ _ _ _ (by decide), gs_c _ _ _ _ (by decide)]), (BG_leaf (g := g) (by have h9 := hC; rw [show p1.toInt.toNat = (g 137 0).toNat by omega] at h9; exact h9) (fun i hi => hq0 i (by omega))), (fun _ => by rw [hr75, gs_self]; omega), (by have hC9 := hC; have hP9 := hP; rw [show p1.toInt.toNat = (g 137 0).toNat by omega] at hC9 hP9 ⊢; exact ch_leaf hC9 hP9 (fun i hi => hq0 i (by omega)) (by rw [hr76, gs_self]) (by rw [hr77, gs_self]; omega) (fun q => by rw [hr76, hr77, gs_self, gs_self] at q; unfold rg_le at q; omega))⟩, ok1 ht hG⟩, hS.F ht⟩) hS.2.2 dX9_chooses_93
              · skip
                refine lv_aload_n hx hb dX9_chooses_73 rfl (lv_at hl 2 rfl) ?_
                refine get_X9_39 hx hb hA hown hE hG t_h0 wd_4_169 dX9_chooses_74 (fun b78 (t_b78 : ty Γ b78 139) => ?_)
                refine lv_iload hx hb dX9_chooses_77 (lv_at hl 0 rfl) ?_
                refine lv_aload_n hx hb dX9_chooses_79 rfl (lv_at hl 2 rfl) ?_
                refine get_X9_38 hx hb hA hown hE hG t_h0 wd_4_168 dX9_chooses_80 (fun b79 (t_b79 : ty Γ b79 138) => ?_)
                refine lv_iload hx hb dX9_chooses_83 (lv_at hl 0 rfl) ?_
                refine ald_mI hx hb hE hG 38 rfl (n := 9) rfl (lo := -2) (hi := 8) rfl rfl t_b79 (by omega) dX9_chooses_85 (fun j81 x80 h82 h83 h84 => ?_)
                obtain rfl : j81 = v6_64.toInt.toNat := by omega
                replace h83 : x80.toInt = g67 138 v6_64.toInt.toNat := h83
                have hk85 : g67 138 v6_64.toInt.toNat = (gs (gs g 141 0 p2.toInt) 142 0 x62.toInt) 138 v6_64.toInt.toNat := hf69 138 v6_64.toInt.toNat (by decide)
                replace hk85 : g67 138 v6_64.toInt.toNat = g 138 v6_64.toInt.toNat := by rw [hk85, gs_c _ _ _ _ (by decide), gs_c _ _ _ _ (by decide)]
                have hR9 : g67 138 v6_64.toInt.toNat = g 138 v6_64.toInt.toNat := by rw [hf69 138 v6_64.toInt.toNat (by decide), gs_c _ _ _ _ (by decide), gs_c _ _ _ _ (by decide)]
                have hA9 := (hC.1 v6_64.toInt.toNat (by omega)).1
                refine ast_mI hx hb hE hG hS hU 39 rfl (n := 9) rfl (lo := -1) (hi := 8) rfl rfl rfl t_b78 (by omega) (by omega) dX9_chooses_86 (fun H locs hG hS => ?_)
                obtain ⟨x86, h87⟩ : ∃ y : Int32, y = v6_64 + Int32.ofInt (1) := ⟨_, rfl⟩
                try have h88 : x86.toInt = v6_64.toInt + (1) := ty_inc h87 (by decide) (by omega) (by omega)
                refine lv_iinc (v := x86) (lv' := [(6, .int x86), (5, .int x7), (0, .ref h0), (1, .int p1), (2, .int p2), (3, .int p3), (4, .int p4)]) hx hb dX9_chooses_87 hl (k := 0) rfl h87.symm (by decide) rfl (fun ls hl => ?_)
                refine lv_goto (tgt := 64) hx hb dX9_chooses_90 (by decide) ?_
                have e89 : (gs g67 139 v6_64.toInt.toNat x80.toInt) 137 0 = g67 137 0 := by rw [gs_c _ _ _ _ (by decide)]
                exact ih_64 x86 (gs g67 139 v6_64.toInt.toNat x80.toInt) _ _ ls (by omega) (by omega) (fun c j h139 => by rw [gs_c _ _ _ _ h139, hf69 c j h139]) (fun i hi => by by_cases e9 : i = v6_64.toInt.toNat; (rw [e9, gs_self]; omega); (rw [gs_j _ _ _ _ e9]; exact hq0 i (by omega))) hG hS (lv_sub hl [0, 1, 2, 3, 4, 5, 6] rfl)
          have e90 : (gs (gs g 141 0 p2.toInt) 142 0 x62.toInt) 137 0 = g 137 0 := by rw [gs_c _ _ _ _ (by decide), gs_c _ _ _ _ (by decide)]
          exact L_64 (((gs (gs g 141 0 p2.toInt) 142 0 x62.toInt) 137 0 - x65.toInt) + 1).toNat x65 (gs (gs g 141 0 p2.toInt) 142 0 x62.toInt) _ _ ls (by omega) (by omega) (fun c j _ => rfl) (fun i hi => absurd hi (by omega)) hG hS (lv_sub hl [0, 1, 2, 3, 4, 5, 6] rfl)
      · skip
        exact W.vret hx hb hr (fun t ht hW => ⟨⟨g, rfl, ⟨(fun c j h138 h139 h140 h141 h142 => by rfl), (fun i => rfl), (fun i => rfl), (hB), (fun _ => by omega), (rg_S_none (rg_prune (by omega) (by rw [← hP.2.2.1, ← hP.2.2.2.1, ← hP.2.2.2.2.1]; omega)))⟩, ok1 ht hG⟩, hS.F ht⟩) hS.2.2 dX9_chooses_39
