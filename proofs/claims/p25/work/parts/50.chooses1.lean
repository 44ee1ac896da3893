set_option maxHeartbeats 4000000 in
set_option maxRecDepth 100000 in
/-- WeekBankModel.chooses:  -/
theorem k_X9_choosesS (D F L : Nat) (IH : ∀ (l : Launch) (dC : Nat → ClassId) (dI : Nat → Nat → Nat) (dA : Nat → ClassId) (sz : Nat) (X : va_W) (Γ : ty_G) (hU : Un Γ) (g : gh) (h0 : Nat) (t_h0 : ty Γ h0 30) (p1 : Int32) (p2 : Int32) (p3 : Int32) (p4 : Int32) (hk : 0 ≤ p1.toInt ∧ p1.toInt ≤ g 137 0 ∧ g 137 0 ≤ 9 ∧ 0 ≤ p2.toInt ∧ p2.toInt ≤ p1.toInt ∧ g 137 0 - p1.toInt ≤ (D : Int)) (hC : CH g (g 137 0).toNat p1.toInt.toNat) (hB : BG g (g 137 0).toNat) (hL : 2 ≤ g 143 (0) ∧ g 143 (0) ≤ 9) (hP : CP ( g 138) (su_w ( g 135) ( g 128) ( g 129) ( g 102) ( g 103) ( g 136)) (fun i => g 131 (g 136 i).toNat) (g 137 0).toNat p1.toInt.toNat (g 143 (0)).toNat p2.toInt p3.toInt p4.toInt), Met l yX9_chooses (.code yX9_chooses cX9_chooses 8 (Option.none : Option Jvm.ClassFile.FieldType) :: AL) ({ frames := F, cells := 0, slots := 0, locals := L }) (PCx dC dI dA sz X Γ g [.ref h0, .int p1, .int p2, .int p3, .int p4]) (va_Qv (fun (u : gh) => (∀ c j : Nat, c ≠ 138 → c ≠ 139 → c ≠ 140 → c ≠ 141 → c ≠ 142 → u c j = g c j) ∧ (∀ i : Nat, u 138 i = g 138 i) ∧ (∀ i : Nat, u 140 i = g 140 i) ∧ (BG u (g 137 0).toNat) ∧ ((0 ≤ g 141 0 ∨ ∀ j : Nat, j < (g 137 0).toNat → g 140 j ≠ 1) → 0 ≤ u 141 0) ∧ (rg_S (g 137 0).toNat (fun i => g 131 (g 136 i).toNat) (rg_P (g 137 0).toNat (su_w ( g 135) ( g 128) ( g 129) ( g 102) ( g 103) ( g 136)) (g 143 (0)).toNat p1.toInt.toNat ( g 138)) (g 141 0) (g 142 0) ( g 139) (u 141 0) (u 142 0) ( u 139))) (okb dC dI dA sz X Γ) (ty_A sz)) 0 0 (ty_A sz)) (l : Launch) (dC : Nat → ClassId) (dI : Nat → Nat → Nat) (dA : Nat → ClassId) (sz : Nat) (X : va_W) (Γ : ty_G) (hU : Un Γ) (g : gh) (h0 : Nat) (t_h0 : ty Γ h0 30) (p1 : Int32) (p2 : Int32) (p3 : Int32) (p4 : Int32) (hk : 0 ≤ p1.toInt ∧ p1.toInt ≤ g 137 0 ∧ g 137 0 ≤ 9 ∧ 0 ≤ p2.toInt ∧ p2.toInt ≤ p1.toInt ∧ g 137 0 - p1.toInt ≤ (D : Int) + 1) (hC : CH g (g 137 0).toNat p1.toInt.toNat) (hB : BG g (g 137 0).toNat) (hL : 2 ≤ g 143 (0) ∧ g 143 (0) ≤ 9) (hP : CP ( g 138) (su_w ( g 135) ( g 128) ( g 129) ( g 102) ( g 103) ( g 136)) (fun i => g 131 (g 136 i).toNat) (g 137 0).toNat p1.toInt.toNat (g 143 (0)).toNat p2.toInt p3.toInt p4.toInt) : Met l yX9_chooses (.code yX9_chooses cX9_chooses 8 (Option.none : Option Jvm.ClassFile.FieldType) :: AL) ({ frames := F + 3, cells := 0, slots := 0, locals := L + 100 }) (PCx dC dI dA sz X Γ g [.ref h0, .int p1, .int p2, .int p3, .int p4]) (va_Qv (fun (u : gh) => (∀ c j : Nat, c ≠ 138 → c ≠ 139 → c ≠ 140 → c ≠ 141 → c ≠ 142 → u c j = g c j) ∧ (∀ i : Nat, u 138 i = g 138 i) ∧ (∀ i : Nat, u 140 i = g 140 i) ∧ (BG u (g 137 0).toNat) ∧ ((0 ≤ g 141 0 ∨ ∀ j : Nat, j < (g 137 0).toNat → g 140 j ≠ 1) → 0 ≤ u 141 0) ∧ (rg_S (g 137 0).toNat (fun i => g 131 (g 136 i).toNat) (rg_P (g 137 0).toNat (su_w ( g 135) ( g 128) ( g 129) ( g 102) ( g 103) ( g 136)) (g 143 (0)).toNat p1.toInt.toNat ( g 138)) (g 141 0) (g 142 0) ( g 139) (u 141 0) (u 142 0) ( u 139))) (okb dC dI dA sz X Γ) (ty_A sz)) 0 0 (ty_A sz) := by
  refine Met.ofW (cc := cX9_chooses) (maxL := 8) (ret := (Option.none : Option Jvm.ClassFile.FieldType)) (by decide) rfl ?_
  intro p e s m args below meth c s₁ B hml hv
  obtain ⟨rfl, hG, hE⟩ := hv
  have hx := B.exec
  have hb := B.bytes
  have hr := B.returns
  have hts := atoms_spec B.pre
  have hA : ∀ w ∈ AL, w.before _ s = true := fun w h => hts w (List.mem_cons_of_mem _ h)
  have hown : s.vm.findClass RX9 = some m.cls := findClass_of_methodNamed B.named
  have hlocks := B.notSynchronized
  have hS : va_S (ty_A sz) s.heap s.heap [] := va_S.rf
  have hb9 := CP_b hP (by omega)
  have hw9 : Unit → p1.toInt < g 137 0 → 0 ≤ g 131 (g 136 p1.toInt.toNat).toNat ∧ g 131 (g 136 p1.toInt.toNat).toNat ≤ 29997 := fun _ h => hP.2.2.2.2.2 p1.toInt.toNat (by omega)
  have hl := lv_entry ([.ref h0, .int p1, .int p2, .int p3, .int p4]) (n := 8) (Nat.le_of_ble_eq_true rfl)
  rw [lg_entry_eq]
  generalize (lg_sl ([.ref h0, .int p1, .int p2, .int p3, .int p4]) ++ List.replicate (8 - (lg_sl ([.ref h0, .int p1, .int p2, .int p3, .int p4])).length) Slot.unset).toArray = ls at hl ⊢
  have hl : lv_has ls 8 [(0, .ref h0), (1, .int p1), (2, .int p2), (3, .int p3), (4, .int p4)] := hl
  refine lv_iload_n hx hb dX9_chooses_0 rfl (lv_at hl 2 rfl) ?_
  refine lv_aload_n hx hb dX9_chooses_1 rfl (lv_at hl 0 rfl) ?_
  refine get_X9_37 hx hb hA hown hE hG t_h0 wd_4_167 dX9_chooses_2 (fun x1 h2 => ?_)
  refine ty_iadd hx hb dX9_chooses_5 (fun x4 h5 => ?_)
  try have h6 : x4.toInt = p2.toInt + x1.toInt := ty_add h5 (by omega) (by omega)
  refine lv_iload_n hx hb dX9_chooses_6 rfl (lv_at hl 1 rfl) ?_
  refine ty_isub hx hb dX9_chooses_7 (fun x7 h8 => ?_)
  try have h9 : x7.toInt = x4.toInt - p1.toInt := ty_sub h8 (by omega) (by omega)
  refine lv_istore (lv' := [(5, .int x7), (0, .ref h0), (1, .int p1), (2, .int p2), (3, .int p3), (4, .int p4)]) hx hb dX9_chooses_8 hl (by decide) rfl (fun ls hl => ?_)
  refine lv_iload hx hb dX9_chooses_10 (lv_at hl 0 rfl) ?_
  refine lv_aload_n hx hb dX9_chooses_12 rfl (lv_at hl 1 rfl) ?_
  refine get_X9_41 hx hb hA hown hE hG t_h0 wd_4_171 dX9_chooses_13 (fun x10 h11 => ?_)
  refine ty_icmp_lt (tgt := 39) hx hb dX9_chooses_16 (by decide) (fun c13 => ?_) (fun c13 => ?_)
  · skip
    exact W.vret hx hb hr (fun t ht hW => ⟨⟨g, rfl, ⟨(fun c j h138 h139 h140 h141 h142 => by rfl), (fun i => rfl), (fun i => rfl), (hB), (fun _ => by omega), (rg_S_none (rg_prune (by omega) (by rw [← hP.2.2.1, ← hP.2.2.2.1, ← hP.2.2.2.2.1]; omega)))⟩, ok1 ht hG⟩, hS.F ht⟩) hS.2.2 dX9_chooses_39
  · skip
    refine lv_iload hx hb dX9_chooses_19 (lv_at hl 0 rfl) ?_
    refine lv_aload_n hx hb dX9_chooses_21 rfl (lv_at hl 1 rfl) ?_
    refine get_X9_41 hx hb hA hown hE hG t_h0 wd_4_171 dX9_chooses_22 (fun x14 h15 => ?_)
    refine ty_icmp_ne (tgt := 40) hx hb dX9_chooses_25 (by decide) (fun c17 => ?_) (fun c17 => ?_)
    · skip
      refine lv_iload_n hx hb dX9_chooses_40 rfl (lv_at hl 2 rfl) ?_
      refine lv_aload_n hx hb dX9_chooses_41 rfl (lv_at hl 1 rfl) ?_
      refine get_X9_37 hx hb hA hown hE hG t_h0 wd_4_167 dX9_chooses_42 (fun x18 h19 => ?_)
      refine ty_icmp_ne (tgt := 94) hx hb dX9_chooses_45 (by decide) (fun c21 => ?_) (fun c21 => ?_)
      · skip
        refine ty_iconst hx hb (0) dX9_chooses_94 (by decide) (fun x22 h23 => ?_)
        refine lv_istore (lv' := [(6, .int x22), (5, .int x7), (0, .ref h0), (1, .int p1), (2, .int p2), (3, .int p3), (4, .int p4)]) hx hb dX9_chooses_95 hl (by decide) rfl (fun ls hl => ?_)
        have L_97 : ∀ (n : Nat) (v6_97 : Int32) (g24 : gh) (H : Heap) (locs : List Loc) (ls : Array Slot), (g24 137 0 - v6_97.toInt : Int) < n → 0 ≤ v6_97.toInt ∧ v6_97.toInt ≤ g24 137 0 → (∀ c j : Nat, c ≠ 138 → c ≠ 139 → c ≠ 140 → c ≠ 141 → c ≠ 142 → g24 c j = g c j) → (∀ i : Nat, i ≠ p1.toInt.toNat → g24 138 i = g 138 i) → (∀ i : Nat, g24 140 i = g 140 i) → (BG g24 (g 137 0).toNat) → (0 ≤ g 141 0 → 0 ≤ g24 141 0) → (rg_S (g 137 0).toNat (fun i => g 131 (g 136 i).toNat) (rg_J (g 137 0).toNat (su_w (g 135) (g 128) (g 129) (g 102) (g 103) (g 136)) (g 143 0).toNat p1.toInt.toNat (g 138) v6_97.toInt) (g 141 0) (g 142 0) (g 139) (g24 141 0) (g24 142 0) (g24 139)) → ty_ok (dC, dI) vwCl Γ (TP dA Γ g24) sz X H → va_S (ty_A sz) s.heap H locs → lv_has ls 8 [(6, .int v6_97), (5, .int x7), (0, .ref h0), (1, .int p1), (2, .int p2), (3, .int p3), (4, .int p4)] → W p l e (headSpec (.code yX9_chooses cX9_chooses 8 (Option.none : Option Jvm.ClassFile.FieldType) :: AL) ({ frames := F + 3, cells := 0, slots := 0, locals := L + 100 })).room s m ([.ref h0, .int p1, .int p2, .int p3, .int p4] : List Value).toArray below meth c H locs 0 0 (MQ below (va_Qv (fun (u : gh) => (∀ c j : Nat, c ≠ 138 → c ≠ 139 → c ≠ 140 → c ≠ 141 → c ≠ 142 → u c j = g c j) ∧ (∀ i : Nat, u 138 i = g 138 i) ∧ (∀ i : Nat, u 140 i = g 140 i) ∧ (BG u (g 137 0).toNat) ∧ ((0 ≤ g 141 0 ∨ ∀ j : Nat, j < (g 137 0).toNat → g 140 j ≠ 1) → 0 ≤ u 141 0) ∧ (rg_S (g 137 0).toNat (fun i => g 131 (g 136 i).toNat) (rg_P (g 137 0).toNat (su_w ( g 135) ( g 128) ( g 129) ( g 102) ( g 103) ( g 136)) (g 143 (0)).toNat p1.toInt.toNat ( g 138)) (g 141 0) (g 142 0) ( g 139) (u 141 0) (u 142 0) ( u 139))) (okb dC dI dA sz X Γ) (ty_A sz)) ([.ref h0, .int p1, .int p2, .int p3, .int p4] : List Value).toArray s 0 0 (ty_A sz)) (F0 m 97 ls []) := by
          intro n
          induction n with
          | zero => intro v6_97 g24 H locs ls hm hi0 hf25 hq0 hq1 hq2 hq3 hq4 hG hS hl; exfalso; omega
          | succ n ih_97 =>
            intro v6_97 g24 H locs ls hm hi0 hf25 hq0 hq1 hq2 hq3 hq4 hG hS hl
            have hk26 : g24 137 0 = g 137 0 := hf25 137 0 (by decide) (by decide) (by decide) (by decide) (by decide)
            refine lv_iload hx hb dX9_chooses_97 (lv_at hl 0 rfl) ?_
            refine lv_aload_n hx hb dX9_chooses_99 rfl (lv_at hl 2 rfl) ?_
            refine get_X9_37 hx hb hA hown hE hG t_h0 wd_4_167 dX9_chooses_100 (fun x27 h28 => ?_)
            refine ty_icmp_ge (tgt := 233) hx hb dX9_chooses_103 (by decide) (fun c30 => ?_) (fun c30 => ?_)
            · skip
              refine lv_aload_n hx hb dX9_chooses_233 rfl (lv_at hl 2 rfl) ?_
              refine get_X9_38 hx hb hA hown hE hG t_h0 wd_4_168 dX9_chooses_234 (fun b31 (t_b31 : ty Γ b31 138) => ?_)
              refine lv_iload_n hx hb dX9_chooses_237 rfl (lv_at hl 3 rfl) ?_
              refine ty_iconst hx hb (-1) dX9_chooses_238 (by decide) (fun x32 h33 => ?_)
              refine ast_mI hx hb hE hG hS hU 38 rfl (n := 9) rfl (lo := -2) (hi := 8) rfl rfl rfl t_b31 (by omega) (by omega) dX9_chooses_239 (fun H locs hG hS => ?_)
              refine lv_aload_n hx hb dX9_chooses_240 rfl (lv_at hl 2 rfl) ?_
              refine get_X9_40 hx hb hA hown hE hG t_h0 wd_4_170 dX9_chooses_241 (fun b34 (t_b34 : ty Γ b34 140) => ?_)
              refine lv_iload_n hx hb dX9_chooses_244 rfl (lv_at hl 3 rfl) ?_
              refine ald_mZ hx hb hE hG 40 rfl (n := 9) rfl (lo := 0) (hi := 1) rfl rfl t_b34 (by omega) dX9_chooses_245 (fun j36 x35 h37 h38 h39 => ?_)
              obtain rfl : j36 = p1.toInt.toNat := by omega
              rw [gs_c _ _ _ _ (by decide)] at h38
              replace h38 : x35.toInt = g24 140 p1.toInt.toNat := h38
              refine ty_if_ne (tgt := 272) hx hb dX9_chooses_246 (by decide) (fun c40 => ?_) (fun c40 => ?_)
              · skip
                refine lv_aload_n hx hb dX9_chooses_272 rfl (lv_at hl 2 rfl) ?_
                refine get_X9_38 hx hb hA hown hE hG t_h0 wd_4_168 dX9_chooses_273 (fun b41 (t_b41 : ty Γ b41 138) => ?_)
                refine lv_iload_n hx hb dX9_chooses_276 rfl (lv_at hl 3 rfl) ?_
                refine ty_bipush hx hb (-2) dX9_chooses_277 (by decide) (fun x42 h43 => ?_)
                refine ast_mI hx hb hE hG hS hU 38 rfl (n := 9) rfl (lo := -2) (hi := 8) rfl rfl rfl t_b41 (by omega) (by omega) dX9_chooses_279 (fun H locs hG hS => ?_)
                exact W.vret hx hb hr (fun t ht hW => ⟨⟨(gs (gs g24 138 p1.toInt.toNat x32.toInt) 138 p1.toInt.toNat x42.toInt), rfl, ⟨(fun c j h138 h139 h140 h141 h142 => by rw [gs_c _ _ _ _ h138, gs_c _ _ _ _ h138, hf25 c j h138 h139 h140 h141 h142]), (fun i => by by_cases hi : i = p1.toInt.toNat; (rw [hi, gs_self, hC.2.1 p1.toInt.toNat (by omega) (by omega)]; omega); (rw [gs_j _ _ _ _ hi]; rw [gs_j _ _ _ _ hi]; exact hq0 i hi)), (fun i => by rw [gs_c _ _ _ _ (by decide), gs_c _ _ _ _ (by decide)]; exact hq1 i), (BG_cg (by rw [gs_c _ _ _ _ (by decide), gs_c _ _ _ _ (by decide)]) (fun i => by rw [gs_c _ _ _ _ (by decide), gs_c _ _ _ _ (by decide)]) hq2), (fun h => by rw [gs_c _ _ _ _ (by decide), gs_c _ _ _ _ (by decide)]; exact hq3 (h.elim id (fun h9 => absurd (show g 140 p1.toInt.toNat = 1 by have := hq1 p1.toInt.toNat; omega) (h9 p1.toInt.toNat (by omega))))), (by rw [show (gs (gs g24 138 p1.toInt.toNat x32.toInt) 138 p1.toInt.toNat x42.toInt) 141 0 = g24 141 0 by rw [gs_c _ _ _ _ (by decide), gs_c _ _ _ _ (by decide)], show (gs (gs g24 138 p1.toInt.toNat x32.toInt) 138 p1.toInt.toNat x42.toInt) 142 0 = g24 142 0 by rw [gs_c _ _ _ _ (by decide), gs_c _ _ _ _ (by decide)], show (gs (gs g24 138 p1.toInt.toNat x32.toInt) 138 p1.toInt.toNat x42.toInt) 139 = g24 139 from funext fun j => by rw [gs_c _ _ _ _ (by decide), gs_c _ _ _ _ (by decide)]]; exact ch_endn hC (by omega) (j := v6_97.toInt) (by omega) (by have := hq1 p1.toInt.toNat; omega) hq4)⟩, ok1 ht hG⟩, hS.F ht⟩) hS.2.2 dX9_chooses_280
              · skip
                have hz9 := hq1 p1.toInt.toNat
                have h137 : (gs g24 138 p1.toInt.toNat x32.toInt) 137 0 = g 137 0 := by rw [gs_c _ _ _ _ (by decide), hf25 137 0 (by decide) (by decide) (by decide) (by decide) (by decide)]
                have hC2 : CH (gs g24 138 p1.toInt.toNat x32.toInt) (g 137 0).toNat (p1.toInt.toNat + 1) := CH_none hC (by omega) (by omega) (by rw [gs_self]; omega) (fun i hi => by rw [gs_j _ _ _ _ hi]; exact hq0 i hi) (fun i => by rw [gs_c _ _ _ _ (by decide)]; exact hq1 i)
                have h143 : (gs g24 138 p1.toInt.toNat x32.toInt) 143 = g 143 := funext fun j => by rw [gs_c _ _ _ _ (by decide), hf25 143 j (by decide) (by decide) (by decide) (by decide) (by decide)]
                have hr131 : (gs g24 138 p1.toInt.toNat x32.toInt) 131 = g 131 := funext fun j => by rw [gs_c _ _ _ _ (by decide), hf25 131 j (by decide) (by decide) (by decide) (by decide) (by decide)]
                have hr136 : (gs g24 138 p1.toInt.toNat x32.toInt) 136 = g 136 := funext fun j => by rw [gs_c _ _ _ _ (by decide), hf25 136 j (by decide) (by decide) (by decide) (by decide) (by decide)]
                have hr135 : (gs g24 138 p1.toInt.toNat x32.toInt) 135 = g 135 := funext fun j => by rw [gs_c _ _ _ _ (by decide), hf25 135 j (by decide) (by decide) (by decide) (by decide) (by decide)]
                have hr128 : (gs g24 138 p1.toInt.toNat x32.toInt) 128 = g 128 := funext fun j => by rw [gs_c _ _ _ _ (by decide), hf25 128 j (by decide) (by decide) (by decide) (by decide) (by decide)]
                have hr129 : (gs g24 138 p1.toInt.toNat x32.toInt) 129 = g 129 := funext fun j => by rw [gs_c _ _ _ _ (by decide), hf25 129 j (by decide) (by decide) (by decide) (by decide) (by decide)]
                have hr102 : (gs g24 138 p1.toInt.toNat x32.toInt) 102 = g 102 := funext fun j => by rw [gs_c _ _ _ _ (by decide), hf25 102 j (by decide) (by decide) (by decide) (by decide) (by decide)]
                have hr103 : (gs g24 138 p1.toInt.toNat x32.toInt) 103 = g 103 := funext fun j => by rw [gs_c _ _ _ _ (by decide), hf25 103 j (by decide) (by decide) (by decide) (by decide) (by decide)]
                have hr139 : (gs g24 138 p1.toInt.toNat x32.toInt) 139 = g24 139 := funext fun j => by rw [gs_c _ _ _ _ (by decide)]
                have hr141 : (gs g24 138 p1.toInt.toNat x32.toInt) 141 = g24 141 := funext fun j => by rw [gs_c _ _ _ _ (by decide)]
                have hr142 : (gs g24 138 p1.toInt.toNat x32.toInt) 142 = g24 142 := funext fun j => by rw [gs_c _ _ _ _ (by decide)]
                have hu9 : (gs g24 138 p1.toInt.toNat x32.toInt) 138 = rg_up (g 138) p1.toInt.toNat (-1) := funext fun i => by by_cases e9 : i = p1.toInt.toNat; (rw [e9, rg_up_s, gs_self]; omega); (rw [rg_up_n e9, gs_j _ _ _ _ e9]; exact hq0 i e9)
                have hw8 := hw9 () (by omega)
                refine lv_aload_n hx hb dX9_chooses_249 rfl (lv_at hl 2 rfl) ?_
                refine lv_iload_n hx hb dX9_chooses_250 rfl (lv_at hl 3 rfl) ?_
                refine ty_iconst hx hb (1) dX9_chooses_251 (by decide) (fun x44 h45 => ?_)
                refine ty_iadd hx hb dX9_chooses_252 (fun x46 h47 => ?_)
                try have h48 : x46.toInt = p1.toInt + x44.toInt := ty_add h47 (by omega) (by omega)
                refine lv_iload_n hx hb dX9_chooses_253 rfl (lv_at hl 4 rfl) ?_
                refine lv_iload_n hx hb dX9_chooses_254 rfl (lv_at hl 5 rfl) ?_
                refine lv_aload_n hx hb dX9_chooses_255 rfl (lv_at hl 2 rfl) ?_
                refine get_X9_31 hx hb hA hown hE hG t_h0 wd_4_161 dX9_chooses_256 (fun b49 (t_b49 : ty Γ b49 131) => ?_)
                refine lv_aload_n hx hb dX9_chooses_259 rfl (lv_at hl 2 rfl) ?_
                refine get_X9_36 hx hb hA hown hE hG t_h0 wd_4_166 dX9_chooses_260 (fun b50 (t_b50 : ty Γ b50 136) => ?_)
                refine lv_iload_n hx hb dX9_chooses_263 rfl (lv_at hl 3 rfl) ?_
                refine ald_mI hx hb hE hG 36 rfl (n := 9) rfl (lo := 0) (hi := 199) rfl rfl t_b50 (by omega) dX9_chooses_264 (fun j52 x51 h53 h54 h55 => ?_)
                obtain rfl : j52 = p1.toInt.toNat := by omega
                rw [gs_c _ _ _ _ (by decide)] at h54
                replace h54 : x51.toInt = g24 136 p1.toInt.toNat := h54
                have hk56 : g24 136 p1.toInt.toNat = g 136 p1.toInt.toNat := hf25 136 p1.toInt.toNat (by decide) (by decide) (by decide) (by decide) (by decide)
                refine ald_mI hx hb hE hG 31 rfl (n := 200) rfl (lo := -2147483648) (hi := 2147483647) rfl rfl t_b49 (by omega) dX9_chooses_265 (fun j58 x57 h59 h60 h61 => ?_)
                clear h61
                obtain rfl : j58 = x51.toInt.toNat := by omega
                rw [gs_c _ _ _ _ (by decide)] at h60
                replace h60 : x57.toInt = g24 131 x51.toInt.toNat := h60
                replace h60 : x57.toInt = g24 131 ((g 136 p1.toInt.toNat).toNat) := by rw [h60, show x51.toInt.toNat = ((g 136 p1.toInt.toNat).toNat) by omega]
                have hk62 : g24 131 ((g 136 p1.toInt.toNat).toNat) = g 131 ((g 136 p1.toInt.toNat).toNat) := hf25 131 ((g 136 p1.toInt.toNat).toNat) (by decide) (by decide) (by decide) (by decide) (by decide)
                refine ty_iadd hx hb dX9_chooses_266 (fun x63 h64 => ?_)
                try have h65 : x63.toInt = p3.toInt + x57.toInt := ty_add h64 (by omega) (by omega)
                refine lv_iload hx hb dX9_chooses_267 (lv_at hl 6 rfl) ?_
                have e66 : (gs g24 138 p1.toInt.toNat x32.toInt) 137 0 = g24 137 0 := by rw [gs_c _ _ _ _ (by decide)]
                have e67 : (gs g24 138 p1.toInt.toNat x32.toInt) 137 0 = g24 137 0 := by rw [gs_c _ _ _ _ (by decide)]
                have e68 : (gs g24 138 p1.toInt.toNat x32.toInt) 137 0 = g24 137 0 := by rw [gs_c _ _ _ _ (by decide)]
                have e69 : (gs g24 138 p1.toInt.toNat x32.toInt) 137 0 = g24 137 0 := by rw [gs_c _ _ _ _ (by decide)]
                refine cV (va_runV (C := RX9) (As := [.int x46, .int p2, .int x63, .int p4]) (rest := []) ⟨hx, hb, hml, hown, hA⟩ (IH l dC dI dA sz X Γ hU (gs g24 138 p1.toInt.toNat x32.toInt) h0 t_h0 x46 p2 x63 p4   (by omega) (by rw [h137, show x46.toInt.toNat = p1.toInt.toNat + 1 by omega]; exact hC2) (by rw [h137]; exact BG_cg (by rw [gs_c _ _ _ _ (by decide)]) (fun i => by rw [gs_c _ _ _ _ (by decide)]) hq2) (by rw [h143]; exact hL) (by rw [h137, h143, hr131, hr136, hr135, hr128, hr129, hr102, hr103, show x46.toInt.toNat = p1.toInt.toNat + 1 by omega] <;> exact CP_none hP hu9 (show x63.toInt = p3.toInt + g 131 (g 136 p1.toInt.toNat).toNat by omega))) ⟨callB_of 4 hA (al_A wd_5_152) rfl rfl rfl (hA _ wd_1_7) (hA _ wd_5_149) (by decide +kernel) ⟨Nat.add_le_add_left (by decide) F, show 8 + (8 + 11) + L ≤ L + 100 by omega⟩, hA _ wd_5_151, hA _ ws_49⟩ ⟨bl, recv_X9 hE hG t_h0, fun U hU9 hW9 => ⟨rfl, by rw [hU9]; exact hG, hE.go hS hU9 hW9⟩⟩ rfl rfl hl.1 rfl (lv_room (Nat.le_of_ble_eq_true rfl)) dX9_chooses_269 ⟨Nat.zero_le _, Nat.zero_le _⟩) hS (fun u70 H locs w71 hG hS => ?_)
                obtain ⟨hf77, hq72, hq73, hq74, hq75, hq76⟩ := w71
                refine lv_aload_n hx hb dX9_chooses_272 rfl (lv_at hl 2 rfl) ?_
                refine get_X9_38 hx hb hA hown hE hG t_h0 wd_4_168 dX9_chooses_273 (fun b78 (t_b78 : ty Γ b78 138) => ?_)
                refine lv_iload_n hx hb dX9_chooses_276 rfl (lv_at hl 3 rfl) ?_
                refine ty_bipush hx hb (-2) dX9_chooses_277 (by decide) (fun x79 h80 => ?_)
                refine ast_mI hx hb hE hG hS hU 38 rfl (n := 9) rfl (lo := -2) (hi := 8) rfl rfl rfl t_b78 (by omega) (by omega) dX9_chooses_279 (fun H locs hG hS => ?_)
                exact W.vret hx hb hr (fun t ht hW => ⟨⟨(gs u70 138 p1.toInt.toNat x79.toInt), rfl, ⟨(fun c j h138 h139 h140 h141 h142 => by rw [gs_c _ _ _ _ h138, hf77 c j h138 h139 h140 h141 h142, gs_c _ _ _ _ h138, hf25 c j h138 h139 h140 h141 h142]), (fun i => by by_cases hi : i = p1.toInt.toNat; (rw [hi, gs_self, hC.2.1 p1.toInt.toNat (by omega) (by omega)]; omega); (rw [gs_j _ _ _ _ hi]; rw [hq72 i, gs_j _ _ _ _ hi]; exact hq0 i hi)), (fun i => by rw [gs_c _ _ _ _ (by decide), hq73 i, gs_c _ _ _ _ (by decide)]; exact hq1 i), (BG_cg (by rw [gs_c _ _ _ _ (by decide)]) (fun i => by rw [gs_c _ _ _ _ (by decide)]) (by have h9 := hq74; rw [h137] at h9; exact h9)), (fun h => by rw [gs_c _ _ _ _ (by decide)]; exact hq75 (h.elim (fun h9 => Or.inl (by rw [gs_c _ _ _ _ (by decide)]; exact hq3 h9)) (fun h9 => Or.inr (fun j hj => by rw [h137] at hj; rw [gs_c _ _ _ _ (by decide)]; rw [hq1 j]; exact h9 j hj)))), (by rw [show (gs u70 138 p1.toInt.toNat x79.toInt) 141 0 = u70 141 0 by rw [gs_c _ _ _ _ (by decide)], show (gs u70 138 p1.toInt.toNat x79.toInt) 142 0 = u70 142 0 by rw [gs_c _ _ _ _ (by decide)], show (gs u70 138 p1.toInt.toNat x79.toInt) 139 = u70 139 from funext fun j => by rw [gs_c _ _ _ _ (by decide)]]; exact ch_end (by omega) (by omega) (j := v6_97.toInt) (by omega) hq4 (by have h9 := hq76; rw [h137, h143, hr131, hr136, hr135, hr128, hr129, hr102, hr103, hr141, hr142, hr139, hu9, show x46.toInt.toNat = p1.toInt.toNat + 1 by omega] at h9; exact h9))⟩, ok1 ht hG⟩, hS.F ht⟩) hS.2.2 dX9_chooses_280
            · skip
              refine lv_iload hx hb dX9_chooses_106 (lv_at hl 0 rfl) ?_
              refine lv_iload_n hx hb dX9_chooses_108 rfl (lv_at hl 3 rfl) ?_
              refine ty_icmp_eq (tgt := 163) hx hb dX9_chooses_109 (by decide) (fun c81 => ?_) (fun c81 => ?_)
              · skip
                refine ty_iconst hx hb (0) dX9_chooses_163 (by decide) (fun x82 h83 => ?_)
                refine lv_istore (lv' := [(7, .int x82), (6, .int v6_97), (5, .int x7), (0, .ref h0), (1, .int p1), (2, .int p2), (3, .int p3), (4, .int p4)]) hx hb dX9_chooses_164 hl (by decide) rfl (fun ls hl => ?_)
                refine lv_iload hx hb dX9_chooses_166 (lv_at hl 0 rfl) ?_
                refine ty_if_ne (tgt := 174) hx hb dX9_chooses_168 (by decide) (fun c84 => ?_) (fun c84 => ?_)
                · exfalso; omega
                · skip
                  refine lv_goto (tgt := 227) hx hb dX9_chooses_171 (by decide) ?_
                  obtain ⟨x85, h86⟩ : ∃ y : Int32, y = v6_97 + Int32.ofInt (1) := ⟨_, rfl⟩
                  try have h87 : x85.toInt = v6_97.toInt + (1) := ty_inc h86 (by decide) (by omega) (by omega)
                  refine lv_iinc (v := x85) (lv' := [(6, .int x85), (7, .int x82), (5, .int x7), (0, .ref h0), (1, .int p1), (2, .int p2), (3, .int p3), (4, .int p4)]) hx hb dX9_chooses_227 hl (k := 1) rfl h86.symm (by decide) rfl (fun ls hl => ?_)
                  refine lv_goto (tgt := 97) hx hb dX9_chooses_230 (by decide) ?_
                  exact ih_97 x85 g24 _ _ ls (by omega) (by omega) (fun c j h138 h139 h140 h141 h142 => by rw [hf25 c j h138 h139 h140 h141 h142]) (hq0) (hq1) (hq2) (hq3) (by exact ch_no hq4 (by omega) (by omega) (no_self (by omega) (fun i h => h.1 rfl) (by omega))) hG hS (lv_sub hl [0, 2, 3, 4, 5, 6, 7] rfl)
              · skip
                refine lv_aload_n hx hb dX9_chooses_112 rfl (lv_at hl 2 rfl) ?_
                refine get_X9_40 hx hb hA hown hE hG t_h0 wd_4_170 dX9_chooses_113 (fun b88 (t_b88 : ty Γ b88 140) => ?_)
                refine lv_iload hx hb dX9_chooses_116 (lv_at hl 0 rfl) ?_
                refine ald_mZ hx hb hE hG 40 rfl (n := 9) rfl (lo := 0) (hi := 1) rfl rfl t_b88 (by omega) dX9_chooses_118 (fun j90 x89 h91 h92 h93 => ?_)
                obtain rfl : j90 = v6_97.toInt.toNat := by omega
                replace h92 : x89.toInt = g24 140 v6_97.toInt.toNat := h92
                refine ty_if_ne (tgt := 163) hx hb dX9_chooses_119 (by decide) (fun c94 => ?_) (fun c94 => ?_)
                · skip
                  refine ty_iconst hx hb (0) dX9_chooses_163 (by decide) (fun x95 h96 => ?_)
                  refine lv_istore (lv' := [(7, .int x95), (6, .int v6_97), (5, .int x7), (0, .ref h0), (1, .int p1), (2, .int p2), (3, .int p3), (4, .int p4)]) hx hb dX9_chooses_164 hl (by decide) rfl (fun ls hl => ?_)
                  refine lv_iload hx hb dX9_chooses_166 (lv_at hl 0 rfl) ?_
                  refine ty_if_ne (tgt := 174) hx hb dX9_chooses_168 (by decide) (fun c97 => ?_) (fun c97 => ?_)
                  · exfalso; omega
                  · skip
                    refine lv_goto (tgt := 227) hx hb dX9_chooses_171 (by decide) ?_
                    obtain ⟨x98, h99⟩ : ∃ y : Int32, y = v6_97 + Int32.ofInt (1) := ⟨_, rfl⟩
                    try have h100 : x98.toInt = v6_97.toInt + (1) := ty_inc h99 (by decide) (by omega) (by omega)
                    refine lv_iinc (v := x98) (lv' := [(6, .int x98), (7, .int x95), (5, .int x7), (0, .ref h0), (1, .int p1), (2, .int p2), (3, .int p3), (4, .int p4)]) hx hb dX9_chooses_227 hl (k := 1) rfl h99.symm (by decide) rfl (fun ls hl => ?_)
                    refine lv_goto (tgt := 97) hx hb dX9_chooses_230 (by decide) ?_
                    exact ih_97 x98 g24 _ _ ls (by omega) (by omega) (fun c j h138 h139 h140 h141 h142 => by rw [hf25 c j h138 h139 h140 h141 h142]) (hq0) (hq1) (hq2) (hq3) (by exact ch_no hq4 (by omega) (by omega) (no_got hC (by omega) (J := v6_97.toInt.toNat) (by omega) (by omega) (by have := hq1 v6_97.toInt.toNat; omega))) hG hS (lv_sub hl [0, 2, 3, 4, 5, 6, 7] rfl)
                · skip
                  refine lv_iload hx hb dX9_chooses_122 (lv_at hl 0 rfl) ?_
                  refine lv_iload_n hx hb dX9_chooses_124 rfl (lv_at hl 3 rfl) ?_
                  refine ty_icmp_gt (tgt := 139) hx hb dX9_chooses_125 (by decide) (fun c101 => ?_) (fun c101 => ?_)
                  · skip
                    refine lv_aload_n hx hb dX9_chooses_139 rfl (lv_at hl 2 rfl) ?_
                    refine lv_aload_n hx hb dX9_chooses_140 rfl (lv_at hl 2 rfl) ?_
                    refine get_X9_36 hx hb hA hown hE hG t_h0 wd_4_166 dX9_chooses_141 (fun b102 (t_b102 : ty Γ b102 136) => ?_)
                    refine lv_iload hx hb dX9_chooses_144 (lv_at hl 0 rfl) ?_
                    refine ald_mI hx hb hE hG 36 rfl (n := 9) rfl (lo := 0) (hi := 199) rfl rfl t_b102 (by omega) dX9_chooses_146 (fun j104 x103 h105 h106 h107 => ?_)
                    obtain rfl : j104 = v6_97.toInt.toNat := by omega
                    replace h106 : x103.toInt = g24 136 v6_97.toInt.toNat := h106
                    have hk108 : g24 136 v6_97.toInt.toNat = g 136 v6_97.toInt.toNat := hf25 136 v6_97.toInt.toNat (by decide) (by decide) (by decide) (by decide) (by decide)
                    refine lv_aload_n hx hb dX9_chooses_147 rfl (lv_at hl 2 rfl) ?_
                    refine get_X9_36 hx hb hA hown hE hG t_h0 wd_4_166 dX9_chooses_148 (fun b109 (t_b109 : ty Γ b109 136) => ?_)
                    refine lv_iload_n hx hb dX9_chooses_151 rfl (lv_at hl 3 rfl) ?_
                    refine ald_mI hx hb hE hG 36 rfl (n := 9) rfl (lo := 0) (hi := 199) rfl rfl t_b109 (by omega) dX9_chooses_152 (fun j111 x110 h112 h113 h114 => ?_)
                    obtain rfl : j111 = p1.toInt.toNat := by omega
                    replace h113 : x110.toInt = g24 136 p1.toInt.toNat := h113
                    have hk115 : g24 136 p1.toInt.toNat = g 136 p1.toInt.toNat := hf25 136 p1.toInt.toNat (by decide) (by decide) (by decide) (by decide) (by decide)
                    refine cI (va_runV (C := RX9) (As := [.int x103, .int x110]) (rest := []) ⟨hx, hb, hml, hown, hA⟩ (k_X9_meets l dC dI dA sz X Γ hU g24 h0 t_h0 x103 x110   (by omega)) ⟨callB_of 2 hA (al_A wd_5_156) rfl rfl rfl (hA _ wd_1_7) (hA _ wd_5_153) (by decide +kernel) ⟨Nat.le_trans (Nat.le_of_ble_eq_true rfl) (Nat.le_add_left 3 F), Nat.le_trans (Nat.le_of_ble_eq_true rfl) (Nat.le_add_left 100 L)⟩, hA _ wd_5_155, hA _ ws_50⟩ ⟨bl, recv_X9 hE hG t_h0, fun U hU9 hW9 => ⟨rfl, by rw [hU9]; exact hG, hE.go hS hU9 hW9⟩⟩ rfl rfl hl.1 rfl (lv_room (Nat.le_of_ble_eq_true rfl)) dX9_chooses_153 ⟨Nat.zero_le _, Nat.zero_le _⟩) hS (fun x118 u116 H locs w117 hG hS => ?_)
                    obtain ⟨eu119, w117⟩ := w117
                    rw [eu119] at hG
                    rw [show g24 135 = (g 135) by rw [(show g24 135 = g 135 from funext fun j => hf25 135 j (by decide) (by decide) (by decide) (by decide) (by decide))]] at w117
                    rw [show g24 102 = (g 102) by rw [(show g24 102 = g 102 from funext fun j => hf25 102 j (by decide) (by decide) (by decide) (by decide) (by decide))]] at w117
                    rw [show g24 128 = (g 128) by rw [(show g24 128 = g 128 from funext fun j => hf25 128 j (by decide) (by decide) (by decide) (by decide) (by decide))]] at w117
                    rw [show g24 103 = (g 103) by rw [(show g24 103 = g 103 from funext fun j => hf25 103 j (by decide) (by decide) (by decide) (by decide) (by decide))]] at w117
                    rw [show g24 129 = (g 129) by rw [(show g24 129 = g 129 from funext fun j => hf25 129 j (by decide) (by decide) (by decide) (by decide) (by decide))]] at w117
                    have hxa9 : g24 136 v6_97.toInt.toNat = g 136 v6_97.toInt.toNat := by rw [hf25 136 v6_97.toInt.toNat (by decide) (by decide) (by decide) (by decide) (by decide)]
                    have hxb9 : g24 136 p1.toInt.toNat = g 136 p1.toInt.toNat := by rw [hf25 136 p1.toInt.toNat (by decide) (by decide) (by decide) (by decide) (by decide)]
                    rw [show x103.toInt.toNat = (g 136 v6_97.toInt.toNat).toNat by omega, show x110.toInt.toNat = (g 136 p1.toInt.toNat).toNat by omega] at w117
                    have hmm9 := w117.2
                    refine ty_if_eq (tgt := 163) hx hb dX9_chooses_156 (by decide) (fun c120 => ?_) (fun c120 => ?_)
                    · skip
                      refine ty_iconst hx hb (0) dX9_chooses_163 (by decide) (fun x121 h122 => ?_)
                      refine lv_istore (lv' := [(7, .int x121), (6, .int v6_97), (5, .int x7), (0, .ref h0), (1, .int p1), (2, .int p2), (3, .int p3), (4, .int p4)]) hx hb dX9_chooses_164 hl (by decide) rfl (fun ls hl => ?_)
                      refine lv_iload hx hb dX9_chooses_166 (lv_at hl 0 rfl) ?_
                      refine ty_if_ne (tgt := 174) hx hb dX9_chooses_168 (by decide) (fun c123 => ?_) (fun c123 => ?_)
                      · exfalso; omega
                      · skip
                        refine lv_goto (tgt := 227) hx hb dX9_chooses_171 (by decide) ?_
                        obtain ⟨x124, h125⟩ : ∃ y : Int32, y = v6_97 + Int32.ofInt (1) := ⟨_, rfl⟩
                        try have h126 : x124.toInt = v6_97.toInt + (1) := ty_inc h125 (by decide) (by omega) (by omega)
                        refine lv_iinc (v := x124) (lv' := [(6, .int x124), (7, .int x121), (5, .int x7), (0, .ref h0), (1, .int p1), (2, .int p2), (3, .int p3), (4, .int p4)]) hx hb dX9_chooses_227 hl (k := 1) rfl h125.symm (by decide) rfl (fun ls hl => ?_)
                        refine lv_goto (tgt := 97) hx hb dX9_chooses_230 (by decide) ?_
                        exact ih_97 x124 g24 _ _ ls (by omega) (by omega) (fun c j h138 h139 h140 h141 h142 => by rw [hf25 c j h138 h139 h140 h141 h142]) (hq0) (hq1) (hq2) (hq3) (by exact ch_no hq4 (by omega) (by omega) (no_meet (by omega) (J := v6_97.toInt.toNat) (by omega) (fun h => h.2 (by rw [← hmm9]; omega)))) hG hS (lv_sub hl [0, 2, 3, 4, 5, 6, 7] rfl)
                    · skip
                      refine ty_iconst hx hb (1) dX9_chooses_159 (by decide) (fun x127 h128 => ?_)
                      refine lv_goto (tgt := 164) hx hb dX9_chooses_160 (by decide) ?_
                      refine lv_istore (lv' := [(7, .int x127), (6, .int v6_97), (5, .int x7), (0, .ref h0), (1, .int p1), (2, .int p2), (3, .int p3), (4, .int p4)]) hx hb dX9_chooses_164 hl (by decide) rfl (fun ls hl => ?_)
                      refine lv_iload hx hb dX9_chooses_166 (lv_at hl 0 rfl) ?_
                      refine ty_if_ne (tgt := 174) hx hb dX9_chooses_168 (by decide) (fun c129 => ?_) (fun c129 => ?_)
                      · skip
                        refine lv_aload_n hx hb dX9_chooses_174 rfl (lv_at hl 3 rfl) ?_
                        refine get_X9_38 hx hb hA hown hE hG t_h0 wd_4_168 dX9_chooses_175 (fun b130 (t_b130 : ty Γ b130 138) => ?_)
                        refine lv_iload_n hx hb dX9_chooses_178 rfl (lv_at hl 4 rfl) ?_
                        refine lv_iload hx hb dX9_chooses_179 (lv_at hl 1 rfl) ?_
                        refine ast_mI hx hb hE hG hS hU 38 rfl (n := 9) rfl (lo := -2) (hi := 8) rfl rfl rfl t_b130 (by omega) (by omega) dX9_chooses_181 (fun H locs hG hS => ?_)
                        refine lv_aload_n hx hb dX9_chooses_182 rfl (lv_at hl 3 rfl) ?_
                        refine get_X9_40 hx hb hA hown hE hG t_h0 wd_4_170 dX9_chooses_183 (fun b131 (t_b131 : ty Γ b131 140) => ?_)
                        refine lv_iload hx hb dX9_chooses_186 (lv_at hl 1 rfl) ?_
                        refine ty_iconst hx hb (1) dX9_chooses_188 (by decide) (fun x132 h133 => ?_)
                        refine ast_mZ hx hb hE hG hS hU 40 rfl (n := 9) rfl (lo := 0) (hi := 1) rfl rfl rfl t_b131 (by omega) (by omega) (by omega) dX9_chooses_189 (fun H locs hG hS => ?_)
                        have hz9 := hq1 v6_97.toInt.toNat
                        have hy9 := hq0 v6_97.toInt.toNat (by omega)
                        have h137 : (gs (gs g24 138 p1.toInt.toNat v6_97.toInt) 140 v6_97.toInt.toNat x132.toInt) 137 0 = g 137 0 := by rw [gs_c _ _ _ _ (by decide), gs_c _ _ _ _ (by decide), hf25 137 0 (by decide) (by decide) (by decide) (by decide) (by decide)]
                        have hC2 : CH (gs (gs g24 138 p1.toInt.toNat v6_97.toInt) 140 v6_97.toInt.toNat x132.toInt) (g 137 0).toNat (p1.toInt.toNat + 1) := CH_get hC (by omega) (J := v6_97.toInt.toNat) (by omega) (by omega) (by omega) (by omega) (by rw [gs_c _ _ _ _ (by decide), gs_self]; omega) (fun i hi => by rw [gs_c _ _ _ _ (by decide), gs_j _ _ _ _ hi]; exact hq0 i hi) (by rw [gs_self]; omega) (fun i hi => by rw [gs_j _ _ _ _ hi, gs_c _ _ _ _ (by decide)]; exact hq1 i)
                        have h143 : (gs (gs g24 138 p1.toInt.toNat v6_97.toInt) 140 v6_97.toInt.toNat x132.toInt) 143 = g 143 := funext fun j => by rw [gs_c _ _ _ _ (by decide), gs_c _ _ _ _ (by decide), hf25 143 j (by decide) (by decide) (by decide) (by decide) (by decide)]
                        have hr131 : (gs (gs g24 138 p1.toInt.toNat v6_97.toInt) 140 v6_97.toInt.toNat x132.toInt) 131 = g 131 := funext fun j => by rw [gs_c _ _ _ _ (by decide), gs_c _ _ _ _ (by decide), hf25 131 j (by decide) (by decide) (by decide) (by decide) (by decide)]
                        have hr136 : (gs (gs g24 138 p1.toInt.toNat v6_97.toInt) 140 v6_97.toInt.toNat x132.toInt) 136 = g 136 := funext fun j => by rw [gs_c _ _ _ _ (by decide), gs_c _ _ _ _ (by decide), hf25 136 j (by decide) (by decide) (by decide) (by decide) (by decide)]
                        have hr135 : (gs (gs g24 138 p1.toInt.toNat v6_97.toInt) 140 v6_97.toInt.toNat x132.toInt) 135 = g 135 := funext fun j => by rw [gs_c _ _ _ _ (by decide), gs_c _ _ _ _ (by decide), hf25 135 j (by decide) (by decide) (by decide) (by decide) (by decide)]
                        have hr128 : (gs (gs g24 138 p1.toInt.toNat v6_97.toInt) 140 v6_97.toInt.toNat x132.toInt) 128 = g 128 := funext fun j => by rw [gs_c _ _ _ _ (by decide), gs_c _ _ _ _ (by decide), hf25 128 j (by decide) (by decide) (by decide) (by decide) (by decide)]
                        have hr129 : (gs (gs g24 138 p1.toInt.toNat v6_97.toInt) 140 v6_97.toInt.toNat x132.toInt) 129 = g 129 := funext fun j => by rw [gs_c _ _ _ _ (by decide), gs_c _ _ _ _ (by decide), hf25 129 j (by decide) (by decide) (by decide) (by decide) (by decide)]
                        have hr102 : (gs (gs g24 138 p1.toInt.toNat v6_97.toInt) 140 v6_97.toInt.toNat x132.toInt) 102 = g 102 := funext fun j => by rw [gs_c _ _ _ _ (by decide), gs_c _ _ _ _ (by decide), hf25 102 j (by decide) (by decide) (by decide) (by decide) (by decide)]
                        have hr103 : (gs (gs g24 138 p1.toInt.toNat v6_97.toInt) 140 v6_97.toInt.toNat x132.toInt) 103 = g 103 := funext fun j => by rw [gs_c _ _ _ _ (by decide), gs_c _ _ _ _ (by decide), hf25 103 j (by decide) (by decide) (by decide) (by decide) (by decide)]
                        have hr139 : (gs (gs g24 138 p1.toInt.toNat v6_97.toInt) 140 v6_97.toInt.toNat x132.toInt) 139 = g24 139 := funext fun j => by rw [gs_c _ _ _ _ (by decide), gs_c _ _ _ _ (by decide)]
                        have hr141 : (gs (gs g24 138 p1.toInt.toNat v6_97.toInt) 140 v6_97.toInt.toNat x132.toInt) 141 = g24 141 := funext fun j => by rw [gs_c _ _ _ _ (by decide), gs_c _ _ _ _ (by decide)]
                        have hr142 : (gs (gs g24 138 p1.toInt.toNat v6_97.toInt) 140 v6_97.toInt.toNat x132.toInt) 142 = g24 142 := funext fun j => by rw [gs_c _ _ _ _ (by decide), gs_c _ _ _ _ (by decide)]
                        have hu9 : (gs (gs g24 138 p1.toInt.toNat v6_97.toInt) 140 v6_97.toInt.toNat x132.toInt) 138 = rg_up (g 138) p1.toInt.toNat ((v6_97.toInt.toNat : Nat) : Int) := funext fun i => by by_cases e9 : i = p1.toInt.toNat; (rw [e9, rg_up_s, gs_c _ _ _ _ (by decide), gs_self]; omega); (rw [rg_up_n e9, gs_c _ _ _ _ (by decide), gs_j _ _ _ _ e9]; exact hq0 i e9)
                        have hsu9 : (su_w (g 135) (g 128) (g 129) (g 102) (g 103) (g 136)) p1.toInt.toNat v6_97.toInt.toNat := ⟨by omega, by rw [← hmm9]; omega⟩
                        have hfk9 := hC.2.1 p1.toInt.toNat (by omega) (by omega)
                        refine lv_aload_n hx hb dX9_chooses_190 rfl (lv_at hl 3 rfl) ?_
                        refine lv_iload_n hx hb dX9_chooses_191 rfl (lv_at hl 4 rfl) ?_
                        have e134 : (gs (gs g24 138 p1.toInt.toNat v6_97.toInt) 140 v6_97.toInt.toNat x132.toInt) 137 0 = g24 137 0 := by rw [gs_c _ _ _ _ (by decide), gs_c _ _ _ _ (by decide)]
                        have e135 : (gs (gs g24 138 p1.toInt.toNat v6_97.toInt) 140 v6_97.toInt.toNat x132.toInt) 137 0 = g24 137 0 := by rw [gs_c _ _ _ _ (by decide), gs_c _ _ _ _ (by decide)]
                        refine cI (va_runV (C := RX9) (As := [.int p1]) (rest := []) ⟨hx, hb, hml, hown, hA⟩ (k_X9_isShort l dC dI dA sz X Γ hU (gs (gs g24 138 p1.toInt.toNat v6_97.toInt) 140 v6_97.toInt.toNat x132.toInt) h0 t_h0 p1   (by omega) (by rw [h137]; exact hC2)) ⟨callB_of 1 hA (al_A wd_5_160) rfl rfl rfl (hA _ wd_1_7) (hA _ wd_5_157) (by decide +kernel) ⟨Nat.le_trans (Nat.le_of_ble_eq_true rfl) (Nat.le_add_left 3 F), Nat.le_trans (Nat.le_of_ble_eq_true rfl) (Nat.le_add_left 100 L)⟩, hA _ wd_5_159, hA _ ws_51⟩ ⟨bl, recv_X9 hE hG t_h0, fun U hU9 hW9 => ⟨rfl, by rw [hU9]; exact hG, hE.go hS hU9 hW9⟩⟩ rfl rfl hl.1 rfl (lv_room (Nat.le_of_ble_eq_true rfl)) dX9_chooses_192 ⟨Nat.zero_le _, Nat.zero_le _⟩) hS (fun x138 u136 H locs w137 hG hS => ?_)
                        obtain ⟨eu140, w137, hq139⟩ := w137
                        rw [eu140] at hG
                        obtain ⟨n9, hE9, hn9⟩ := hq139
                        rw [h137] at hE9
                        rw [h143] at hn9
                        have hnA : Unit → x138.toInt = 1 → n9 ≤ (g 143 0).toNat := fun _ h => by have h9 := hn9.mp h; clear hn9; omega
                        have hnB : Unit → x138.toInt ≠ 1 → (g 143 0).toNat < n9 := fun _ h => by have h9 : ¬ ((n9 : Int) ≤ g 143 0) := fun q => h (hn9.mpr q); clear hn9; omega
                        clear hn9
                        refine ty_if_eq (tgt := 219) hx hb dX9_chooses_195 (by decide) (fun c141 => ?_) (fun c141 => ?_)
                        · skip
                          refine lv_aload_n hx hb dX9_chooses_219 rfl (lv_at hl 3 rfl) ?_
                          refine get_X9_40 hx hb hA hown hE hG t_h0 wd_4_170 dX9_chooses_220 (fun b142 (t_b142 : ty Γ b142 140) => ?_)
                          refine lv_iload hx hb dX9_chooses_223 (lv_at hl 1 rfl) ?_
                          refine ty_iconst hx hb (0) dX9_chooses_225 (by decide) (fun x143 h144 => ?_)
                          refine ast_mZ hx hb hE hG hS hU 40 rfl (n := 9) rfl (lo := 0) (hi := 1) rfl rfl rfl t_b142 (by omega) (by omega) (by omega) dX9_chooses_226 (fun H locs hG hS => ?_)
                          obtain ⟨x145, h146⟩ : ∃ y : Int32, y = v6_97 + Int32.ofInt (1) := ⟨_, rfl⟩
                          try have h147 : x145.toInt = v6_97.toInt + (1) := ty_inc h146 (by decide) (by omega) (by omega)
                          refine lv_iinc (v := x145) (lv' := [(6, .int x145), (7, .int x127), (5, .int x7), (0, .ref h0), (1, .int p1), (2, .int p2), (3, .int p3), (4, .int p4)]) hx hb dX9_chooses_227 hl (k := 1) rfl h146.symm (by decide) rfl (fun ls hl => ?_)
                          refine lv_goto (tgt := 97) hx hb dX9_chooses_230 (by decide) ?_
                          have e148 : (gs (gs (gs g24 138 p1.toInt.toNat v6_97.toInt) 140 v6_97.toInt.toNat x132.toInt) 140 v6_97.toInt.toNat x143.toInt) 137 0 = g24 137 0 := by rw [gs_c _ _ _ _ (by decide), gs_c _ _ _ _ (by decide), gs_c _ _ _ _ (by decide)]
                          exact ih_97 x145 (gs (gs (gs g24 138 p1.toInt.toNat v6_97.toInt) 140 v6_97.toInt.toNat x132.toInt) 140 v6_97.toInt.toNat x143.toInt) _ _ ls (by omega) (by omega) (fun c j h138 h139 h140 h141 h142 => by rw [gs_c _ _ _ _ h140, gs_c _ _ _ _ h140, gs_c _ _ _ _ h138, hf25 c j h138 h139 h140 h141 h142]) (fun i hi => by rw [gs_c _ _ _ _ (by decide), gs_c _ _ _ _ (by decide), gs_j _ _ _ _ hi]; exact hq0 i hi) (fun i => by by_cases hi : i = v6_97.toInt.toNat; (rw [hi, gs_self, ← hq1 v6_97.toInt.toNat]; omega); (rw [gs_j _ _ _ _ hi]; rw [gs_j _ _ _ _ hi, gs_c _ _ _ _ (by decide)]; exact hq1 i)) (BG_cg (by rw [gs_c _ _ _ _ (by decide), gs_c _ _ _ _ (by decide), gs_c _ _ _ _ (by decide)]) (fun i => by rw [gs_c _ _ _ _ (by decide), gs_c _ _ _ _ (by decide), gs_c _ _ _ _ (by decide)]) hq2) (fun h => by rw [gs_c _ _ _ _ (by decide), gs_c _ _ _ _ (by decide), gs_c _ _ _ _ (by decide)]; exact hq3 h) (by rw [show (gs (gs (gs g24 138 p1.toInt.toNat v6_97.toInt) 140 v6_97.toInt.toNat x132.toInt) 140 v6_97.toInt.toNat x143.toInt) 141 0 = g24 141 0 by rw [gs_c _ _ _ _ (by decide), gs_c _ _ _ _ (by decide), gs_c _ _ _ _ (by decide)], show (gs (gs (gs g24 138 p1.toInt.toNat v6_97.toInt) 140 v6_97.toInt.toNat x132.toInt) 140 v6_97.toInt.toNat x143.toInt) 142 0 = g24 142 0 by rw [gs_c _ _ _ _ (by decide), gs_c _ _ _ _ (by decide), gs_c _ _ _ _ (by decide)], show (gs (gs (gs g24 138 p1.toInt.toNat v6_97.toInt) 140 v6_97.toInt.toNat x132.toInt) 140 v6_97.toInt.toNat x143.toInt) 139 = g24 139 from funext fun j => by rw [gs_c _ _ _ _ (by decide), gs_c _ _ _ _ (by decide), gs_c _ _ _ _ (by decide)]]; exact ch_no hq4 (by omega) (by omega) (no_short hC (by omega) (by omega) (u := _) (j := v6_97.toInt) (hu9.trans (congrArg (rg_up (g 138) p1.toInt.toNat) (show ((v6_97.toInt.toNat : Nat) : Int) = v6_97.toInt by omega))) hE9 (hnB () (by omega)))) hG hS (lv_sub hl [0, 2, 3, 4, 5, 6, 7] rfl)
                        · skip
                          refine lv_aload_n hx hb dX9_chooses_198 rfl (lv_at hl 3 rfl) ?_
                          refine lv_iload_n hx hb dX9_chooses_199 rfl (lv_at hl 4 rfl) ?_
                          have e149 : (gs (gs g24 138 p1.toInt.toNat v6_97.toInt) 140 v6_97.toInt.toNat x132.toInt) 137 0 = g24 137 0 := by rw [gs_c _ _ _ _ (by decide), gs_c _ _ _ _ (by decide)]
                          have e150 : (gs (gs g24 138 p1.toInt.toNat v6_97.toInt) 140 v6_97.toInt.toNat x132.toInt) 137 0 = g24 137 0 := by rw [gs_c _ _ _ _ (by decide), gs_c _ _ _ _ (by decide)]
                          refine cI (va_runV (C := RX9) (As := [.int p1]) (rest := []) ⟨hx, hb, hml, hown, hA⟩ (k_X9_isEven l dC dI dA sz X Γ hU (gs (gs g24 138 p1.toInt.toNat v6_97.toInt) 140 v6_97.toInt.toNat x132.toInt) h0 t_h0 p1   (by omega) (by rw [h137]; exact hC2) (by rw [h143]; exact hL)) ⟨callB_of 1 hA (al_A wd_5_164) rfl rfl rfl (hA _ wd_1_7) (hA _ wd_5_161) (by decide +kernel) ⟨Nat.le_trans (Nat.le_of_ble_eq_true rfl) (Nat.le_add_left 3 F), Nat.le_trans (Nat.le_of_ble_eq_true rfl) (Nat.le_add_left 100 L)⟩, hA _ wd_5_163, hA _ ws_52⟩ ⟨bl, recv_X9 hE hG t_h0, fun U hU9 hW9 => ⟨rfl, by rw [hU9]; exact hG, hE.go hS hU9 hW9⟩⟩ rfl rfl hl.1 rfl (lv_room (Nat.le_of_ble_eq_true rfl)) dX9_chooses_200 ⟨Nat.zero_le _, Nat.zero_le _⟩) hS (fun x153 u151 H locs w152 hG hS => ?_)
                          obtain ⟨eu155, w152, hq154⟩ := w152
                          rw [eu155] at hG
                          rw [h137, h143] at hq154
                          refine ty_if_eq (tgt := 219) hx hb dX9_chooses_203 (by decide) (fun c156 => ?_) (fun c156 => ?_)
                          · skip
                            refine lv_aload_n hx hb dX9_chooses_219 rfl (lv_at hl 3 rfl) ?_
                            refine get_X9_40 hx hb hA hown hE hG t_h0 wd_4_170 dX9_chooses_220 (fun b157 (t_b157 : ty Γ b157 140) => ?_)
                            refine lv_iload hx hb dX9_chooses_223 (lv_at hl 1 rfl) ?_
                            refine ty_iconst hx hb (0) dX9_chooses_225 (by decide) (fun x158 h159 => ?_)
                            refine ast_mZ hx hb hE hG hS hU 40 rfl (n := 9) rfl (lo := 0) (hi := 1) rfl rfl rfl t_b157 (by omega) (by omega) (by omega) dX9_chooses_226 (fun H locs hG hS => ?_)
                            obtain ⟨x160, h161⟩ : ∃ y : Int32, y = v6_97 + Int32.ofInt (1) := ⟨_, rfl⟩
                            try have h162 : x160.toInt = v6_97.toInt + (1) := ty_inc h161 (by decide) (by omega) (by omega)
                            refine lv_iinc (v := x160) (lv' := [(6, .int x160), (7, .int x127), (5, .int x7), (0, .ref h0), (1, .int p1), (2, .int p2), (3, .int p3), (4, .int p4)]) hx hb dX9_chooses_227 hl (k := 1) rfl h161.symm (by decide) rfl (fun ls hl => ?_)
                            refine lv_goto (tgt := 97) hx hb dX9_chooses_230 (by decide) ?_
                            have e163 : (gs (gs (gs g24 138 p1.toInt.toNat v6_97.toInt) 140 v6_97.toInt.toNat x132.toInt) 140 v6_97.toInt.toNat x158.toInt) 137 0 = g24 137 0 := by rw [gs_c _ _ _ _ (by decide), gs_c _ _ _ _ (by decide), gs_c _ _ _ _ (by decide)]
                            exact ih_97 x160 (gs (gs (gs g24 138 p1.toInt.toNat v6_97.toInt) 140 v6_97.toInt.toNat x132.toInt) 140 v6_97.toInt.toNat x158.toInt) _ _ ls (by omega) (by omega) (fun c j h138 h139 h140 h141 h142 => by rw [gs_c _ _ _ _ h140, gs_c _ _ _ _ h140, gs_c _ _ _ _ h138, hf25 c j h138 h139 h140 h141 h142]) (fun i hi => by rw [gs_c _ _ _ _ (by decide), gs_c _ _ _ _ (by decide), gs_j _ _ _ _ hi]; exact hq0 i hi) (fun i => by by_cases hi : i = v6_97.toInt.toNat; (rw [hi, gs_self, ← hq1 v6_97.toInt.toNat]; omega); (rw [gs_j _ _ _ _ hi]; rw [gs_j _ _ _ _ hi, gs_c _ _ _ _ (by decide)]; exact hq1 i)) (BG_cg (by rw [gs_c _ _ _ _ (by decide), gs_c _ _ _ _ (by decide), gs_c _ _ _ _ (by decide)]) (fun i => by rw [gs_c _ _ _ _ (by decide), gs_c _ _ _ _ (by decide), gs_c _ _ _ _ (by decide)]) hq2) (fun h => by rw [gs_c _ _ _ _ (by decide), gs_c _ _ _ _ (by decide), gs_c _ _ _ _ (by decide)]; exact hq3 h) (by rw [show (gs (gs (gs g24 138 p1.toInt.toNat v6_97.toInt) 140 v6_97.toInt.toNat x132.toInt) 140 v6_97.toInt.toNat x158.toInt) 141 0 = g24 141 0 by rw [gs_c _ _ _ _ (by decide), gs_c _ _ _ _ (by decide), gs_c _ _ _ _ (by decide)], show (gs (gs (gs g24 138 p1.toInt.toNat v6_97.toInt) 140 v6_97.toInt.toNat x132.toInt) 140 v6_97.toInt.toNat x158.toInt) 142 0 = g24 142 0 by rw [gs_c _ _ _ _ (by decide), gs_c _ _ _ _ (by decide), gs_c _ _ _ _ (by decide)], show (gs (gs (gs g24 138 p1.toInt.toNat v6_97.toInt) 140 v6_97.toInt.toNat x132.toInt) 140 v6_97.toInt.toNat x158.toInt) 139 = g24 139 from funext fun j => by rw [gs_c _ _ _ _ (by decide), gs_c _ _ _ _ (by decide), gs_c _ _ _ _ (by decide)]]; exact ch_no hq4 (by omega) (by omega) (no_even hC (u := _) (j := v6_97.toInt) (hu9.trans (congrArg (rg_up (g 138) p1.toInt.toNat) (show ((v6_97.toInt.toNat : Nat) : Int) = v6_97.toInt by omega))) (hq154 () (by omega)))) hG hS (lv_sub hl [0, 2, 3, 4, 5, 6, 7] rfl)
                          · skip
                            refine lv_aload_n hx hb dX9_chooses_206 rfl (lv_at hl 3 rfl) ?_
                            refine lv_iload_n hx hb dX9_chooses_207 rfl (lv_at hl 4 rfl) ?_
                            refine ty_iconst hx hb (1) dX9_chooses_208 (by decide) (fun x164 h165 => ?_)
                            refine ty_iadd hx hb dX9_chooses_209 (fun x166 h167 => ?_)
                            try have h168 : x166.toInt = p1.toInt + x164.toInt := ty_add h167 (by omega) (by omega)
                            refine lv_iload_n hx hb dX9_chooses_210 rfl (lv_at hl 5 rfl) ?_
                            refine ty_iconst hx hb (1) dX9_chooses_211 (by decide) (fun x169 h170 => ?_)
                            refine ty_iadd hx hb dX9_chooses_212 (fun x171 h172 => ?_)
                            try have h173 : x171.toInt = p2.toInt + x169.toInt := ty_add h172 (by omega) (by omega)
                            refine lv_iload_n hx hb dX9_chooses_213 rfl (lv_at hl 6 rfl) ?_
                            refine lv_iload hx hb dX9_chooses_214 (lv_at hl 7 rfl) ?_
                            have e174 : (gs (gs g24 138 p1.toInt.toNat v6_97.toInt) 140 v6_97.toInt.toNat x132.toInt) 137 0 = g24 137 0 := by rw [gs_c _ _ _ _ (by decide), gs_c _ _ _ _ (by decide)]
                            have e175 : (gs (gs g24 138 p1.toInt.toNat v6_97.toInt) 140 v6_97.toInt.toNat x132.toInt) 137 0 = g24 137 0 := by rw [gs_c _ _ _ _ (by decide), gs_c _ _ _ _ (by decide)]
                            have e176 : (gs (gs g24 138 p1.toInt.toNat v6_97.toInt) 140 v6_97.toInt.toNat x132.toInt) 137 0 = g24 137 0 := by rw [gs_c _ _ _ _ (by decide), gs_c _ _ _ _ (by decide)]
                            have e177 : (gs (gs g24 138 p1.toInt.toNat v6_97.toInt) 140 v6_97.toInt.toNat x132.toInt) 137 0 = g24 137 0 := by rw [gs_c _ _ _ _ (by decide), gs_c _ _ _ _ (by decide)]
                            refine cV (va_runV (C := RX9) (As := [.int x166, .int x171, .int p3, .int p4]) (rest := []) ⟨hx, hb, hml, hown, hA⟩ (IH l dC dI dA sz X Γ hU (gs (gs g24 138 p1.toInt.toNat v6_97.toInt) 140 v6_97.toInt.toNat x132.toInt) h0 t_h0 x166 x171 p3 p4   (by omega) (by rw [h137, show x166.toInt.toNat = p1.toInt.toNat + 1 by omega]; exact hC2) (by rw [h137]; exact BG_cg (by rw [gs_c _ _ _ _ (by decide), gs_c _ _ _ _ (by decide)]) (fun i => by rw [gs_c _ _ _ _ (by decide), gs_c _ _ _ _ (by decide)]) hq2) (by rw [h143]; exact hL) (by rw [h137, h143, hr131, hr136, hr135, hr128, hr129, hr102, hr103, show x166.toInt.toNat = p1.toInt.toNat + 1 by omega] <;> exact CP_get hP (by omega) hu9 hsu9 hE9 (hnA () (by omega)) (by omega))) ⟨callB_of 4 hA (al_A wd_5_152) rfl rfl rfl (hA _ wd_1_7) (hA _ wd_5_149) (by decide +kernel) ⟨Nat.add_le_add_left (by decide) F, show 8 + (8 + 11) + L ≤ L + 100 by omega⟩, hA _ wd_5_151, hA _ ws_49⟩ ⟨bl, recv_X9 hE hG t_h0, fun U hU9 hW9 => ⟨rfl, by rw [hU9]; exact hG, hE.go hS hU9 hW9⟩⟩ rfl rfl hl.1 rfl (lv_room (Nat.le_of_ble_eq_true rfl)) dX9_chooses_216 ⟨Nat.zero_le _, Nat.zero_le _⟩) hS (fun u178 H locs w179 hG hS => ?_)
                            obtain ⟨hf185, hq180, hq181, hq182, hq183, hq184⟩ := w179
                            refine lv_aload_n hx hb dX9_chooses_219 rfl (lv_at hl 3 rfl) ?_
                            refine get_X9_40 hx hb hA hown hE hG t_h0 wd_4_170 dX9_chooses_220 (fun b186 (t_b186 : ty Γ b186 140) => ?_)
                            refine lv_iload hx hb dX9_chooses_223 (lv_at hl 1 rfl) ?_
                            refine ty_iconst hx hb (0) dX9_chooses_225 (by decide) (fun x187 h188 => ?_)
                            refine ast_mZ hx hb hE hG hS hU 40 rfl (n := 9) rfl (lo := 0) (hi := 1) rfl rfl rfl t_b186 (by omega) (by omega) (by omega) dX9_chooses_226 (fun H locs hG hS => ?_)
                            obtain ⟨x189, h190⟩ : ∃ y : Int32, y = v6_97 + Int32.ofInt (1) := ⟨_, rfl⟩
                            try have h191 : x189.toInt = v6_97.toInt + (1) := ty_inc h190 (by decide) (by omega) (by omega)
                            refine lv_iinc (v := x189) (lv' := [(6, .int x189), (7, .int x127), (5, .int x7), (0, .ref h0), (1, .int p1), (2, .int p2), (3, .int p3), (4, .int p4)]) hx hb dX9_chooses_227 hl (k := 1) rfl h190.symm (by decide) rfl (fun ls hl => ?_)
                            refine lv_goto (tgt := 97) hx hb dX9_chooses_230 (by decide) ?_
                            have hk192 : u178 137 0 = (gs (gs g24 138 p1.toInt.toNat v6_97.toInt) 140 v6_97.toInt.toNat x132.toInt) 137 0 := hf185 137 0 (by decide) (by decide) (by decide) (by decide) (by decide)
                            replace hk192 : u178 137 0 = g24 137 0 := by rw [hk192, gs_c _ _ _ _ (by decide), gs_c _ _ _ _ (by decide)]
                            have e193 : (gs u178 140 v6_97.toInt.toNat x187.toInt) 137 0 = u178 137 0 := by rw [gs_c _ _ _ _ (by decide)]
                            exact ih_97 x189 (gs u178 140 v6_97.toInt.toNat x187.toInt) _ _ ls (by omega) (by omega) (fun c j h138 h139 h140 h141 h142 => by rw [gs_c _ _ _ _ h140, hf185 c j h138 h139 h140 h141 h142, gs_c _ _ _ _ h140, gs_c _ _ _ _ h138, hf25 c j h138 h139 h140 h141 h142]) (fun i hi => by rw [gs_c _ _ _ _ (by decide), hq180 i, gs_c _ _ _ _ (by decide), gs_j _ _ _ _ hi]; exact hq0 i hi) (fun i => by by_cases hi : i = v6_97.toInt.toNat; (rw [hi, gs_self, ← hq1 v6_97.toInt.toNat]; omega); (rw [gs_j _ _ _ _ hi]; rw [hq181 i, gs_j _ _ _ _ hi, gs_c _ _ _ _ (by decide)]; exact hq1 i)) (BG_cg (by rw [gs_c _ _ _ _ (by decide)]) (fun i => by rw [gs_c _ _ _ _ (by decide)]) (by have h9 := hq182; rw [h137] at h9; exact h9)) (fun h => by rw [gs_c _ _ _ _ (by decide)]; exact hq183 (Or.inl (by rw [gs_c _ _ _ _ (by decide), gs_c _ _ _ _ (by decide)]; exact hq3 h))) (by rw [show (gs u178 140 v6_97.toInt.toNat x187.toInt) 141 0 = u178 141 0 by rw [gs_c _ _ _ _ (by decide)], show (gs u178 140 v6_97.toInt.toNat x187.toInt) 142 0 = u178 142 0 by rw [gs_c _ _ _ _ (by decide)], show (gs u178 140 v6_97.toInt.toNat x187.toInt) 139 = u178 139 from funext fun j => by rw [gs_c _ _ _ _ (by decide)]]; exact ch_rec (by omega) hq4 (by have h9 := hq184; rw [h137, h143, hr131, hr136, hr135, hr128, hr129, hr102, hr103, hr141, hr142, hr139, hu9, show ((v6_97.toInt.toNat : Nat) : Int) = v6_97.toInt by omega, show x166.toInt.toNat = p1.toInt.toNat + 1 by omega] at h9; exact h9) (by omega) (by omega)) hG hS (lv_sub hl [0, 2, 3, 4, 5, 6, 7] rfl)
                      · exfalso; omega
                  · skip
                    refine lv_aload_n hx hb dX9_chooses_128 rfl (lv_at hl 2 rfl) ?_
                    refine get_X9_38 hx hb hA hown hE hG t_h0 wd_4_168 dX9_chooses_129 (fun b194 (t_b194 : ty Γ b194 138) => ?_)
                    refine lv_iload hx hb dX9_chooses_132 (lv_at hl 0 rfl) ?_
                    refine ald_mI hx hb hE hG 38 rfl (n := 9) rfl (lo := -2) (hi := 8) rfl rfl t_b194 (by omega) dX9_chooses_134 (fun j196 x195 h197 h198 h199 => ?_)
                    obtain rfl : j196 = v6_97.toInt.toNat := by omega
                    replace h198 : x195.toInt = g24 138 v6_97.toInt.toNat := h198
                    refine ty_iconst hx hb (-1) dX9_chooses_135 (by decide) (fun x200 h201 => ?_)
                    refine ty_icmp_eq (tgt := 163) hx hb dX9_chooses_136 (by decide) (fun c202 => ?_) (fun c202 => ?_)
                    · skip
                      refine ty_iconst hx hb (0) dX9_chooses_163 (by decide) (fun x203 h204 => ?_)
                      refine lv_istore (lv' := [(7, .int x203), (6, .int v6_97), (5, .int x7), (0, .ref h0), (1, .int p1), (2, .int p2), (3, .int p3), (4, .int p4)]) hx hb dX9_chooses_164 hl (by decide) rfl (fun ls hl => ?_)
                      refine lv_iload hx hb dX9_chooses_166 (lv_at hl 0 rfl) ?_
                      refine ty_if_ne (tgt := 174) hx hb dX9_chooses_168 (by decide) (fun c205 => ?_) (fun c205 => ?_)
                      · exfalso; omega
                      · skip
                        refine lv_goto (tgt := 227) hx hb dX9_chooses_171 (by decide) ?_
                        obtain ⟨x206, h207⟩ : ∃ y : Int32, y = v6_97 + Int32.ofInt (1) := ⟨_, rfl⟩
                        try have h208 : x206.toInt = v6_97.toInt + (1) := ty_inc h207 (by decide) (by omega) (by omega)
                        refine lv_iinc (v := x206) (lv' := [(6, .int x206), (7, .int x203), (5, .int x7), (0, .ref h0), (1, .int p1), (2, .int p2), (3, .int p3), (4, .int p4)]) hx hb dX9_chooses_227 hl (k := 1) rfl h207.symm (by decide) rfl (fun ls hl => ?_)
                        refine lv_goto (tgt := 97) hx hb dX9_chooses_230 (by decide) ?_
                        exact ih_97 x206 g24 _ _ ls (by omega) (by omega) (fun c j h138 h139 h140 h141 h142 => by rw [hf25 c j h138 h139 h140 h141 h142]) (hq0) (hq1) (hq2) (hq3) (by exact ch_no hq4 (by omega) (by omega) (no_none (by omega) (J := v6_97.toInt.toNat) (by omega) (by omega) (by have := hq0 v6_97.toInt.toNat (by omega); omega))) hG hS (lv_sub hl [0, 2, 3, 4, 5, 6, 7] rfl)
                    · skip
                      refine lv_aload_n hx hb dX9_chooses_139 rfl (lv_at hl 2 rfl) ?_
                      refine lv_aload_n hx hb dX9_chooses_140 rfl (lv_at hl 2 rfl) ?_
                      refine get_X9_36 hx hb hA hown hE hG t_h0 wd_4_166 dX9_chooses_141 (fun b209 (t_b209 : ty Γ b209 136) => ?_)
                      refine lv_iload hx hb dX9_chooses_144 (lv_at hl 0 rfl) ?_
                      refine ald_mI hx hb hE hG 36 rfl (n := 9) rfl (lo := 0) (hi := 199) rfl rfl t_b209 (by omega) dX9_chooses_146 (fun j211 x210 h212 h213 h214 => ?_)
                      obtain rfl : j211 = v6_97.toInt.toNat := by omega
                      replace h213 : x210.toInt = g24 136 v6_97.toInt.toNat := h213
                      have hk215 : g24 136 v6_97.toInt.toNat = g 136 v6_97.toInt.toNat := hf25 136 v6_97.toInt.toNat (by decide) (by decide) (by decide) (by decide) (by decide)
                      refine lv_aload_n hx hb dX9_chooses_147 rfl (lv_at hl 2 rfl) ?_
                      refine get_X9_36 hx hb hA hown hE hG t_h0 wd_4_166 dX9_chooses_148 (fun b216 (t_b216 : ty Γ b216 136) => ?_)
                      refine lv_iload_n hx hb dX9_chooses_151 rfl (lv_at hl 3 rfl) ?_
                      refine ald_mI hx hb hE hG 36 rfl (n := 9) rfl (lo := 0) (hi := 199) rfl rfl t_b216 (by omega) dX9_chooses_152 (fun j218 x217 h219 h220 h221 => ?_)
                      obtain rfl : j218 = p1.toInt.toNat := by omega
                      replace h220 : x217.toInt = g24 136 p1.toInt.toNat := h220
                      have hk222 : g24 136 p1.toInt.toNat = g 136 p1.toInt.toNat := hf25 136 p1.toInt.toNat (by decide) (by decide) (by decide) (by decide) (by decide)
                      refine cI (va_runV (C := RX9) (As := [.int x210, .int x217]) (rest := []) ⟨hx, hb, hml, hown, hA⟩ (k_X9_meets l dC dI dA sz X Γ hU g24 h0 t_h0 x210 x217   (by omega)) ⟨callB_of 2 hA (al_A wd_5_156) rfl rfl rfl (hA _ wd_1_7) (hA _ wd_5_153) (by decide +kernel) ⟨Nat.le_trans (Nat.le_of_ble_eq_true rfl) (Nat.le_add_left 3 F), Nat.le_trans (Nat.le_of_ble_eq_true rfl) (Nat.le_add_left 100 L)⟩, hA _ wd_5_155, hA _ ws_50⟩ ⟨bl, recv_X9 hE hG t_h0, fun U hU9 hW9 => ⟨rfl, by rw [hU9]; exact hG, hE.go hS hU9 hW9⟩⟩ rfl rfl hl.1 rfl (lv_room (Nat.le_of_ble_eq_true rfl)) dX9_chooses_153 ⟨Nat.zero_le _, Nat.zero_le _⟩) hS (fun x225 u223 H locs w224 hG hS => ?_)
                      obtain ⟨eu226, w224⟩ := w224
                      rw [eu226] at hG
                      rw [show g24 135 = (g 135) by rw [(show g24 135 = g 135 from funext fun j => hf25 135 j (by decide) (by decide) (by decide) (by decide) (by decide))]] at w224
                      rw [show g24 102 = (g 102) by rw [(show g24 102 = g 102 from funext fun j => hf25 102 j (by decide) (by decide) (by decide) (by decide) (by decide))]] at w224
                      rw [show g24 128 = (g 128) by rw [(show g24 128 = g 128 from funext fun j => hf25 128 j (by decide) (by decide) (by decide) (by decide) (by decide))]] at w224
                      rw [show g24 103 = (g 103) by rw [(show g24 103 = g 103 from funext fun j => hf25 103 j (by decide) (by decide) (by decide) (by decide) (by decide))]] at w224
                      rw [show g24 129 = (g 129) by rw [(show g24 129 = g 129 from funext fun j => hf25 129 j (by decide) (by decide) (by decide) (by decide) (by decide))]] at w224
                      have hxa9 : g24 136 v6_97.toInt.toNat = g 136 v6_97.toInt.toNat := by rw [hf25 136 v6_97.toInt.toNat (by decide) (by decide) (by decide) (by decide) (by decide)]
                      have hxb9 : g24 136 p1.toInt.toNat = g 136 p1.toInt.toNat := by rw [hf25 136 p1.toInt.toNat (by decide) (by decide) (by decide) (by decide) (by decide)]
                      rw [show x210.toInt.toNat = (g 136 v6_97.toInt.toNat).toNat by omega, show x217.toInt.toNat = (g 136 p1.toInt.toNat).toNat by omega] at w224
                      have hmm9 := w224.2
                      refine ty_if_eq (tgt := 163) hx hb dX9_chooses_156 (by decide) (fun c227 => ?_) (fun c227 => ?_)
                      · skip
                        refine ty_iconst hx hb (0) dX9_chooses_163 (by decide) (fun x228 h229 => ?_)
                        refine lv_istore (lv' := [(7, .int x228), (6, .int v6_97), (5, .int x7), (0, .ref h0), (1, .int p1), (2, .int p2), (3, .int p3), (4, .int p4)]) hx hb dX9_chooses_164 hl (by decide) rfl (fun ls hl => ?_)
                        refine lv_iload hx hb dX9_chooses_166 (lv_at hl 0 rfl) ?_
                        refine ty_if_ne (tgt := 174) hx hb dX9_chooses_168 (by decide) (fun c230 => ?_) (fun c230 => ?_)
                        · exfalso; omega
                        · skip
                          refine lv_goto (tgt := 227) hx hb dX9_chooses_171 (by decide) ?_
                          obtain ⟨x231, h232⟩ : ∃ y : Int32, y = v6_97 + Int32.ofInt (1) := ⟨_, rfl⟩
                          try have h233 : x231.toInt = v6_97.toInt + (1) := ty_inc h232 (by decide) (by omega) (by omega)
                          refine lv_iinc (v := x231) (lv' := [(6, .int x231), (7, .int x228), (5, .int x7), (0, .ref h0), (1, .int p1), (2, .int p2), (3, .int p3), (4, .int p4)]) hx hb dX9_chooses_227 hl (k := 1) rfl h232.symm (by decide) rfl (fun ls hl => ?_)
                          refine lv_goto (tgt := 97) hx hb dX9_chooses_230 (by decide) ?_
                          exact ih_97 x231 g24 _ _ ls (by omega) (by omega) (fun c j h138 h139 h140 h141 h142 => by rw [hf25 c j h138 h139 h140 h141 h142]) (hq0) (hq1) (hq2) (hq3) (by exact ch_no hq4 (by omega) (by omega) (no_meet (by omega) (J := v6_97.toInt.toNat) (by omega) (fun h => h.2 (by rw [← hmm9]; omega)))) hG hS (lv_sub hl [0, 2, 3, 4, 5, 6, 7] rfl)
                      · skip
                        refine ty_iconst hx hb (1) dX9_chooses_159 (by decide) (fun x234 h235 => ?_)
                        refine lv_goto (tgt := 164) hx hb dX9_chooses_160 (by decide) ?_
                        refine lv_istore (lv' := [(7, .int x234), (6, .int v6_97), (5, .int x7), (0, .ref h0), (1, .int p1), (2, .int p2), (3, .int p3), (4, .int p4)]) hx hb dX9_chooses_164 hl (by decide) rfl (fun ls hl => ?_)
                        refine lv_iload hx hb dX9_chooses_166 (lv_at hl 0 rfl) ?_
                        refine ty_if_ne (tgt := 174) hx hb dX9_chooses_168 (by decide) (fun c236 => ?_) (fun c236 => ?_)
                        · skip
                          refine lv_aload_n hx hb dX9_chooses_174 rfl (lv_at hl 3 rfl) ?_
                          refine get_X9_38 hx hb hA hown hE hG t_h0 wd_4_168 dX9_chooses_175 (fun b237 (t_b237 : ty Γ b237 138) => ?_)
                          refine lv_iload_n hx hb dX9_chooses_178 rfl (lv_at hl 4 rfl) ?_
                          refine lv_iload hx hb dX9_chooses_179 (lv_at hl 1 rfl) ?_
                          refine ast_mI hx hb hE hG hS hU 38 rfl (n := 9) rfl (lo := -2) (hi := 8) rfl rfl rfl t_b237 (by omega) (by omega) dX9_chooses_181 (fun H locs hG hS => ?_)
                          refine lv_aload_n hx hb dX9_chooses_182 rfl (lv_at hl 3 rfl) ?_
                          refine get_X9_40 hx hb hA hown hE hG t_h0 wd_4_170 dX9_chooses_183 (fun b238 (t_b238 : ty Γ b238 140) => ?_)
                          refine lv_iload hx hb dX9_chooses_186 (lv_at hl 1 rfl) ?_
                          refine ty_iconst hx hb (1) dX9_chooses_188 (by decide) (fun x239 h240 => ?_)
                          refine ast_mZ hx hb hE hG hS hU 40 rfl (n := 9) rfl (lo := 0) (hi := 1) rfl rfl rfl t_b238 (by omega) (by omega) (by omega) dX9_chooses_189 (fun H locs hG hS => ?_)
                          have hz9 := hq1 v6_97.toInt.toNat
                          have hy9 := hq0 v6_97.toInt.toNat (by omega)
                          have h137 : (gs (gs g24 138 p1.toInt.toNat v6_97.toInt) 140 v6_97.toInt.toNat x239.toInt) 137 0 = g 137 0 := by rw [gs_c _ _ _ _ (by decide), gs_c _ _ _ _ (by decide), hf25 137 0 (by decide) (by decide) (by decide) (by decide) (by decide)]
                          have hC2 : CH (gs (gs g24 138 p1.toInt.toNat v6_97.toInt) 140 v6_97.toInt.toNat x239.toInt) (g 137 0).toNat (p1.toInt.toNat + 1) := CH_get hC (by omega) (J := v6_97.toInt.toNat) (by omega) (by omega) (by omega) (by omega) (by rw [gs_c _ _ _ _ (by decide), gs_self]; omega) (fun i hi => by rw [gs_c _ _ _ _ (by decide), gs_j _ _ _ _ hi]; exact hq0 i hi) (by rw [gs_self]; omega) (fun i hi => by rw [gs_j _ _ _ _ hi, gs_c _ _ _ _ (by decide)]; exact hq1 i)
                          have h143 : (gs (gs g24 138 p1.toInt.toNat v6_97.toInt) 140 v6_97.toInt.toNat x239.toInt) 143 = g 143 := funext fun j => by rw [gs_c _ _ _ _ (by decide), gs_c _ _ _ _ (by decide), hf25 143 j (by decide) (by decide) (by decide) (by decide) (by decide)]
                          have hr131 : (gs (gs g24 138 p1.toInt.toNat v6_97.toInt) 140 v6_97.toInt.toNat x239.toInt) 131 = g 131 := funext fun j => by rw [gs_c _ _ _ _ (by decide), gs_c _ _ _ _ (by decide), hf25 131 j (by decide) (by decide) (by decide) (by decide) (by decide)]
                          have hr136 : (gs (gs g24 138 p1.toInt.toNat v6_97.toInt) 140 v6_97.toInt.toNat x239.toInt) 136 = g 136 := funext fun j => by rw [gs_c _ _ _ _ (by decide), gs_c _ _ _ _ (by decide), hf25 136 j (by decide) (by decide) (by decide) (by decide) (by decide)]
                          have hr135 : (gs (gs g24 138 p1.toInt.toNat v6_97.toInt) 140 v6_97.toInt.toNat x239.toInt) 135 = g 135 := funext fun j => by rw [gs_c _ _ _ _ (by decide), gs_c _ _ _ _ (by decide), hf25 135 j (by decide) (by decide) (by decide) (by decide) (by decide)]
                          have hr128 : (gs (gs g24 138 p1.toInt.toNat v6_97.toInt) 140 v6_97.toInt.toNat x239.toInt) 128 = g 128 := funext fun j => by rw [gs_c _ _ _ _ (by decide), gs_c _ _ _ _ (by decide), hf25 128 j (by decide) (by decide) (by decide) (by decide) (by decide)]
                          have hr129 : (gs (gs g24 138 p1.toInt.toNat v6_97.toInt) 140 v6_97.toInt.toNat x239.toInt) 129 = g 129 := funext fun j => by rw [gs_c _ _ _ _ (by decide), gs_c _ _ _ _ (by decide), hf25 129 j (by decide) (by decide) (by decide) (by decide) (by decide)]
                          have hr102 : (gs (gs g24 138 p1.toInt.toNat v6_97.toInt) 140 v6_97.toInt.toNat x239.toInt) 102 = g 102 := funext fun j => by rw [gs_c _ _ _ _ (by decide), gs_c _ _ _ _ (by decide), hf25 102 j (by decide) (by decide) (by decide) (by decide) (by decide)]
                          have hr103 : (gs (gs g24 138 p1.toInt.toNat v6_97.toInt) 140 v6_97.toInt.toNat x239.toInt) 103 = g 103 := funext fun j => by rw [gs_c _ _ _ _ (by decide), gs_c _ _ _ _ (by decide), hf25 103 j (by decide) (by decide) (by decide) (by decide) (by decide)]
                          have hr139 : (gs (gs g24 138 p1.toInt.toNat v6_97.toInt) 140 v6_97.toInt.toNat x239.toInt) 139 = g24 139 := funext fun j => by rw [gs_c _ _ _ _ (by decide), gs_c _ _ _ _ (by decide)]
                          have hr141 : (gs (gs g24 138 p1.toInt.toNat v6_97.toInt) 140 v6_97.toInt.toNat x239.toInt) 141 = g24 141 := funext fun j => by rw [gs_c _ _ _ _ (by decide), gs_c _ _ _ _ (by decide)]
                          have hr142 : (gs (gs g24 138 p1.toInt.toNat v6_97.toInt) 140 v6_97.toInt.toNat x239.toInt) 142 = g24 142 := funext fun j => by rw [gs_c _ _ _ _ (by decide), gs_c _ _ _ _ (by decide)]
                          have hu9 : (gs (gs g24 138 p1.toInt.toNat v6_97.toInt) 140 v6_97.toInt.toNat x239.toInt) 138 = rg_up (g 138) p1.toInt.toNat ((v6_97.toInt.toNat : Nat) : Int) := funext fun i => by by_cases e9 : i = p1.toInt.toNat; (rw [e9, rg_up_s, gs_c _ _ _ _ (by decide), gs_self]; omega); (rw [rg_up_n e9, gs_c _ _ _ _ (by decide), gs_j _ _ _ _ e9]; exact hq0 i e9)
                          have hsu9 : (su_w (g 135) (g 128) (g 129) (g 102) (g 103) (g 136)) p1.toInt.toNat v6_97.toInt.toNat := ⟨by omega, by rw [← hmm9]; omega⟩
                          have hfk9 := hC.2.1 p1.toInt.toNat (by omega) (by omega)
                          refine lv_aload_n hx hb dX9_chooses_190 rfl (lv_at hl 3 rfl) ?_
                          refine lv_iload_n hx hb dX9_chooses_191 rfl (lv_at hl 4 rfl) ?_
                          have e241 : (gs (gs g24 138 p1.toInt.toNat v6_97.toInt) 140 v6_97.toInt.toNat x239.toInt) 137 0 = g24 137 0 := by rw [gs_c _ _ _ _ (by decide), gs_c _ _ _ _ (by decide)]
                          have e242 : (gs (gs g24 138 p1.toInt.toNat v6_97.toInt) 140 v6_97.toInt.toNat x239.toInt) 137 0 = g24 137 0 := by rw [gs_c _ _ _ _ (by decide), gs_c _ _ _ _ (by decide)]
                          refine cI (va_runV (C := RX9) (As := [.int p1]) (rest := []) ⟨hx, hb, hml, hown, hA⟩ (k_X9_isShort l dC dI dA sz X Γ hU (gs (gs g24 138 p1.toInt.toNat v6_97.toInt) 140 v6_97.toInt.toNat x239.toInt) h0 t_h0 p1   (by omega) (by rw [h137]; exact hC2)) ⟨callB_of 1 hA (al_A wd_5_160) rfl rfl rfl (hA _ wd_1_7) (hA _ wd_5_157) (by decide +kernel) ⟨Nat.le_trans (Nat.le_of_ble_eq_true rfl) (Nat.le_add_left 3 F), Nat.le_trans (Nat.le_of_ble_eq_true rfl) (Nat.le_add_left 100 L)⟩, hA _ wd_5_159, hA _ ws_51⟩ ⟨bl, recv_X9 hE hG t_h0, fun U hU9 hW9 => ⟨rfl, by rw [hU9]; exact hG, hE.go hS hU9 hW9⟩⟩ rfl rfl hl.1 rfl (lv_room (Nat.le_of_ble_eq_true rfl)) dX9_chooses_192 ⟨Nat.zero_le _, Nat.zero_le _⟩) hS (fun x245 u243 H locs w244 hG hS => ?_)
                          obtain ⟨eu247, w244, hq246⟩ := w244
                          rw [eu247] at hG
                          obtain ⟨n9, hE9, hn9⟩ := hq246
                          rw [h137] at hE9
                          rw [h143] at hn9
                          have hnA : Unit → x245.toInt = 1 → n9 ≤ (g 143 0).toNat := fun _ h => by have h9 := hn9.mp h; clear hn9; omega
                          have hnB : Unit → x245.toInt ≠ 1 → (g 143 0).toNat < n9 := fun _ h => by have h9 : ¬ ((n9 : Int) ≤ g 143 0) := fun q => h (hn9.mpr q); clear hn9; omega
                          clear hn9
                          refine ty_if_eq (tgt := 219) hx hb dX9_chooses_195 (by decide) (fun c248 => ?_) (fun c248 => ?_)
                          · skip
                            refine lv_aload_n hx hb dX9_chooses_219 rfl (lv_at hl 3 rfl) ?_
                            refine get_X9_40 hx hb hA hown hE hG t_h0 wd_4_170 dX9_chooses_220 (fun b249 (t_b249 : ty Γ b249 140) => ?_)
                            refine lv_iload hx hb dX9_chooses_223 (lv_at hl 1 rfl) ?_
                            refine ty_iconst hx hb (0) dX9_chooses_225 (by decide) (fun x250 h251 => ?_)
                            refine ast_mZ hx hb hE hG hS hU 40 rfl (n := 9) rfl (lo := 0) (hi := 1) rfl rfl rfl t_b249 (by omega) (by omega) (by omega) dX9_chooses_226 (fun H locs hG hS => ?_)
                            obtain ⟨x252, h253⟩ : ∃ y : Int32, y = v6_97 + Int32.ofInt (1) := ⟨_, rfl⟩
                            try have h254 : x252.toInt = v6_97.toInt + (1) := ty_inc h253 (by decide) (by omega) (by omega)
                            refine lv_iinc (v := x252) (lv' := [(6, .int x252), (7, .int x234), (5, .int x7), (0, .ref h0), (1, .int p1), (2, .int p2), (3, .int p3), (4, .int p4)]) hx hb dX9_chooses_227 hl (k := 1) rfl h253.symm (by decide) rfl (fun ls hl => ?_)
                            refine lv_goto (tgt := 97) hx hb dX9_chooses_230 (by decide) ?_
                            have e255 : (gs (gs (gs g24 138 p1.toInt.toNat v6_97.toInt) 140 v6_97.toInt.toNat x239.toInt) 140 v6_97.toInt.toNat x250.toInt) 137 0 = g24 137 0 := by rw [gs_c _ _ _ _ (by decide), gs_c _ _ _ _ (by decide), gs_c _ _ _ _ (by decide)]
                            exact ih_97 x252 (gs (gs (gs g24 138 p1.toInt.toNat v6_97.toInt) 140 v6_97.toInt.toNat x239.toInt) 140 v6_97.toInt.toNat x250.toInt) _ _ ls (by omega) (by omega) (fun c j h138 h139 h140 h141 h142 => by rw [gs_c _ _ _ _ h140, gs_c _ _ _ _ h140, gs_c _ _ _ _ h138, hf25 c j h138 h139 h140 h141 h142]) (fun i hi => by rw [gs_c _ _ _ _ (by decide), gs_c _ _ _ _ (by decide), gs_j _ _ _ _ hi]; exact hq0 i hi) (fun i => by by_cases hi : i = v6_97.toInt.toNat; (rw [hi, gs_self, ← hq1 v6_97.toInt.toNat]; omega); (rw [gs_j _ _ _ _ hi]; rw [gs_j _ _ _ _ hi, gs_c _ _ _ _ (by decide)]; exact hq1 i)) (BG_cg (by rw [gs_c _ _ _ _ (by decide), gs_c _ _ _ _ (by decide), gs_c _ _ _ _ (by decide)]) (fun i => by rw [gs_c _ _ _ _ (by decide), gs_c _ _ _ _ (by decide), gs_c _ _ _ _ (by decide)]) hq2) (fun h => by rw [gs_c _ _ _ _ (by decide), gs_c _ _ _ _ (by decide), gs_c _ _ _ _ (by decide)]; exact hq3 h) (by rw [show (gs (gs (gs g24 138 p1.toInt.toNat v6_97.toInt) 140 v6_97.toInt.toNat x239.toInt) 140 v6_97.toInt.toNat x250.toInt) 141 0 = g24 141 0 by rw [gs_c _ _ _ _ (by decide), gs_c _ _ _ _ (by decide), gs_c _ _ _ _ (by decide)], show (gs (gs (gs g24 138 p1.toInt.toNat v6_97.toInt) 140 v6_97.toInt.toNat x239.toInt) 140 v6_97.toInt.toNat x250.toInt) 142 0 = g24 142 0 by rw [gs_c _ _ _ _ (by decide), gs_c _ _ _ _ (by decide), gs_c _ _ _ _ (by decide)], show (gs (gs (gs g24 138 p1.toInt.toNat v6_97.toInt) 140 v6_97.toInt.toNat x239.toInt) 140 v6_97.toInt.toNat x250.toInt) 139 = g24 139 from funext fun j => by rw [gs_c _ _ _ _ (by decide), gs_c _ _ _ _ (by decide), gs_c _ _ _ _ (by decide)]]; exact ch_no hq4 (by omega) (by omega) (no_short hC (by omega) (by omega) (u := _) (j := v6_97.toInt) (hu9.trans (congrArg (rg_up (g 138) p1.toInt.toNat) (show ((v6_97.toInt.toNat : Nat) : Int) = v6_97.toInt by omega))) hE9 (hnB () (by omega)))) hG hS (lv_sub hl [0, 2, 3, 4, 5, 6, 7] rfl)
                          · skip
                            refine lv_aload_n hx hb dX9_chooses_198 rfl (lv_at hl 3 rfl) ?_
                            refine lv_iload_n hx hb dX9_chooses_199 rfl (lv_at hl 4 rfl) ?_
                            have e256 : (gs (gs g24 138 p1.toInt.toNat v6_97.toInt) 140 v6_97.toInt.toNat x239.toInt) 137 0 = g24 137 0 := by rw [gs_c _ _ _ _ (by decide), gs_c _ _ _ _ (by decide)]
                            have e257 : (gs (gs g24 138 p1.toInt.toNat v6_97.toInt) 140 v6_97.toInt.toNat x239.toInt) 137 0 = g24 137 0 := by rw [gs_c _ _ _ _ (by decide), gs_c _ _ _ _ (by decide)]
                            refine cI (va_runV (C := RX9) (As := [.int p1]) (rest := []) ⟨hx, hb, hml, hown, hA⟩ (k_X9_isEven l dC dI dA sz X Γ hU (gs (gs g24 138 p1.toInt.toNat v6_97.toInt) 140 v6_97.toInt.toNat x239.toInt) h0 t_h0 p1   (by omega) (by rw [h137]; exact hC2) (by rw [h143]; exact hL)) ⟨callB_of 1 hA (al_A wd_5_164) rfl rfl rfl (hA _ wd_1_7) (hA _ wd_5_161) (by decide +kernel) ⟨Nat.le_trans (Nat.le_of_ble_eq_true rfl) (Nat.le_add_left 3 F), Nat.le_trans (Nat.le_of_ble_eq_true rfl) (Nat.le_add_left 100 L)⟩, hA _ wd_5_163, hA _ ws_52⟩ ⟨bl, recv_X9 hE hG t_h0, fun U hU9 hW9 => ⟨rfl, by rw [hU9]; exact hG, hE.go hS hU9 hW9⟩⟩ rfl rfl hl.1 rfl (lv_room (Nat.le_of_ble_eq_true rfl)) dX9_chooses_200 ⟨Nat.zero_le _, Nat.zero_le _⟩) hS (fun x260 u258 H locs w259 hG hS => ?_)
                            obtain ⟨eu262, w259, hq261⟩ := w259
                            rw [eu262] at hG
                            rw [h137, h143] at hq261
                            refine ty_if_eq (tgt := 219) hx hb dX9_chooses_203 (by decide) (fun c263 => ?_) (fun c263 => ?_)
                            · skip
                              refine lv_aload_n hx hb dX9_chooses_219 rfl (lv_at hl 3 rfl) ?_
                              refine get_X9_40 hx hb hA hown hE hG t_h0 wd_4_170 dX9_chooses_220 (fun b264 (t_b264 : ty Γ b264 140) => ?_)
                              refine lv_iload hx hb dX9_chooses_223 (lv_at hl 1 rfl) ?_
                              refine ty_iconst hx hb (0) dX9_chooses_225 (by decide) (fun x265 h266 => ?_)
                              refine ast_mZ hx hb hE hG hS hU 40 rfl (n := 9) rfl (lo := 0) (hi := 1) rfl rfl rfl t_b264 (by omega) (by omega) (by omega) dX9_chooses_226 (fun H locs hG hS => ?_)
                              obtain ⟨x267, h268⟩ : ∃ y : Int32, y = v6_97 + Int32.ofInt (1) := ⟨_, rfl⟩
                              try have h269 : x267.toInt = v6_97.toInt + (1) := ty_inc h268 (by decide) (by omega) (by omega)
                              refine lv_iinc (v := x267) (lv' := [(6, .int x267), (7, .int x234), (5, .int x7), (0, .ref h0), (1, .int p1), (2, .int p2), (3, .int p3), (4, .int p4)]) hx hb dX9_chooses_227 hl (k := 1) rfl h268.symm (by decide) rfl (fun ls hl => ?_)
                              refine lv_goto (tgt := 97) hx hb dX9_chooses_230 (by decide) ?_
                              have e270 : (gs (gs (gs g24 138 p1.toInt.toNat v6_97.toInt) 140 v6_97.toInt.toNat x239.toInt) 140 v6_97.toInt.toNat x265.toInt) 137 0 = g24 137 0 := by rw [gs_c _ _ _ _ (by decide), gs_c _ _ _ _ (by decide), gs_c _ _ _ _ (by decide)]
                              exact ih_97 x267 (gs (gs (gs g24 138 p1.toInt.toNat v6_97.toInt) 140 v6_97.toInt.toNat x239.toInt) 140 v6_97.toInt.toNat x265.toInt) _ _ ls (by omega) (by omega) (fun c j h138 h139 h140 h141 h142 => by rw [gs_c _ _ _ _ h140, gs_c _ _ _ _ h140, gs_c _ _ _ _ h138, hf25 c j h138 h139 h140 h141 h142]) (fun i hi => by rw [gs_c _ _ _ _ (by decide), gs_c _ _ _ _ (by decide), gs_j _ _ _ _ hi]; exact hq0 i hi) (fun i => by by_cases hi : i = v6_97.toInt.toNat; (rw [hi, gs_self, ← hq1 v6_97.toInt.toNat]; omega); (rw [gs_j _ _ _ _ hi]; rw [gs_j _ _ _ _ hi, gs_c _ _ _ _ (by decide)]; exact hq1 i)) (BG_cg (by rw [gs_c _ _ _ _ (by decide), gs_c _ _ _ _ (by decide), gs_c _ _ _ _ (by decide)]) (fun i => by rw [gs_c _ _ _ _ (by decide), gs_c _ _ _ _ (by decide), gs_c _ _ _ _ (by decide)]) hq2) (fun h => by rw [gs_c _ _ _ _ (by decide), gs_c _ _ _ _ (by decide), gs_c _ _ _ _ (by decide)]; exact hq3 h) (by rw [show (gs (gs (gs g24 138 p1.toInt.toNat v6_97.toInt) 140 v6_97.toInt.toNat x239.toInt) 140 v6_97.toInt.toNat x265.toInt) 141 0 = g24 141 0 by rw [gs_c _ _ _ _ (by decide), gs_c _ _ _ _ (by decide), gs_c _ _ _ _ (by decide)], show (gs (gs (gs g24 138 p1.toInt.toNat v6_97.toInt) 140 v6_97.toInt.toNat x239.toInt) 140 v6_97.toInt.toNat x265.toInt) 142 0 = g24 142 0 by rw [gs_c _ _ _ _ (by decide), gs_c _ _ _ _ (by decide), gs_c _ _ _ _ (by decide)], show (gs (gs (gs g24 138 p1.toInt.toNat v6_97.toInt) 140 v6_97.toInt.toNat x239.toInt) 140 v6_97.toInt.toNat x265.toInt) 139 = g24 139 from funext fun j => by rw [gs_c _ _ _ _ (by decide), gs_c _ _ _ _ (by decide), gs_c _ _ _ _ (by decide)]]; exact ch_no hq4 (by omega) (by omega) (no_even hC (u := _) (j := v6_97.toInt) (hu9.trans (congrArg (rg_up (g 138) p1.toInt.toNat) (show ((v6_97.toInt.toNat : Nat) : Int) = v6_97.toInt by omega))) (hq261 () (by omega)))) hG hS (lv_sub hl [0, 2, 3, 4, 5, 6, 7] rfl)
                            · skip
                              refine lv_aload_n hx hb dX9_chooses_206 rfl (lv_at hl 3 rfl) ?_
                              refine lv_iload_n hx hb dX9_chooses_207 rfl (lv_at hl 4 rfl) ?_
                              refine ty_iconst hx hb (1) dX9_chooses_208 (by decide) (fun x271 h272 => ?_)
                              refine ty_iadd hx hb dX9_chooses_209 (fun x273 h274 => ?_)
                              try have h275 : x273.toInt = p1.toInt + x271.toInt := ty_add h274 (by omega) (by omega)
                              refine lv_iload_n hx hb dX9_chooses_210 rfl (lv_at hl 5 rfl) ?_
                              refine ty_iconst hx hb (1) dX9_chooses_211 (by decide) (fun x276 h277 => ?_)
                              refine ty_iadd hx hb dX9_chooses_212 (fun x278 h279 => ?_)
                              try have h280 : x278.toInt = p2.toInt + x276.toInt := ty_add h279 (by omega) (by omega)
                              refine lv_iload_n hx hb dX9_chooses_213 rfl (lv_at hl 6 rfl) ?_
                              refine lv_iload hx hb dX9_chooses_214 (lv_at hl 7 rfl) ?_
                              have e281 : (gs (gs g24 138 p1.toInt.toNat v6_97.toInt) 140 v6_97.toInt.toNat x239.toInt) 137 0 = g24 137 0 := by rw [gs_c _ _ _ _ (by decide), gs_c _ _ _ _ (by decide)]
                              have e282 : (gs (gs g24 138 p1.toInt.toNat v6_97.toInt) 140 v6_97.toInt.toNat x239.toInt) 137 0 = g24 137 0 := by rw [gs_c _ _ _ _ (by decide), gs_c _ _ _ _ (by decide)]
                              have e283 : (gs (gs g24 138 p1.toInt.toNat v6_97.toInt) 140 v6_97.toInt.toNat x239.toInt) 137 0 = g24 137 0 := by rw [gs_c _ _ _ _ (by decide), gs_c _ _ _ _ (by decide)]
                              have e284 : (gs (gs g24 138 p1.toInt.toNat v6_97.toInt) 140 v6_97.toInt.toNat x239.toInt) 137 0 = g24 137 0 := by rw [gs_c _ _ _ _ (by decide), gs_c _ _ _ _ (by decide)]
                              refine cV (va_runV (C := RX9) (As := [.int x273, .int x278, .int p3, .int p4]) (rest := []) ⟨hx, hb, hml, hown, hA⟩ (IH l dC dI dA sz X Γ hU (gs (gs g24 138 p1.toInt.toNat v6_97.toInt) 140 v6_97.toInt.toNat x239.toInt) h0 t_h0 x273 x278 p3 p4   (by omega) (by rw [h137, show x273.toInt.toNat = p1.toInt.toNat + 1 by omega]; exact hC2) (by rw [h137]; exact BG_cg (by rw [gs_c _ _ _ _ (by decide), gs_c _ _ _ _ (by decide)]) (fun i => by rw [gs_c _ _ _ _ (by decide), gs_c _ _ _ _ (by decide)]) hq2) (by rw [h143]; exact hL) (by rw [h137, h143, hr131, hr136, hr135, hr128, hr129, hr102, hr103, show x273.toInt.toNat = p1.toInt.toNat + 1 by omega] <;> exact CP_get hP (by omega) hu9 hsu9 hE9 (hnA () (by omega)) (by omega))) ⟨callB_of 4 hA (al_A wd_5_152) rfl rfl rfl (hA _ wd_1_7) (hA _ wd_5_149) (by decide +kernel) ⟨Nat.add_le_add_left (by decide) F, show 8 + (8 + 11) + L ≤ L + 100 by omega⟩, hA _ wd_5_151, hA _ ws_49⟩ ⟨bl, recv_X9 hE hG t_h0, fun U hU9 hW9 => ⟨rfl, by rw [hU9]; exact hG, hE.go hS hU9 hW9⟩⟩ rfl rfl hl.1 rfl (lv_room (Nat.le_of_ble_eq_true rfl)) dX9_chooses_216 ⟨Nat.zero_le _, Nat.zero_le _⟩) hS (fun u285 H locs w286 hG hS => ?_)
                              obtain ⟨hf292, hq287, hq288, hq289, hq290, hq291⟩ := w286
                              refine lv_aload_n hx hb dX9_chooses_219 rfl (lv_at hl 3 rfl) ?_
                              refine get_X9_40 hx hb hA hown hE hG t_h0 wd_4_170 dX9_chooses_220 (fun b293 (t_b293 : ty Γ b293 140) => ?_)
                              refine lv_iload hx hb dX9_chooses_223 (lv_at hl 1 rfl) ?_
                              refine ty_iconst hx hb (0) dX9_chooses_225 (by decide) (fun x294 h295 => ?_)
                              refine ast_mZ hx hb hE hG hS hU 40 rfl (n := 9) rfl (lo := 0) (hi := 1) rfl rfl rfl t_b293 (by omega) (by omega) (by omega) dX9_chooses_226 (fun H locs hG hS => ?_)
                              obtain ⟨x296, h297⟩ : ∃ y : Int32, y = v6_97 + Int32.ofInt (1) := ⟨_, rfl⟩
                              try have h298 : x296.toInt = v6_97.toInt + (1) := ty_inc h297 (by decide) (by omega) (by omega)
                              refine lv_iinc (v := x296) (lv' := [(6, .int x296), (7, .int x234), (5, .int x7), (0, .ref h0), (1, .int p1), (2, .int p2), (3, .int p3), (4, .int p4)]) hx hb dX9_chooses_227 hl (k := 1) rfl h297.symm (by decide) rfl (fun ls hl => ?_)
                              refine lv_goto (tgt := 97) hx hb dX9_chooses_230 (by decide) ?_
                              have hk299 : u285 137 0 = (gs (gs g24 138 p1.toInt.toNat v6_97.toInt) 140 v6_97.toInt.toNat x239.toInt) 137 0 := hf292 137 0 (by decide) (by decide) (by decide) (by decide) (by decide)
                              replace hk299 : u285 137 0 = g24 137 0 := by rw [hk299, gs_c _ _ _ _ (by decide), gs_c _ _ _ _ (by decide)]
                              have e300 : (gs u285 140 v6_97.toInt.toNat x294.toInt) 137 0 = u285 137 0 := by rw [gs_c _ _ _ _ (by decide)]
                              exact ih_97 x296 (gs u285 140 v6_97.toInt.toNat x294.toInt) _ _ ls (by omega) (by omega) (fun c j h138 h139 h140 h141 h142 => by rw [gs_c _ _ _ _ h140, hf292 c j h138 h139 h140 h141 h142, gs_c _ _ _ _ h140, gs_c _ _ _ _ h138, hf25 c j h138 h139 h140 h141 h142]) (fun i hi => by rw [gs_c _ _ _ _ (by decide), hq287 i, gs_c _ _ _ _ (by decide), gs_j _ _ _ _ hi]; exact hq0 i hi) (fun i => by by_cases hi : i = v6_97.toInt.toNat; (rw [hi, gs_self, ← hq1 v6_97.toInt.toNat]; omega); (rw [gs_j _ _ _ _ hi]; rw [hq288 i, gs_j _ _ _ _ hi, gs_c _ _ _ _ (by decide)]; exact hq1 i)) (BG_cg (by rw [gs_c _ _ _ _ (by decide)]) (fun i => by rw [gs_c _ _ _ _ (by decide)]) (by have h9 := hq289; rw [h137] at h9; exact h9)) (fun h => by rw [gs_c _ _ _ _ (by decide)]; exact hq290 (Or.inl (by rw [gs_c _ _ _ _ (by decide), gs_c _ _ _ _ (by decide)]; exact hq3 h))) (by rw [show (gs u285 140 v6_97.toInt.toNat x294.toInt) 141 0 = u285 141 0 by rw [gs_c _ _ _ _ (by decide)], show (gs u285 140 v6_97.toInt.toNat x294.toInt) 142 0 = u285 142 0 by rw [gs_c _ _ _ _ (by decide)], show (gs u285 140 v6_97.toInt.toNat x294.toInt) 139 = u285 139 from funext fun j => by rw [gs_c _ _ _ _ (by decide)]]; exact ch_rec (by omega) hq4 (by have h9 := hq291; rw [h137, h143, hr131, hr136, hr135, hr128, hr129, hr102, hr103, hr141, hr142, hr139, hu9, show ((v6_97.toInt.toNat : Nat) : Int) = v6_97.toInt by omega, show x273.toInt.toNat = p1.toInt.toNat + 1 by omega] at h9; exact h9) (by omega) (by omega)) hG hS (lv_sub hl [0, 2, 3, 4, 5, 6, 7] rfl)
                        · exfalso; omega
        exact L_97 ((g 137 0 - x22.toInt) + 1).toNat x22 g _ _ ls (by omega) (by omega) (fun c j _ _ _ _ _ => rfl) (fun i hi => rfl) (fun i => rfl) (hB) (fun h => h) (ch_J0 (by omega)) hG hS (lv_sub hl [0, 1, 2, 3, 4, 5, 6] rfl)
      · skip
        refine lv_aload_n hx hb dX9_chooses_48 rfl (lv_at hl 1 rfl) ?_
        refine lv_iload_n hx hb dX9_chooses_49 rfl (lv_at hl 3 rfl) ?_
        refine put_X9_41 hx hb hA hown hE hG hS hU t_h0 wd_4_171 dX9_chooses_50 (fun H locs hG hS => ?_)
        refine lv_aload_n hx hb dX9_chooses_53 rfl (lv_at hl 1 rfl) ?_
        refine lv_iload hx hb dX9_chooses_54 (lv_at hl 5 rfl) ?_
        refine lv_iload_n hx hb dX9_chooses_56 rfl (lv_at hl 4 rfl) ?_
        refine ty_isub hx hb dX9_chooses_57 (fun x301 h302 => ?_)
        try have h303 : x301.toInt = p4.toInt - p3.toInt := ty_sub h302 (by omega) (by omega)
        refine put_X9_42 hx hb hA hown hE hG hS hU t_h0 wd_4_172 dX9_chooses_58 (fun H locs hG hS => ?_)
        refine ty_iconst hx hb (0) dX9_chooses_61 (by decide) (fun x304 h305 => ?_)
        refine lv_istore (lv' := [(6, .int x304), (5, .int x7), (0, .ref h0), (1, .int p1), (2, .int p2), (3, .int p3), (4, .int p4)]) hx hb dX9_chooses_62 hl (by decide) rfl (fun ls hl => ?_)
        have e307 : (gs (gs g 141 0 p2.toInt) 142 0 x301.toInt) 137 0 = g 137 0 := by rw [gs_c _ _ _ _ (by decide), gs_c _ _ _ _ (by decide)]
        have L_64 : ∀ (n : Nat) (v6_64 : Int32) (g306 : gh) (H : Heap) (locs : List Loc) (ls : Array Slot), (g306 137 0 - v6_64.toInt : Int) < n → 0 ≤ v6_64.toInt ∧ v6_64.toInt ≤ g306 137 0 → (∀ c j : Nat, c ≠ 139 → g306 c j = (gs (gs g 141 0 p2.toInt) 142 0 x301.toInt) c j) → (∀ i : Nat, (i : Int) < v6_64.toInt → g306 139 i = g 138 i) → ty_ok (dC, dI) vwCl Γ (TP dA Γ g306) sz X H → va_S (ty_A sz) s.heap H locs → lv_has ls 8 [(6, .int v6_64), (5, .int x7), (0, .ref h0), (1, .int p1), (2, .int p2), (3, .int p3), (4, .int p4)] → W p l e (headSpec (.code yX9_chooses cX9_chooses 8 (Option.none : Option Jvm.ClassFile.FieldType) :: AL) ({ frames := F + 3, cells := 0, slots := 0, locals := L + 100 })).room s m ([.ref h0, .int p1, .int p2, .int p3, .int p4] : List Value).toArray below meth c H locs 0 0 (MQ below (va_Qv (fun (u : gh) => (∀ c j : Nat, c ≠ 138 → c ≠ 139 → c ≠ 140 → c ≠ 141 → c ≠ 142 → u c j = g c j) ∧ (∀ i : Nat, u 138 i = g 138 i) ∧ (∀ i : Nat, u 140 i = g 140 i) ∧ (BG u (g 137 0).toNat) ∧ ((0 ≤ g 141 0 ∨ ∀ j : Nat, j < (g 137 0).toNat → g 140 j ≠ 1) → 0 ≤ u 141 0) ∧ (rg_S (g 137 0).toNat (fun i => g 131 (g 136 i).toNat) (rg_P (g 137 0).toNat (su_w ( g 135) ( g 128) ( g 129) ( g 102) ( g 103) ( g 136)) (g 143 (0)).toNat p1.toInt.toNat ( g 138)) (g 141 0) (g 142 0) ( g 139) (u 141 0) (u 142 0) ( u 139))) (okb dC dI dA sz X Γ) (ty_A sz)) ([.ref h0, .int p1, .int p2, .int p3, .int p4] : List Value).toArray s 0 0 (ty_A sz)) (F0 m 64 ls []) := by
          intro n
          induction n with
          | zero => intro v6_64 g306 H locs ls hm hi0 hf308 hq0 hG hS hl; exfalso; omega
          | succ n ih_64 =>
            intro v6_64 g306 H locs ls hm hi0 hf308 hq0 hG hS hl
            have hk309 : g306 137 0 = (gs (gs g 141 0 p2.toInt) 142 0 x301.toInt) 137 0 := hf308 137 0 (by decide)
            replace hk309 : g306 137 0 = g 137 0 := by rw [hk309, gs_c _ _ _ _ (by decide), gs_c _ _ _ _ (by decide)]
            refine lv_iload hx hb dX9_chooses_64 (lv_at hl 0 rfl) ?_
            refine lv_aload_n hx hb dX9_chooses_66 rfl (lv_at hl 2 rfl) ?_
            refine get_X9_37 hx hb hA hown hE hG t_h0 wd_4_167 dX9_chooses_67 (fun x310 h311 => ?_)
            refine ty_icmp_ge (tgt := 93) hx hb dX9_chooses_70 (by decide) (fun c313 => ?_) (fun c313 => ?_)
            · skip
              have hr314 : g306 141 = (gs g 141 0 p2.toInt) 141 := funext fun j => by rw [hf308 141 j (by decide), gs_c _ _ _ _ (by decide)]
              have hr315 : g306 141 = (gs g 141 0 p2.toInt) 141 := funext fun j => by rw [hf308 141 j (by decide), gs_c _ _ _ _ (by decide)]
              have hr316 : g306 142 = (gs (gs g 141 0 p2.toInt) 142 0 x301.toInt) 142 := funext fun j => by rw [hf308 142 j (by decide)]
              exact W.vret hx hb hr (fun t ht hW => ⟨⟨g306, rfl, ⟨(fun c j h138 h139 h140 h141 h142 => by rw [hf308 c j h139, gs_c _ _ _ _ h142, gs_c _ _ _ _ h141]), (fun i => by rw [hf308 138 i (by decide), gs_c _ _ _ _ (by decide), gs_c _ _ _ _ (by decide)]), (fun i => by rw [hf308 140 i (by decide), gs_c _ _ _ _ (by decide), gs_c _ _ _ _ (by decide)]), (BG_leaf (g := g) (by have h9 := hC; rw [show p1.toInt.toNat = (g 137 0).toNat by omega] at h9; exact h9) (fun i hi => hq0 i (by omega))), (fun _ => by rw [hr314, gs_self]; omega), (by have hC9 := hC; have hP9 := hP; rw [show p1.toInt.toNat = (g 137 0).toNat by omega] at hC9 hP9 ⊢; exact ch_leaf hC9 hP9 (fun i hi => hq0 i (by omega)) (by rw [hr315, gs_self]) (by rw [hr316, gs_self]; omega) (fun q => by rw [hr315, hr316, gs_self, gs_self] at q; unfold rg_le at q; omega))⟩, ok1 ht hG⟩, hS.F ht⟩) hS.2.2 dX9_chooses_93
            · skip
              refine lv_aload_n hx hb dX9_chooses_73 rfl (lv_at hl 2 rfl) ?_
              refine get_X9_39 hx hb hA hown hE hG t_h0 wd_4_169 dX9_chooses_74 (fun b317 (t_b317 : ty Γ b317 139) => ?_)
              refine lv_iload hx hb dX9_chooses_77 (lv_at hl 0 rfl) ?_
              refine lv_aload_n hx hb dX9_chooses_79 rfl (lv_at hl 2 rfl) ?_
              refine get_X9_38 hx hb hA hown hE hG t_h0 wd_4_168 dX9_chooses_80 (fun b318 (t_b318 : ty Γ b318 138) => ?_)
              refine lv_iload hx hb dX9_chooses_83 (lv_at hl 0 rfl) ?_
              refine ald_mI hx hb hE hG 38 rfl (n := 9) rfl (lo := -2) (hi := 8) rfl rfl t_b318 (by omega) dX9_chooses_85 (fun j320 x319 h321 h322 h323 => ?_)
              obtain rfl : j320 = v6_64.toInt.toNat := by omega
              replace h322 : x319.toInt = g306 138 v6_64.toInt.toNat := h322
              have hk324 : g306 138 v6_64.toInt.toNat = (gs (gs g 141 0 p2.toInt) 142 0 x301.toInt) 138 v6_64.toInt.toNat := hf308 138 v6_64.toInt.toNat (by decide)
              replace hk324 : g306 138 v6_64.toInt.toNat = g 138 v6_64.toInt.toNat := by rw [hk324, gs_c _ _ _ _ (by decide), gs_c _ _ _ _ (by decide)]
              have hR9 : g306 138 v6_64.toInt.toNat = g 138 v6_64.toInt.toNat := by rw [hf308 138 v6_64.toInt.toNat (by decide), gs_c _ _ _ _ (by decide), gs_c _ _ _ _ (by decide)]
              have hA9 := (hC.1 v6_64.toInt.toNat (by omega)).1
              refine ast_mI hx hb hE hG hS hU 39 rfl (n := 9) rfl (lo := -1) (hi := 8) rfl rfl rfl t_b317 (by omega) (by omega) dX9_chooses_86 (fun H locs hG hS => ?_)
              obtain ⟨x325, h326⟩ : ∃ y : Int32, y = v6_64 + Int32.ofInt (1) := ⟨_, rfl⟩
              try have h327 : x325.toInt = v6_64.toInt + (1) := ty_inc h326 (by decide) (by omega) (by omega)
              refine lv_iinc (v := x325) (lv' := [(6, .int x325), (5, .int x7), (0, .ref h0), (1, .int p1), (2, .int p2), (3, .int p3), (4, .int p4)]) hx hb dX9_chooses_87 hl (k := 0) rfl h326.symm (by decide) rfl (fun ls hl => ?_)
              refine lv_goto (tgt := 64) hx hb dX9_chooses_90 (by decide) ?_
              have e328 : (gs g306 139 v6_64.toInt.toNat x319.toInt) 137 0 = g306 137 0 := by rw [gs_c _ _ _ _ (by decide)]
              exact ih_64 x325 (gs g306 139 v6_64.toInt.toNat x319.toInt) _ _ ls (by omega) (by omega) (fun c j h139 => by rw [gs_c _ _ _ _ h139, hf308 c j h139]) (fun i hi => by by_cases e9 : i = v6_64.toInt.toNat; (rw [e9, gs_self]; omega); (rw [gs_j _ _ _ _ e9]; exact hq0 i (by omega))) hG hS (lv_sub hl [0, 1, 2, 3, 4, 5, 6] rfl)
        have e329 : (gs (gs g 141 0 p2.toInt) 142 0 x301.toInt) 137 0 = g 137 0 := by rw [gs_c _ _ _ _ (by decide), gs_c _ _ _ _ (by decide)]
        exact L_64 (((gs (gs g 141 0 p2.toInt) 142 0 x301.toInt) 137 0 - x304.toInt) + 1).toNat x304 (gs (gs g 141 0 p2.toInt) 142 0 x301.toInt) _ _ ls (by omega) (by omega) (fun c j _ => rfl) (fun i hi => absurd hi (by omega)) hG hS (lv_sub hl [0, 1, 2, 3, 4, 5, 6] rfl)
    · skip
      refine lv_iload hx hb dX9_chooses_28 (lv_at hl 5 rfl) ?_
      refine lv_iload_n hx hb dX9_chooses_30 rfl (lv_at hl 4 rfl) ?_
      refine ty_isub hx hb dX9_chooses_31 (fun x330 h331 => ?_)
      try have h332 : x330.toInt = p4.toInt - p3.toInt := ty_sub h331 (by omega) (by omega)
      refine lv_aload_n hx hb dX9_chooses_32 rfl (lv_at hl 1 rfl) ?_
      refine get_X9_42 hx hb hA hown hE hG t_h0 wd_4_172 dX9_chooses_33 (fun x333 h334 => ?_)
      refine ty_icmp_gt (tgt := 40) hx hb dX9_chooses_36 (by decide) (fun c336 => ?_) (fun c336 => ?_)
      · skip
        refine lv_iload_n hx hb dX9_chooses_40 rfl (lv_at hl 2 rfl) ?_
        refine lv_aload_n hx hb dX9_chooses_41 rfl (lv_at hl 1 rfl) ?_
        refine get_X9_37 hx hb hA hown hE hG t_h0 wd_4_167 dX9_chooses_42 (fun x337 h338 => ?_)
        refine ty_icmp_ne (tgt := 94) hx hb dX9_chooses_45 (by decide) (fun c340 => ?_) (fun c340 => ?_)
        · skip
          refine ty_iconst hx hb (0) dX9_chooses_94 (by decide) (fun x341 h342 => ?_)
          refine lv_istore (lv' := [(6, .int x341), (5, .int x7), (0, .ref h0), (1, .int p1), (2, .int p2), (3, .int p3), (4, .int p4)]) hx hb dX9_chooses_95 hl (by decide) rfl (fun ls hl => ?_)
          have L_97 : ∀ (n : Nat) (v6_97 : Int32) (g343 : gh) (H : Heap) (locs : List Loc) (ls : Array Slot), (g343 137 0 - v6_97.toInt : Int) < n → 0 ≤ v6_97.toInt ∧ v6_97.toInt ≤ g343 137 0 → (∀ c j : Nat, c ≠ 138 → c ≠ 139 → c ≠ 140 → c ≠ 141 → c ≠ 142 → g343 c j = g c j) → (∀ i : Nat, i ≠ p1.toInt.toNat → g343 138 i = g 138 i) → (∀ i : Nat, g343 140 i = g 140 i) → (BG g343 (g 137 0).toNat) → (0 ≤ g 141 0 → 0 ≤ g343 141 0) → (rg_S (g 137 0).toNat (fun i => g 131 (g 136 i).toNat) (rg_J (g 137 0).toNat (su_w (g 135) (g 128) (g 129) (g 102) (g 103) (g 136)) (g 143 0).toNat p1.toInt.toNat (g 138) v6_97.toInt) (g 141 0) (g 142 0) (g 139) (g343 141 0) (g343 142 0) (g343 139)) → ty_ok (dC, dI) vwCl Γ (TP dA Γ g343) sz X H → va_S (ty_A sz) s.heap H locs → lv_has ls 8 [(6, .int v6_97), (5, .int x7), (0, .ref h0), (1, .int p1), (2, .int p2), (3, .int p3), (4, .int p4)] → W p l e (headSpec (.code yX9_chooses cX9_chooses 8 (Option.none : Option Jvm.ClassFile.FieldType) :: AL) ({ frames := F + 3, cells := 0, slots := 0, locals := L + 100 })).room s m ([.ref h0, .int p1, .int p2, .int p3, .int p4] : List Value).toArray below meth c H locs 0 0 (MQ below (va_Qv (fun (u : gh) => (∀ c j : Nat, c ≠ 138 → c ≠ 139 → c ≠ 140 → c ≠ 141 → c ≠ 142 → u c j = g c j) ∧ (∀ i : Nat, u 138 i = g 138 i) ∧ (∀ i : Nat, u 140 i = g 140 i) ∧ (BG u (g 137 0).toNat) ∧ ((0 ≤ g 141 0 ∨ ∀ j : Nat, j < (g 137 0).toNat → g 140 j ≠ 1) → 0 ≤ u 141 0) ∧ (rg_S (g 137 0).toNat (fun i => g 131 (g 136 i).toNat) (rg_P (g 137 0).toNat (su_w ( g 135) ( g 128) ( g 129) ( g 102) ( g 103) ( g 136)) (g 143 (0)).toNat p1.toInt.toNat ( g 138)) (g 141 0) (g 142 0) ( g 139) (u 141 0) (u 142 0) ( u 139))) (okb dC dI dA sz X Γ) (ty_A sz)) ([.ref h0, .int p1, .int p2, .int p3, .int p4] : List Value).toArray s 0 0 (ty_A sz)) (F0 m 97 ls []) := by
            intro n
            induction n with
            | zero => intro v6_97 g343 H locs ls hm hi0 hf344 hq0 hq1 hq2 hq3 hq4 hG hS hl; exfalso; omega
            | succ n ih_97 =>
              intro v6_97 g343 H locs ls hm hi0 hf344 hq0 hq1 hq2 hq3 hq4 hG hS hl
              have hk345 : g343 137 0 = g 137 0 := hf344 137 0 (by decide) (by decide) (by decide) (by decide) (by decide)
              refine lv_iload hx hb dX9_chooses_97 (lv_at hl 0 rfl) ?_
              refine lv_aload_n hx hb dX9_chooses_99 rfl (lv_at hl 2 rfl) ?_
              refine get_X9_37 hx hb hA hown hE hG t_h0 wd_4_167 dX9_chooses_100 (fun x346 h347 => ?_)
              refine ty_icmp_ge (tgt := 233) hx hb dX9_chooses_103 (by decide) (fun c349 => ?_) (fun c349 => ?_)
              · skip
                refine lv_aload_n hx hb dX9_chooses_233 rfl (lv_at hl 2 rfl) ?_
                refine get_X9_38 hx hb hA hown hE hG t_h0 wd_4_168 dX9_chooses_234 (fun b350 (t_b350 : ty Γ b350 138) => ?_)
                refine lv_iload_n hx hb dX9_chooses_237 rfl (lv_at hl 3 rfl) ?_
                refine ty_iconst hx hb (-1) dX9_chooses_238 (by decide) (fun x351 h352 => ?_)
                refine ast_mI hx hb hE hG hS hU 38 rfl (n := 9) rfl (lo := -2) (hi := 8) rfl rfl rfl t_b350 (by omega) (by omega) dX9_chooses_239 (fun H locs hG hS => ?_)
                refine lv_aload_n hx hb dX9_chooses_240 rfl (lv_at hl 2 rfl) ?_
                refine get_X9_40 hx hb hA hown hE hG t_h0 wd_4_170 dX9_chooses_241 (fun b353 (t_b353 : ty Γ b353 140) => ?_)
                refine lv_iload_n hx hb dX9_chooses_244 rfl (lv_at hl 3 rfl) ?_
                refine ald_mZ hx hb hE hG 40 rfl (n := 9) rfl (lo := 0) (hi := 1) rfl rfl t_b353 (by omega) dX9_chooses_245 (fun j355 x354 h356 h357 h358 => ?_)
                obtain rfl : j355 = p1.toInt.toNat := by omega
                rw [gs_c _ _ _ _ (by decide)] at h357
                replace h357 : x354.toInt = g343 140 p1.toInt.toNat := h357
                refine ty_if_ne (tgt := 272) hx hb dX9_chooses_246 (by decide) (fun c359 => ?_) (fun c359 => ?_)
                · skip
                  refine lv_aload_n hx hb dX9_chooses_272 rfl (lv_at hl 2 rfl) ?_
                  refine get_X9_38 hx hb hA hown hE hG t_h0 wd_4_168 dX9_chooses_273 (fun b360 (t_b360 : ty Γ b360 138) => ?_)
                  refine lv_iload_n hx hb dX9_chooses_276 rfl (lv_at hl 3 rfl) ?_
                  refine ty_bipush hx hb (-2) dX9_chooses_277 (by decide) (fun x361 h362 => ?_)
                  refine ast_mI hx hb hE hG hS hU 38 rfl (n := 9) rfl (lo := -2) (hi := 8) rfl rfl rfl t_b360 (by omega) (by omega) dX9_chooses_279 (fun H locs hG hS => ?_)
                  exact W.vret hx hb hr (fun t ht hW => ⟨⟨(gs (gs g343 138 p1.toInt.toNat x351.toInt) 138 p1.toInt.toNat x361.toInt), rfl, ⟨(fun c j h138 h139 h140 h141 h142 => by rw [gs_c _ _ _ _ h138, gs_c _ _ _ _ h138, hf344 c j h138 h139 h140 h141 h142]), (fun i => by by_cases hi : i = p1.toInt.toNat; (rw [hi, gs_self, hC.2.1 p1.toInt.toNat (by omega) (by omega)]; omega); (rw [gs_j _ _ _ _ hi]; rw [gs_j _ _ _ _ hi]; exact hq0 i hi)), (fun i => by rw [gs_c _ _ _ _ (by decide), gs_c _ _ _ _ (by decide)]; exact hq1 i), (BG_cg (by rw [gs_c _ _ _ _ (by decide), gs_c _ _ _ _ (by decide)]) (fun i => by rw [gs_c _ _ _ _ (by decide), gs_c _ _ _ _ (by decide)]) hq2), (fun h => by rw [gs_c _ _ _ _ (by decide), gs_c _ _ _ _ (by decide)]; exact hq3 (h.elim id (fun h9 => absurd (show g 140 p1.toInt.toNat = 1 by have := hq1 p1.toInt.toNat; omega) (h9 p1.toInt.toNat (by omega))))), (by rw [show (gs (gs g343 138 p1.toInt.toNat x351.toInt) 138 p1.toInt.toNat x361.toInt) 141 0 = g343 141 0 by rw [gs_c _ _ _ _ (by decide), gs_c _ _ _ _ (by decide)], show (gs (gs g343 138 p1.toInt.toNat x351.toInt) 138 p1.toInt.toNat x361.toInt) 142 0 = g343 142 0 by rw [gs_c _ _ _ _ (by decide), gs_c _ _ _ _ (by decide)], show (gs (gs g343 138 p1.toInt.toNat x351.toInt) 138 p1.toInt.toNat x361.toInt) 139 = g343 139 from funext fun j => by rw [gs_c _ _ _ _ (by decide), gs_c _ _ _ _ (by decide)]]; exact ch_endn hC (by omega) (j := v6_97.toInt) (by omega) (by have := hq1 p1.toInt.toNat; omega) hq4)⟩, ok1 ht hG⟩, hS.F ht⟩) hS.2.2 dX9_chooses_280
                · skip
                  have hz9 := hq1 p1.toInt.toNat
                  have h137 : (gs g343 138 p1.toInt.toNat x351.toInt) 137 0 = g 137 0 := by rw [gs_c _ _ _ _ (by decide), hf344 137 0 (by decide) (by decide) (by decide) (by decide) (by decide)]
                  have hC2 : CH (gs g343 138 p1.toInt.toNat x351.toInt) (g 137 0).toNat (p1.toInt.toNat + 1) := CH_none hC (by omega) (by omega) (by rw [gs_self]; omega) (fun i hi => by rw [gs_j _ _ _ _ hi]; exact hq0 i hi) (fun i => by rw [gs_c _ _ _ _ (by decide)]; exact hq1 i)
                  have h143 : (gs g343 138 p1.toInt.toNat x351.toInt) 143 = g 143 := funext fun j => by rw [gs_c _ _ _ _ (by decide), hf344 143 j (by decide) (by decide) (by decide) (by decide) (by decide)]
                  have hr131 : (gs g343 138 p1.toInt.toNat x351.toInt) 131 = g 131 := funext fun j => by rw [gs_c _ _ _ _ (by decide), hf344 131 j (by decide) (by decide) (by decide) (by decide) (by decide)]
                  have hr136 : (gs g343 138 p1.toInt.toNat x351.toInt) 136 = g 136 := funext fun j => by rw [gs_c _ _ _ _ (by decide), hf344 136 j (by decide) (by decide) (by decide) (by decide) (by decide)]
                  have hr135 : (gs g343 138 p1.toInt.toNat x351.toInt) 135 = g 135 := funext fun j => by rw [gs_c _ _ _ _ (by decide), hf344 135 j (by decide) (by decide) (by decide) (by decide) (by decide)]
                  have hr128 : (gs g343 138 p1.toInt.toNat x351.toInt) 128 = g 128 := funext fun j => by rw [gs_c _ _ _ _ (by decide), hf344 128 j (by decide) (by decide) (by decide) (by decide) (by decide)]
                  have hr129 : (gs g343 138 p1.toInt.toNat x351.toInt) 129 = g 129 := funext fun j => by rw [gs_c _ _ _ _ (by decide), hf344 129 j (by decide) (by decide) (by decide) (by decide) (by decide)]
                  have hr102 : (gs g343 138 p1.toInt.toNat x351.toInt) 102 = g 102 := funext fun j => by rw [gs_c _ _ _ _ (by decide), hf344 102 j (by decide) (by decide) (by decide) (by decide) (by decide)]
                  have hr103 : (gs g343 138 p1.toInt.toNat x351.toInt) 103 = g 103 := funext fun j => by rw [gs_c _ _ _ _ (by decide), hf344 103 j (by decide) (by decide) (by decide) (by decide) (by decide)]
                  have hr139 : (gs g343 138 p1.toInt.toNat x351.toInt) 139 = g343 139 := funext fun j => by rw [gs_c _ _ _ _ (by decide)]
                  have hr141 : (gs g343 138 p1.toInt.toNat x351.toInt) 141 = g343 141 := funext fun j => by rw [gs_c _ _ _ _ (by decide)]
                  have hr142 : (gs g343 138 p1.toInt.toNat x351.toInt) 142 = g343 142 := funext fun j => by rw [gs_c _ _ _ _ (by decide)]
                  have hu9 : (gs g343 138 p1.toInt.toNat x351.toInt) 138 = rg_up (g 138) p1.toInt.toNat (-1) := funext fun i => by by_cases e9 : i = p1.toInt.toNat; (rw [e9, rg_up_s, gs_self]; omega); (rw [rg_up_n e9, gs_j _ _ _ _ e9]; exact hq0 i e9)
                  have hw8 := hw9 () (by omega)
                  refine lv_aload_n hx hb dX9_chooses_249 rfl (lv_at hl 2 rfl) ?_
                  refine lv_iload_n hx hb dX9_chooses_250 rfl (lv_at hl 3 rfl) ?_
                  refine ty_iconst hx hb (1) dX9_chooses_251 (by decide) (fun x363 h364 => ?_)
                  refine ty_iadd hx hb dX9_chooses_252 (fun x365 h366 => ?_)
                  try have h367 : x365.toInt = p1.toInt + x363.toInt := ty_add h366 (by omega) (by omega)
                  refine lv_iload_n hx hb dX9_chooses_253 rfl (lv_at hl 4 rfl) ?_
                  refine lv_iload_n hx hb dX9_chooses_254 rfl (lv_at hl 5 rfl) ?_
                  refine lv_aload_n hx hb dX9_chooses_255 rfl (lv_at hl 2 rfl) ?_
                  refine get_X9_31 hx hb hA hown hE hG t_h0 wd_4_161 dX9_chooses_256 (fun b368 (t_b368 : ty Γ b368 131) => ?_)
                  refine lv_aload_n hx hb dX9_chooses_259 rfl (lv_at hl 2 rfl) ?_
                  refine get_X9_36 hx hb hA hown hE hG t_h0 wd_4_166 dX9_chooses_260 (fun b369 (t_b369 : ty Γ b369 136) => ?_)
                  refine lv_iload_n hx hb dX9_chooses_263 rfl (lv_at hl 3 rfl) ?_
                  refine ald_mI hx hb hE hG 36 rfl (n := 9) rfl (lo := 0) (hi := 199) rfl rfl t_b369 (by omega) dX9_chooses_264 (fun j371 x370 h372 h373 h374 => ?_)
                  obtain rfl : j371 = p1.toInt.toNat := by omega
                  rw [gs_c _ _ _ _ (by decide)] at h373
                  replace h373 : x370.toInt = g343 136 p1.toInt.toNat := h373
                  have hk375 : g343 136 p1.toInt.toNat = g 136 p1.toInt.toNat := hf344 136 p1.toInt.toNat (by decide) (by decide) (by decide) (by decide) (by decide)
                  refine ald_mI hx hb hE hG 31 rfl (n := 200) rfl (lo := -2147483648) (hi := 2147483647) rfl rfl t_b368 (by omega) dX9_chooses_265 (fun j377 x376 h378 h379 h380 => ?_)
                  clear h380
                  obtain rfl : j377 = x370.toInt.toNat := by omega
                  rw [gs_c _ _ _ _ (by decide)] at h379
                  replace h379 : x376.toInt = g343 131 x370.toInt.toNat := h379
                  replace h379 : x376.toInt = g343 131 ((g 136 p1.toInt.toNat).toNat) := by rw [h379, show x370.toInt.toNat = ((g 136 p1.toInt.toNat).toNat) by omega]
                  have hk381 : g343 131 ((g 136 p1.toInt.toNat).toNat) = g 131 ((g 136 p1.toInt.toNat).toNat) := hf344 131 ((g 136 p1.toInt.toNat).toNat) (by decide) (by decide) (by decide) (by decide) (by decide)
                  refine ty_iadd hx hb dX9_chooses_266 (fun x382 h383 => ?_)
                  try have h384 : x382.toInt = p3.toInt + x376.toInt := ty_add h383 (by omega) (by omega)
                  refine lv_iload hx hb dX9_chooses_267 (lv_at hl 6 rfl) ?_
                  have e385 : (gs g343 138 p1.toInt.toNat x351.toInt) 137 0 = g343 137 0 := by rw [gs_c _ _ _ _ (by decide)]
                  have e386 : (gs g343 138 p1.toInt.toNat x351.toInt) 137 0 = g343 137 0 := by rw [gs_c _ _ _ _ (by decide)]
                  have e387 : (gs g343 138 p1.toInt.toNat x351.toInt) 137 0 = g343 137 0 := by rw [gs_c _ _ _ _ (by decide)]
                  have e388 : (gs g343 138 p1.toInt.toNat x351.toInt) 137 0 = g343 137 0 := by rw [gs_c _ _ _ _ (by decide)]
                  refine cV (va_runV (C := RX9) (As := [.int x365, .int p2, .int x382, .int p4]) (rest := []) ⟨hx, hb, hml, hown, hA⟩ (IH l dC dI dA sz X Γ hU (gs g343 138 p1.toInt.toNat x351.toInt) h0 t_h0 x365 p2 x382 p4   (by omega) (by rw [h137, show x365.toInt.toNat = p1.toInt.toNat + 1 by omega]; exact hC2) (by rw [h137]; exact BG_cg (by rw [gs_c _ _ _ _ (by decide)]) (fun i => by rw [gs_c _ _ _ _ (by decide)]) hq2) (by rw [h143]; exact hL) (by rw [h137, h143, hr131, hr136, hr135, hr128, hr129, hr102, hr103, show x365.toInt.toNat = p1.toInt.toNat + 1 by omega] <;> exact CP_none hP hu9 (show x382.toInt = p3.toInt + g 131 (g 136 p1.toInt.toNat).toNat by omega))) ⟨callB_of 4 hA (al_A wd_5_152) rfl rfl rfl (hA _ wd_1_7) (hA _ wd_5_149) (by decide +kernel) ⟨Nat.add_le_add_left (by decide) F, show 8 + (8 + 11) + L ≤ L + 100 by omega⟩, hA _ wd_5_151, hA _ ws_49⟩ ⟨bl, recv_X9 hE hG t_h0, fun U hU9 hW9 => ⟨rfl, by rw [hU9]; exact hG, hE.go hS hU9 hW9⟩⟩ rfl rfl hl.1 rfl (lv_room (Nat.le_of_ble_eq_true rfl)) dX9_chooses_269 ⟨Nat.zero_le _, Nat.zero_le _⟩) hS (fun u389 H locs w390 hG hS => ?_)
                  obtain ⟨hf396, hq391, hq392, hq393, hq394, hq395⟩ := w390
                  refine lv_aload_n hx hb dX9_chooses_272 rfl (lv_at hl 2 rfl) ?_
                  refine get_X9_38 hx hb hA hown hE hG t_h0 wd_4_168 dX9_chooses_273 (fun b397 (t_b397 : ty Γ b397 138) => ?_)
                  refine lv_iload_n hx hb dX9_chooses_276 rfl (lv_at hl 3 rfl) ?_
                  refine ty_bipush hx hb (-2) dX9_chooses_277 (by decide) (fun x398 h399 => ?_)
                  refine ast_mI hx hb hE hG hS hU 38 rfl (n := 9) rfl (lo := -2) (hi := 8) rfl rfl rfl t_b397 (by omega) (by omega) dX9_chooses_279 (fun H locs hG hS => ?_)
                  exact W.vret hx hb hr (fun t ht hW => ⟨⟨(gs u389 138 p1.toInt.toNat x398.toInt), rfl, ⟨(fun c j h138 h139 h140 h141 h142 => by rw [gs_c _ _ _ _ h138, hf396 c j h138 h139 h140 h141 h142, gs_c _ _ _ _ h138, hf344 c j h138 h139 h140 h141 h142]), (fun i => by by_cases hi : i = p1.toInt.toNat; (rw [hi, gs_self, hC.2.1 p1.toInt.toNat (by omega) (by omega)]; omega); (rw [gs_j _ _ _ _ hi]; rw [hq391 i, gs_j _ _ _ _ hi]; exact hq0 i hi)), (fun i => by rw [gs_c _ _ _ _ (by decide), hq392 i, gs_c _ _ _ _ (by decide)]; exact hq1 i), (BG_cg (by rw [gs_c _ _ _ _ (by decide)]) (fun i => by rw [gs_c _ _ _ _ (by decide)]) (by have h9 := hq393; rw [h137] at h9; exact h9)), (fun h => by rw [gs_c _ _ _ _ (by decide)]; exact hq394 (h.elim (fun h9 => Or.inl (by rw [gs_c _ _ _ _ (by decide)]; exact hq3 h9)) (fun h9 => Or.inr (fun j hj => by rw [h137] at hj; rw [gs_c _ _ _ _ (by decide)]; rw [hq1 j]; exact h9 j hj)))), (by rw [show (gs u389 138 p1.toInt.toNat x398.toInt) 141 0 = u389 141 0 by rw [gs_c _ _ _ _ (by decide)], show (gs u389 138 p1.toInt.toNat x398.toInt) 142 0 = u389 142 0 by rw [gs_c _ _ _ _ (by decide)], show (gs u389 138 p1.toInt.toNat x398.toInt) 139 = u389 139 from funext fun j => by rw [gs_c _ _ _ _ (by decide)]]; exact ch_end (by omega) (by omega) (j := v6_97.toInt) (by omega) hq4 (by have h9 := hq395; rw [h137, h143, hr131, hr136, hr135, hr128, hr129, hr102, hr103, hr141, hr142, hr139, hu9, show x365.toInt.toNat = p1.toInt.toNat + 1 by omega] at h9; exact h9))⟩, ok1 ht hG⟩, hS.F ht⟩) hS.2.2 dX9_chooses_280
              · skip
                refine lv_iload hx hb dX9_chooses_106 (lv_at hl 0 rfl) ?_
                refine lv_iload_n hx hb dX9_chooses_108 rfl (lv_at hl 3 rfl) ?_
                refine ty_icmp_eq (tgt := 163) hx hb dX9_chooses_109 (by decide) (fun c400 => ?_) (fun c400 => ?_)
                · skip
                  refine ty_iconst hx hb (0) dX9_chooses_163 (by decide) (fun x401 h402 => ?_)
                  refine lv_istore (lv' := [(7, .int x401), (6, .int v6_97), (5, .int x7), (0, .ref h0), (1, .int p1), (2, .int p2), (3, .int p3), (4, .int p4)]) hx hb dX9_chooses_164 hl (by decide) rfl (fun ls hl => ?_)
                  refine lv_iload hx hb dX9_chooses_166 (lv_at hl 0 rfl) ?_
                  refine ty_if_ne (tgt := 174) hx hb dX9_chooses_168 (by decide) (fun c403 => ?_) (fun c403 => ?_)
                  · exfalso; omega
                  · skip
                    refine lv_goto (tgt := 227) hx hb dX9_chooses_171 (by decide) ?_
                    obtain ⟨x404, h405⟩ : ∃ y : Int32, y = v6_97 + Int32.ofInt (1) := ⟨_, rfl⟩
                    try have h406 : x404.toInt = v6_97.toInt + (1) := ty_inc h405 (by decide) (by omega) (by omega)
                    refine lv_iinc (v := x404) (lv' := [(6, .int x404), (7, .int x401), (5, .int x7), (0, .ref h0), (1, .int p1), (2, .int p2), (3, .int p3), (4, .int p4)]) hx hb dX9_chooses_227 hl (k := 1) rfl h405.symm (by decide) rfl (fun ls hl => ?_)
                    refine lv_goto (tgt := 97) hx hb dX9_chooses_230 (by decide) ?_
                    exact ih_97 x404 g343 _ _ ls (by omega) (by omega) (fun c j h138 h139 h140 h141 h142 => by rw [hf344 c j h138 h139 h140 h141 h142]) (hq0) (hq1) (hq2) (hq3) (by exact ch_no hq4 (by omega) (by omega) (no_self (by omega) (fun i h => h.1 rfl) (by omega))) hG hS (lv_sub hl [0, 2, 3, 4, 5, 6, 7] rfl)
                · skip
                  refine lv_aload_n hx hb dX9_chooses_112 rfl (lv_at hl 2 rfl) ?_
                  refine get_X9_40 hx hb hA hown hE hG t_h0 wd_4_170 dX9_chooses_113 (fun b407 (t_b407 : ty Γ b407 140) => ?_)
                  refine lv_iload hx hb dX9_chooses_116 (lv_at hl 0 rfl) ?_
                  refine ald_mZ hx hb hE hG 40 rfl (n := 9) rfl (lo := 0) (hi := 1) rfl rfl t_b407 (by omega) dX9_chooses_118 (fun j409 x408 h410 h411 h412 => ?_)
                  obtain rfl : j409 = v6_97.toInt.toNat := by omega
                  replace h411 : x408.toInt = g343 140 v6_97.toInt.toNat := h411
                  refine ty_if_ne (tgt := 163) hx hb dX9_chooses_119 (by decide) (fun c413 => ?_) (fun c413 => ?_)
                  · skip
                    refine ty_iconst hx hb (0) dX9_chooses_163 (by decide) (fun x414 h415 => ?_)
                    refine lv_istore (lv' := [(7, .int x414), (6, .int v6_97), (5, .int x7), (0, .ref h0), (1, .int p1), (2, .int p2), (3, .int p3), (4, .int p4)]) hx hb dX9_chooses_164 hl (by decide) rfl (fun ls hl => ?_)
                    refine lv_iload hx hb dX9_chooses_166 (lv_at hl 0 rfl) ?_
                    refine ty_if_ne (tgt := 174) hx hb dX9_chooses_168 (by decide) (fun c416 => ?_) (fun c416 => ?_)
                    · exfalso; omega
                    · skip
                      refine lv_goto (tgt := 227) hx hb dX9_chooses_171 (by decide) ?_
                      obtain ⟨x417, h418⟩ : ∃ y : Int32, y = v6_97 + Int32.ofInt (1) := ⟨_, rfl⟩
                      try have h419 : x417.toInt = v6_97.toInt + (1) := ty_inc h418 (by decide) (by omega) (by omega)
                      refine lv_iinc (v := x417) (lv' := [(6, .int x417), (7, .int x414), (5, .int x7), (0, .ref h0), (1, .int p1), (2, .int p2), (3, .int p3), (4, .int p4)]) hx hb dX9_chooses_227 hl (k := 1) rfl h418.symm (by decide) rfl (fun ls hl => ?_)
                      refine lv_goto (tgt := 97) hx hb dX9_chooses_230 (by decide) ?_
                      exact ih_97 x417 g343 _ _ ls (by omega) (by omega) (fun c j h138 h139 h140 h141 h142 => by rw [hf344 c j h138 h139 h140 h141 h142]) (hq0) (hq1) (hq2) (hq3) (by exact ch_no hq4 (by omega) (by omega) (no_got hC (by omega) (J := v6_97.toInt.toNat) (by omega) (by omega) (by have := hq1 v6_97.toInt.toNat; omega))) hG hS (lv_sub hl [0, 2, 3, 4, 5, 6, 7] rfl)
                  · skip
                    refine lv_iload hx hb dX9_chooses_122 (lv_at hl 0 rfl) ?_
                    refine lv_iload_n hx hb dX9_chooses_124 rfl (lv_at hl 3 rfl) ?_
                    refine ty_icmp_gt (tgt := 139) hx hb dX9_chooses_125 (by decide) (fun c420 => ?_) (fun c420 => ?_)
                    · skip
                      refine lv_aload_n hx hb dX9_chooses_139 rfl (lv_at hl 2 rfl) ?_
                      refine lv_aload_n hx hb dX9_chooses_140 rfl (lv_at hl 2 rfl) ?_
                      refine get_X9_36 hx hb hA hown hE hG t_h0 wd_4_166 dX9_chooses_141 (fun b421 (t_b421 : ty Γ b421 136) => ?_)
                      refine lv_iload hx hb dX9_chooses_144 (lv_at hl 0 rfl) ?_
                      refine ald_mI hx hb hE hG 36 rfl (n := 9) rfl (lo := 0) (hi := 199) rfl rfl t_b421 (by omega) dX9_chooses_146 (fun j423 x422 h424 h425 h426 => ?_)
                      obtain rfl : j423 = v6_97.toInt.toNat := by omega
                      replace h425 : x422.toInt = g343 136 v6_97.toInt.toNat := h425
                      have hk427 : g343 136 v6_97.toInt.toNat = g 136 v6_97.toInt.toNat := hf344 136 v6_97.toInt.toNat (by decide) (by decide) (by decide) (by decide) (by decide)
                      refine lv_aload_n hx hb dX9_chooses_147 rfl (lv_at hl 2 rfl) ?_
                      refine get_X9_36 hx hb hA hown hE hG t_h0 wd_4_166 dX9_chooses_148 (fun b428 (t_b428 : ty Γ b428 136) => ?_)
                      refine lv_iload_n hx hb dX9_chooses_151 rfl (lv_at hl 3 rfl) ?_
                      refine ald_mI hx hb hE hG 36 rfl (n := 9) rfl (lo := 0) (hi := 199) rfl rfl t_b428 (by omega) dX9_chooses_152 (fun j430 x429 h431 h432 h433 => ?_)
                      obtain rfl : j430 = p1.toInt.toNat := by omega
                      replace h432 : x429.toInt = g343 136 p1.toInt.toNat := h432
                      have hk434 : g343 136 p1.toInt.toNat = g 136 p1.toInt.toNat := hf344 136 p1.toInt.toNat (by decide) (by decide) (by decide) (by decide) (by decide)
                      refine cI (va_runV (C := RX9) (As := [.int x422, .int x429]) (rest := []) ⟨hx, hb, hml, hown, hA⟩ (k_X9_meets l dC dI dA sz X Γ hU g343 h0 t_h0 x422 x429   (by omega)) ⟨callB_of 2 hA (al_A wd_5_156) rfl rfl rfl (hA _ wd_1_7) (hA _ wd_5_153) (by decide +kernel) ⟨Nat.le_trans (Nat.le_of_ble_eq_true rfl) (Nat.le_add_left 3 F), Nat.le_trans (Nat.le_of_ble_eq_true rfl) (Nat.le_add_left 100 L)⟩, hA _ wd_5_155, hA _ ws_50⟩ ⟨bl, recv_X9 hE hG t_h0, fun U hU9 hW9 => ⟨rfl, by rw [hU9]; exact hG, hE.go hS hU9 hW9⟩⟩ rfl rfl hl.1 rfl (lv_room (Nat.le_of_ble_eq_true rfl)) dX9_chooses_153 ⟨Nat.zero_le _, Nat.zero_le _⟩) hS (fun x437 u435 H locs w436 hG hS => ?_)
                      obtain ⟨eu438, w436⟩ := w436
                      rw [eu438] at hG
                      rw [show g343 135 = (g 135) by rw [(show g343 135 = g 135 from funext fun j => hf344 135 j (by decide) (by decide) (by decide) (by decide) (by decide))]] at w436
                      rw [show g343 102 = (g 102) by rw [(show g343 102 = g 102 from funext fun j => hf344 102 j (by decide) (by decide) (by decide) (by decide) (by decide))]] at w436
                      rw [show g343 128 = (g 128) by rw [(show g343 128 = g 128 from funext fun j => hf344 128 j (by decide) (by decide) (by decide) (by decide) (by decide))]] at w436
                      rw [show g343 103 = (g 103) by rw [(show g343 103 = g 103 from funext fun j => hf344 103 j (by decide) (by decide) (by decide) (by decide) (by decide))]] at w436
                      rw [show g343 129 = (g 129) by rw [(show g343 129 = g 129 from funext fun j => hf344 129 j (by decide) (by decide) (by decide) (by decide) (by decide))]] at w436
                      have hxa9 : g343 136 v6_97.toInt.toNat = g 136 v6_97.toInt.toNat := by rw [hf344 136 v6_97.toInt.toNat (by decide) (by decide) (by decide) (by decide) (by decide)]
                      have hxb9 : g343 136 p1.toInt.toNat = g 136 p1.toInt.toNat := by rw [hf344 136 p1.toInt.toNat (by decide) (by decide) (by decide) (by decide) (by decide)]
                      rw [show x422.toInt.toNat = (g 136 v6_97.toInt.toNat).toNat by omega, show x429.toInt.toNat = (g 136 p1.toInt.toNat).toNat by omega] at w436
                      have hmm9 := w436.2
                      refine ty_if_eq (tgt := 163) hx hb dX9_chooses_156 (by decide) (fun c439 => ?_) (fun c439 => ?_)
                      · skip
                        refine ty_iconst hx hb (0) dX9_chooses_163 (by decide) (fun x440 h441 => ?_)
                        refine lv_istore (lv' := [(7, .int x440), (6, .int v6_97), (5, .int x7), (0, .ref h0), (1, .int p1), (2, .int p2), (3, .int p3), (4, .int p4)]) hx hb dX9_chooses_164 hl (by decide) rfl (fun ls hl => ?_)
                        refine lv_iload hx hb dX9_chooses_166 (lv_at hl 0 rfl) ?_
                        refine ty_if_ne (tgt := 174) hx hb dX9_chooses_168 (by decide) (fun c442 => ?_) (fun c442 => ?_)
                        · exfalso; omega
                        · skip
                          refine lv_goto (tgt := 227) hx hb dX9_chooses_171 (by decide) ?_
                          obtain ⟨x443, h444⟩ : ∃ y : Int32, y = v6_97 + Int32.ofInt (1) := ⟨_, rfl⟩
                          try have h445 : x443.toInt = v6_97.toInt + (1) := ty_inc h444 (by decide) (by omega) (by omega)
                          refine lv_iinc (v := x443) (lv' := [(6, .int x443), (7, .int x440), (5, .int x7), (0, .ref h0), (1, .int p1), (2, .int p2), (3, .int p3), (4, .int p4)]) hx hb dX9_chooses_227 hl (k := 1) rfl h444.symm (by decide) rfl (fun ls hl => ?_)
                          refine lv_goto (tgt := 97) hx hb dX9_chooses_230 (by decide) ?_
                          exact ih_97 x443 g343 _ _ ls (by omega) (by omega) (fun c j h138 h139 h140 h141 h142 => by rw [hf344 c j h138 h139 h140 h141 h142]) (hq0) (hq1) (hq2) (hq3) (by exact ch_no hq4 (by omega) (by omega) (no_meet (by omega) (J := v6_97.toInt.toNat) (by omega) (fun h => h.2 (by rw [← hmm9]; omega)))) hG hS (lv_sub hl [0, 2, 3, 4, 5, 6, 7] rfl)
                      · skip
                        refine ty_iconst hx hb (1) dX9_chooses_159 (by decide) (fun x446 h447 => ?_)
                        refine lv_goto (tgt := 164) hx hb dX9_chooses_160 (by decide) ?_
                        refine lv_istore (lv' := [(7, .int x446), (6, .int v6_97), (5, .int x7), (0, .ref h0), (1, .int p1), (2, .int p2), (3, .int p3), (4, .int p4)]) hx hb dX9_chooses_164 hl (by decide) rfl (fun ls hl => ?_)
                        refine lv_iload hx hb dX9_chooses_166 (lv_at hl 0 rfl) ?_
                        refine ty_if_ne (tgt := 174) hx hb dX9_chooses_168 (by decide) (fun c448 => ?_) (fun c448 => ?_)
                        · skip
                          refine lv_aload_n hx hb dX9_chooses_174 rfl (lv_at hl 3 rfl) ?_
                          refine get_X9_38 hx hb hA hown hE hG t_h0 wd_4_168 dX9_chooses_175 (fun b449 (t_b449 : ty Γ b449 138) => ?_)
                          refine lv_iload_n hx hb dX9_chooses_178 rfl (lv_at hl 4 rfl) ?_
                          refine lv_iload hx hb dX9_chooses_179 (lv_at hl 1 rfl) ?_
                          refine ast_mI hx hb hE hG hS hU 38 rfl (n := 9) rfl (lo := -2) (hi := 8) rfl rfl rfl t_b449 (by omega) (by omega) dX9_chooses_181 (fun H locs hG hS => ?_)
                          refine lv_aload_n hx hb dX9_chooses_182 rfl (lv_at hl 3 rfl) ?_
                          refine get_X9_40 hx hb hA hown hE hG t_h0 wd_4_170 dX9_chooses_183 (fun b450 (t_b450 : ty Γ b450 140) => ?_)
                          refine lv_iload hx hb dX9_chooses_186 (lv_at hl 1 rfl) ?_
                          refine ty_iconst hx hb (1) dX9_chooses_188 (by decide) (fun x451 h452 => ?_)
                          refine ast_mZ hx hb hE hG hS hU 40 rfl (n := 9) rfl (lo := 0) (hi := 1) rfl rfl rfl t_b450 (by omega) (by omega) (by omega) dX9_chooses_189 (fun H locs hG hS => ?_)
                          have hz9 := hq1 v6_97.toInt.toNat
                          have hy9 := hq0 v6_97.toInt.toNat (by omega)
                          have h137 : (gs (gs g343 138 p1.toInt.toNat v6_97.toInt) 140 v6_97.toInt.toNat x451.toInt) 137 0 = g 137 0 := by rw [gs_c _ _ _ _ (by decide), gs_c _ _ _ _ (by decide), hf344 137 0 (by decide) (by decide) (by decide) (by decide) (by decide)]
                          have hC2 : CH (gs (gs g343 138 p1.toInt.toNat v6_97.toInt) 140 v6_97.toInt.toNat x451.toInt) (g 137 0).toNat (p1.toInt.toNat + 1) := CH_get hC (by omega) (J := v6_97.toInt.toNat) (by omega) (by omega) (by omega) (by omega) (by rw [gs_c _ _ _ _ (by decide), gs_self]; omega) (fun i hi => by rw [gs_c _ _ _ _ (by decide), gs_j _ _ _ _ hi]; exact hq0 i hi) (by rw [gs_self]; omega) (fun i hi => by rw [gs_j _ _ _ _ hi, gs_c _ _ _ _ (by decide)]; exact hq1 i)
                          have h143 : (gs (gs g343 138 p1.toInt.toNat v6_97.toInt) 140 v6_97.toInt.toNat x451.toInt) 143 = g 143 := funext fun j => by rw [gs_c _ _ _ _ (by decide), gs_c _ _ _ _ (by decide), hf344 143 j (by decide) (by decide) (by decide) (by decide) (by decide)]
                          have hr131 : (gs (gs g343 138 p1.toInt.toNat v6_97.toInt) 140 v6_97.toInt.toNat x451.toInt) 131 = g 131 := funext fun j => by rw [gs_c _ _ _ _ (by decide), gs_c _ _ _ _ (by decide), hf344 131 j (by decide) (by decide) (by decide) (by decide) (by decide)]
                          have hr136 : (gs (gs g343 138 p1.toInt.toNat v6_97.toInt) 140 v6_97.toInt.toNat x451.toInt) 136 = g 136 := funext fun j => by rw [gs_c _ _ _ _ (by decide), gs_c _ _ _ _ (by decide), hf344 136 j (by decide) (by decide) (by decide) (by decide) (by decide)]
                          have hr135 : (gs (gs g343 138 p1.toInt.toNat v6_97.toInt) 140 v6_97.toInt.toNat x451.toInt) 135 = g 135 := funext fun j => by rw [gs_c _ _ _ _ (by decide), gs_c _ _ _ _ (by decide), hf344 135 j (by decide) (by decide) (by decide) (by decide) (by decide)]
                          have hr128 : (gs (gs g343 138 p1.toInt.toNat v6_97.toInt) 140 v6_97.toInt.toNat x451.toInt) 128 = g 128 := funext fun j => by rw [gs_c _ _ _ _ (by decide), gs_c _ _ _ _ (by decide), hf344 128 j (by decide) (by decide) (by decide) (by decide) (by decide)]
                          have hr129 : (gs (gs g343 138 p1.toInt.toNat v6_97.toInt) 140 v6_97.toInt.toNat x451.toInt) 129 = g 129 := funext fun j => by rw [gs_c _ _ _ _ (by decide), gs_c _ _ _ _ (by decide), hf344 129 j (by decide) (by decide) (by decide) (by decide) (by decide)]
                          have hr102 : (gs (gs g343 138 p1.toInt.toNat v6_97.toInt) 140 v6_97.toInt.toNat x451.toInt) 102 = g 102 := funext fun j => by rw [gs_c _ _ _ _ (by decide), gs_c _ _ _ _ (by decide), hf344 102 j (by decide) (by decide) (by decide) (by decide) (by decide)]
                          have hr103 : (gs (gs g343 138 p1.toInt.toNat v6_97.toInt) 140 v6_97.toInt.toNat x451.toInt) 103 = g 103 := funext fun j => by rw [gs_c _ _ _ _ (by decide), gs_c _ _ _ _ (by decide), hf344 103 j (by decide) (by decide) (by decide) (by decide) (by decide)]
                          have hr139 : (gs (gs g343 138 p1.toInt.toNat v6_97.toInt) 140 v6_97.toInt.toNat x451.toInt) 139 = g343 139 := funext fun j => by rw [gs_c _ _ _ _ (by decide), gs_c _ _ _ _ (by decide)]
                          have hr141 : (gs (gs g343 138 p1.toInt.toNat v6_97.toInt) 140 v6_97.toInt.toNat x451.toInt) 141 = g343 141 := funext fun j => by rw [gs_c _ _ _ _ (by decide), gs_c _ _ _ _ (by decide)]
                          have hr142 : (gs (gs g343 138 p1.toInt.toNat v6_97.toInt) 140 v6_97.toInt.toNat x451.toInt) 142 = g343 142 := funext fun j => by rw [gs_c _ _ _ _ (by decide), gs_c _ _ _ _ (by decide)]
                          have hu9 : (gs (gs g343 138 p1.toInt.toNat v6_97.toInt) 140 v6_97.toInt.toNat x451.toInt) 138 = rg_up (g 138) p1.toInt.toNat ((v6_97.toInt.toNat : Nat) : Int) := funext fun i => by by_cases e9 : i = p1.toInt.toNat; (rw [e9, rg_up_s, gs_c _ _ _ _ (by decide), gs_self]; omega); (rw [rg_up_n e9, gs_c _ _ _ _ (by decide), gs_j _ _ _ _ e9]; exact hq0 i e9)
                          have hsu9 : (su_w (g 135) (g 128) (g 129) (g 102) (g 103) (g 136)) p1.toInt.toNat v6_97.toInt.toNat := ⟨by omega, by rw [← hmm9]; omega⟩
                          have hfk9 := hC.2.1 p1.toInt.toNat (by omega) (by omega)
                          refine lv_aload_n hx hb dX9_chooses_190 rfl (lv_at hl 3 rfl) ?_
                          refine lv_iload_n hx hb dX9_chooses_191 rfl (lv_at hl 4 rfl) ?_
                          have e453 : (gs (gs g343 138 p1.toInt.toNat v6_97.toInt) 140 v6_97.toInt.toNat x451.toInt) 137 0 = g343 137 0 := by rw [gs_c _ _ _ _ (by decide), gs_c _ _ _ _ (by decide)]
                          have e454 : (gs (gs g343 138 p1.toInt.toNat v6_97.toInt) 140 v6_97.toInt.toNat x451.toInt) 137 0 = g343 137 0 := by rw [gs_c _ _ _ _ (by decide), gs_c _ _ _ _ (by decide)]
                          refine cI (va_runV (C := RX9) (As := [.int p1]) (rest := []) ⟨hx, hb, hml, hown, hA⟩ (k_X9_isShort l dC dI dA sz X Γ hU (gs (gs g343 138 p1.toInt.toNat v6_97.toInt) 140 v6_97.toInt.toNat x451.toInt) h0 t_h0 p1   (by omega) (by rw [h137]; exact hC2)) ⟨callB_of 1 hA (al_A wd_5_160) rfl rfl rfl (hA _ wd_1_7) (hA _ wd_5_157) (by decide +kernel) ⟨Nat.le_trans (Nat.le_of_ble_eq_true rfl) (Nat.le_add_left 3 F), Nat.le_trans (Nat.le_of_ble_eq_true rfl) (Nat.le_add_left 100 L)⟩, hA _ wd_5_159, hA _ ws_51⟩ ⟨bl, recv_X9 hE hG t_h0, fun U hU9 hW9 => ⟨rfl, by rw [hU9]; exact hG, hE.go hS hU9 hW9⟩⟩ rfl rfl hl.1 rfl (lv_room (Nat.le_of_ble_eq_true rfl)) dX9_chooses_192 ⟨Nat.zero_le _, Nat.zero_le _⟩) hS (fun x457 u455 H locs w456 hG hS => ?_)
                          obtain ⟨eu459, w456, hq458⟩ := w456
                          rw [eu459] at hG
                          obtain ⟨n9, hE9, hn9⟩ := hq458
                          rw [h137] at hE9
                          rw [h143] at hn9
                          have hnA : Unit → x457.toInt = 1 → n9 ≤ (g 143 0).toNat := fun _ h => by have h9 := hn9.mp h; clear hn9; omega
                          have hnB : Unit → x457.toInt ≠ 1 → (g 143 0).toNat < n9 := fun _ h => by have h9 : ¬ ((n9 : Int) ≤ g 143 0) := fun q => h (hn9.mpr q); clear hn9; omega
                          clear hn9
                          refine ty_if_eq (tgt := 219) hx hb dX9_chooses_195 (by decide) (fun c460 => ?_) (fun c460 => ?_)
                          · skip
                            refine lv_aload_n hx hb dX9_chooses_219 rfl (lv_at hl 3 rfl) ?_
                            refine get_X9_40 hx hb hA hown hE hG t_h0 wd_4_170 dX9_chooses_220 (fun b461 (t_b461 : ty Γ b461 140) => ?_)
                            refine lv_iload hx hb dX9_chooses_223 (lv_at hl 1 rfl) ?_
                            refine ty_iconst hx hb (0) dX9_chooses_225 (by decide) (fun x462 h463 => ?_)
                            refine ast_mZ hx hb hE hG hS hU 40 rfl (n := 9) rfl (lo := 0) (hi := 1) rfl rfl rfl t_b461 (by omega) (by omega) (by omega) dX9_chooses_226 (fun H locs hG hS => ?_)
                            obtain ⟨x464, h465⟩ : ∃ y : Int32, y = v6_97 + Int32.ofInt (1) := ⟨_, rfl⟩
                            try have h466 : x464.toInt = v6_97.toInt + (1) := ty_inc h465 (by decide) (by omega) (by omega)
                            refine lv_iinc (v := x464) (lv' := [(6, .int x464), (7, .int x446), (5, .int x7), (0, .ref h0), (1, .int p1), (2, .int p2), (3, .int p3), (4, .int p4)]) hx hb dX9_chooses_227 hl (k := 1) rfl h465.symm (by decide) rfl (fun ls hl => ?_)
                            refine lv_goto (tgt := 97) hx hb dX9_chooses_230 (by decide) ?_
                            have e467 : (gs (gs (gs g343 138 p1.toInt.toNat v6_97.toInt) 140 v6_97.toInt.toNat x451.toInt) 140 v6_97.toInt.toNat x462.toInt) 137 0 = g343 137 0 := by rw [gs_c _ _ _ _ (by decide), gs_c _ _ _ _ (by decide), gs_c _ _ _ _ (by decide)]
                            exact ih_97 x464 (gs (gs (gs g343 138 p1.toInt.toNat v6_97.toInt) 140 v6_97.toInt.toNat x451.toInt) 140 v6_97.toInt.toNat x462.toInt) _ _ ls (by omega) (by omega) (fun c j h138 h139 h140 h141 h142 => by rw [gs_c _ _ _ _ h140, gs_c _ _ _ _ h140, gs_c _ _ _ _ h138, hf344 c j h138 h139 h140 h141 h142]) (fun i hi => by rw [gs_c _ _ _ _ (by decide), gs_c _ _ _ _ (by decide), gs_j _ _ _ _ hi]; exact hq0 i hi) (fun i => by by_cases hi : i = v6_97.toInt.toNat; (rw [hi, gs_self, ← hq1 v6_97.toInt.toNat]; omega); (rw [gs_j _ _ _ _ hi]; rw [gs_j _ _ _ _ hi, gs_c _ _ _ _ (by decide)]; exact hq1 i)) (BG_cg (by rw [gs_c _ _ _ _ (by decide), gs_c _ _ _ _ (by decide), gs_c _ _ _ _ (by decide)]) (fun i => by rw [gs_c _ _ _ _ (by decide), gs_c _ _ _ _ (by decide), gs_c _ _ _ _ (by decide)]) hq2) (fun h => by rw [gs_c _ _ _ _ (by decide), gs_c _ _ _ _ (by decide), gs_c _ _ _ _ (by decide)]; exact hq3 h) (by rw [show (gs (gs (gs g343 138 p1.toInt.toNat v6_97.toInt) 140 v6_97.toInt.toNat x451.toInt) 140 v6_97.toInt.toNat x462.toInt) 141 0 = g343 141 0 by rw [gs_c _ _ _ _ (by decide), gs_c _ _ _ _ (by decide), gs_c _ _ _ _ (by decide)], show (gs (gs (gs g343 138 p1.toInt.toNat v6_97.toInt) 140 v6_97.toInt.toNat x451.toInt) 140 v6_97.toInt.toNat x462.toInt) 142 0 = g343 142 0 by rw [gs_c _ _ _ _ (by decide), gs_c _ _ _ _ (by decide), gs_c _ _ _ _ (by decide)], show (gs (gs (gs g343 138 p1.toInt.toNat v6_97.toInt) 140 v6_97.toInt.toNat x451.toInt) 140 v6_97.toInt.toNat x462.toInt) 139 = g343 139 from funext fun j => by rw [gs_c _ _ _ _ (by decide), gs_c _ _ _ _ (by decide), gs_c _ _ _ _ (by decide)]]; exact ch_no hq4 (by omega) (by omega) (no_short hC (by omega) (by omega) (u := _) (j := v6_97.toInt) (hu9.trans (congrArg (rg_up (g 138) p1.toInt.toNat) (show ((v6_97.toInt.toNat : Nat) : Int) = v6_97.toInt by omega))) hE9 (hnB () (by omega)))) hG hS (lv_sub hl [0, 2, 3, 4, 5, 6, 7] rfl)
                          · skip
                            refine lv_aload_n hx hb dX9_chooses_198 rfl (lv_at hl 3 rfl) ?_
                            refine lv_iload_n hx hb dX9_chooses_199 rfl (lv_at hl 4 rfl) ?_
                            have e468 : (gs (gs g343 138 p1.toInt.toNat v6_97.toInt) 140 v6_97.toInt.toNat x451.toInt) 137 0 = g343 137 0 := by rw [gs_c _ _ _ _ (by decide), gs_c _ _ _ _ (by decide)]
                            have e469 : (gs (gs g343 138 p1.toInt.toNat v6_97.toInt) 140 v6_97.toInt.toNat x451.toInt) 137 0 = g343 137 0 := by rw [gs_c _ _ _ _ (by decide), gs_c _ _ _ _ (by decide)]
                            refine cI (va_runV (C := RX9) (As := [.int p1]) (rest := []) ⟨hx, hb, hml, hown, hA⟩ (k_X9_isEven l dC dI dA sz X Γ hU (gs (gs g343 138 p1.toInt.toNat v6_97.toInt) 140 v6_97.toInt.toNat x451.toInt) h0 t_h0 p1   (by omega) (by rw [h137]; exact hC2) (by rw [h143]; exact hL)) ⟨callB_of 1 hA (al_A wd_5_164) rfl rfl rfl (hA _ wd_1_7) (hA _ wd_5_161) (by decide +kernel) ⟨Nat.le_trans (Nat.le_of_ble_eq_true rfl) (Nat.le_add_left 3 F), Nat.le_trans (Nat.le_of_ble_eq_true rfl) (Nat.le_add_left 100 L)⟩, hA _ wd_5_163, hA _ ws_52⟩ ⟨bl, recv_X9 hE hG t_h0, fun U hU9 hW9 => ⟨rfl, by rw [hU9]; exact hG, hE.go hS hU9 hW9⟩⟩ rfl rfl hl.1 rfl (lv_room (Nat.le_of_ble_eq_true rfl)) dX9_chooses_200 ⟨Nat.zero_le _, Nat.zero_le _⟩) hS (fun x472 u470 H locs w471 hG hS => ?_)
                            obtain ⟨eu474, w471, hq473⟩ := w471
                            rw [eu474] at hG
                            rw [h137, h143] at hq473
                            refine ty_if_eq (tgt := 219) hx hb dX9_chooses_203 (by decide) (fun c475 => ?_) (fun c475 => ?_)
                            · skip
                              refine lv_aload_n hx hb dX9_chooses_219 rfl (lv_at hl 3 rfl) ?_
                              refine get_X9_40 hx hb hA hown hE hG t_h0 wd_4_170 dX9_chooses_220 (fun b476 (t_b476 : ty Γ b476 140) => ?_)
                              refine lv_iload hx hb dX9_chooses_223 (lv_at hl 1 rfl) ?_
                              refine ty_iconst hx hb (0) dX9_chooses_225 (by decide) (fun x477 h478 => ?_)
                              refine ast_mZ hx hb hE hG hS hU 40 rfl (n := 9) rfl (lo := 0) (hi := 1) rfl rfl rfl t_b476 (by omega) (by omega) (by omega) dX9_chooses_226 (fun H locs hG hS => ?_)
                              obtain ⟨x479, h480⟩ : ∃ y : Int32, y = v6_97 + Int32.ofInt (1) := ⟨_, rfl⟩
                              try have h481 : x479.toInt = v6_97.toInt + (1) := ty_inc h480 (by decide) (by omega) (by omega)
                              refine lv_iinc (v := x479) (lv' := [(6, .int x479), (7, .int x446), (5, .int x7), (0, .ref h0), (1, .int p1), (2, .int p2), (3, .int p3), (4, .int p4)]) hx hb dX9_chooses_227 hl (k := 1) rfl h480.symm (by decide) rfl (fun ls hl => ?_)
                              refine lv_goto (tgt := 97) hx hb dX9_chooses_230 (by decide) ?_
                              have e482 : (gs (gs (gs g343 138 p1.toInt.toNat v6_97.toInt) 140 v6_97.toInt.toNat x451.toInt) 140 v6_97.toInt.toNat x477.toInt) 137 0 = g343 137 0 := by rw [gs_c _ _ _ _ (by decide), gs_c _ _ _ _ (by decide), gs_c _ _ _ _ (by decide)]
                              exact ih_97 x479 (gs (gs (gs g343 138 p1.toInt.toNat v6_97.toInt) 140 v6_97.toInt.toNat x451.toInt) 140 v6_97.toInt.toNat x477.toInt) _ _ ls (by omega) (by omega) (fun c j h138 h139 h140 h141 h142 => by rw [gs_c _ _ _ _ h140, gs_c _ _ _ _ h140, gs_c _ _ _ _ h138, hf344 c j h138 h139 h140 h141 h142]) (fun i hi => by rw [gs_c _ _ _ _ (by decide), gs_c _ _ _ _ (by decide), gs_j _ _ _ _ hi]; exact hq0 i hi) (fun i => by by_cases hi : i = v6_97.toInt.toNat; (rw [hi, gs_self, ← hq1 v6_97.toInt.toNat]; omega); (rw [gs_j _ _ _ _ hi]; rw [gs_j _ _ _ _ hi, gs_c _ _ _ _ (by decide)]; exact hq1 i)) (BG_cg (by rw [gs_c _ _ _ _ (by decide), gs_c _ _ _ _ (by decide), gs_c _ _ _ _ (by decide)]) (fun i => by rw [gs_c _ _ _ _ (by decide), gs_c _ _ _ _ (by decide), gs_c _ _ _ _ (by decide)]) hq2) (fun h => by rw [gs_c _ _ _ _ (by decide), gs_c _ _ _ _ (by decide), gs_c _ _ _ _ (by decide)]; exact hq3 h) (by rw [show (gs (gs (gs g343 138 p1.toInt.toNat v6_97.toInt) 140 v6_97.toInt.toNat x451.toInt) 140 v6_97.toInt.toNat x477.toInt) 141 0 = g343 141 0 by rw [gs_c _ _ _ _ (by decide), gs_c _ _ _ _ (by decide), gs_c _ _ _ _ (by decide)], show (gs (gs (gs g343 138 p1.toInt.toNat v6_97.toInt) 140 v6_97.toInt.toNat x451.toInt) 140 v6_97.toInt.toNat x477.toInt) 142 0 = g343 142 0 by rw [gs_c _ _ _ _ (by decide), gs_c _ _ _ _ (by decide), gs_c _ _ _ _ (by decide)], show (gs (gs (gs g343 138 p1.toInt.toNat v6_97.toInt) 140 v6_97.toInt.toNat x451.toInt) 140 v6_97.toInt.toNat x477.toInt) 139 = g343 139 from funext fun j => by rw [gs_c _ _ _ _ (by decide), gs_c _ _ _ _ (by decide), gs_c _ _ _ _ (by decide)]]; exact ch_no hq4 (by omega) (by omega) (no_even hC (u := _) (j := v6_97.toInt) (hu9.trans (congrArg (rg_up (g 138) p1.toInt.toNat) (show ((v6_97.toInt.toNat : Nat) : Int) = v6_97.toInt by omega))) (hq473 () (by omega)))) hG hS (lv_sub hl [0, 2, 3, 4, 5, 6, 7] rfl)
                            · skip
                              refine lv_aload_n hx hb dX9_chooses_206 rfl (lv_at hl 3 rfl) ?_
                              refine lv_iload_n hx hb dX9_chooses_207 rfl (lv_at hl 4 rfl) ?_
                              refine ty_iconst hx hb (1) dX9_chooses_208 (by decide) (fun x483 h484 => ?_)
                              refine ty_iadd hx hb dX9_chooses_209 (fun x485 h486 => ?_)
                              try have h487 : x485.toInt = p1.toInt + x483.toInt := ty_add h486 (by omega) (by omega)
                              refine lv_iload_n hx hb dX9_chooses_210 rfl (lv_at hl 5 rfl) ?_
                              refine ty_iconst hx hb (1) dX9_chooses_211 (by decide) (fun x488 h489 => ?_)
                              refine ty_iadd hx hb dX9_chooses_212 (fun x490 h491 => ?_)
                              try have h492 : x490.toInt = p2.toInt + x488.toInt := ty_add h491 (by omega) (by omega)
                              refine lv_iload_n hx hb dX9_chooses_213 rfl (lv_at hl 6 rfl) ?_
                              refine lv_iload hx hb dX9_chooses_214 (lv_at hl 7 rfl) ?_
                              have e493 : (gs (gs g343 138 p1.toInt.toNat v6_97.toInt) 140 v6_97.toInt.toNat x451.toInt) 137 0 = g343 137 0 := by rw [gs_c _ _ _ _ (by decide), gs_c _ _ _ _ (by decide)]
                              have e494 : (gs (gs g343 138 p1.toInt.toNat v6_97.toInt) 140 v6_97.toInt.toNat x451.toInt) 137 0 = g343 137 0 := by rw [gs_c _ _ _ _ (by decide), gs_c _ _ _ _ (by decide)]
                              have e495 : (gs (gs g343 138 p1.toInt.toNat v6_97.toInt) 140 v6_97.toInt.toNat x451.toInt) 137 0 = g343 137 0 := by rw [gs_c _ _ _ _ (by decide), gs_c _ _ _ _ (by decide)]
                              have e496 : (gs (gs g343 138 p1.toInt.toNat v6_97.toInt) 140 v6_97.toInt.toNat x451.toInt) 137 0 = g343 137 0 := by rw [gs_c _ _ _ _ (by decide), gs_c _ _ _ _ (by decide)]
                              refine cV (va_runV (C := RX9) (As := [.int x485, .int x490, .int p3, .int p4]) (rest := []) ⟨hx, hb, hml, hown, hA⟩ (IH l dC dI dA sz X Γ hU (gs (gs g343 138 p1.toInt.toNat v6_97.toInt) 140 v6_97.toInt.toNat x451.toInt) h0 t_h0 x485 x490 p3 p4   (by omega) (by rw [h137, show x485.toInt.toNat = p1.toInt.toNat + 1 by omega]; exact hC2) (by rw [h137]; exact BG_cg (by rw [gs_c _ _ _ _ (by decide), gs_c _ _ _ _ (by decide)]) (fun i => by rw [gs_c _ _ _ _ (by decide), gs_c _ _ _ _ (by decide)]) hq2) (by rw [h143]; exact hL) (by rw [h137, h143, hr131, hr136, hr135, hr128, hr129, hr102, hr103, show x485.toInt.toNat = p1.toInt.toNat + 1 by omega] <;> exact CP_get hP (by omega) hu9 hsu9 hE9 (hnA () (by omega)) (by omega))) ⟨callB_of 4 hA (al_A wd_5_152) rfl rfl rfl (hA _ wd_1_7) (hA _ wd_5_149) (by decide +kernel) ⟨Nat.add_le_add_left (by decide) F, show 8 + (8 + 11) + L ≤ L + 100 by omega⟩, hA _ wd_5_151, hA _ ws_49⟩ ⟨bl, recv_X9 hE hG t_h0, fun U hU9 hW9 => ⟨rfl, by rw [hU9]; exact hG, hE.go hS hU9 hW9⟩⟩ rfl rfl hl.1 rfl (lv_room (Nat.le_of_ble_eq_true rfl)) dX9_chooses_216 ⟨Nat.zero_le _, Nat.zero_le _⟩) hS (fun u497 H locs w498 hG hS => ?_)
                              obtain ⟨hf504, hq499, hq500, hq501, hq502, hq503⟩ := w498
                              refine lv_aload_n hx hb dX9_chooses_219 rfl (lv_at hl 3 rfl) ?_
                              refine get_X9_40 hx hb hA hown hE hG t_h0 wd_4_170 dX9_chooses_220 (fun b505 (t_b505 : ty Γ b505 140) => ?_)
                              refine lv_iload hx hb dX9_chooses_223 (lv_at hl 1 rfl) ?_
                              refine ty_iconst hx hb (0) dX9_chooses_225 (by decide) (fun x506 h507 => ?_)
                              refine ast_mZ hx hb hE hG hS hU 40 rfl (n := 9) rfl (lo := 0) (hi := 1) rfl rfl rfl t_b505 (by omega) (by omega) (by omega) dX9_chooses_226 (fun H locs hG hS => ?_)
                              obtain ⟨x508, h509⟩ : ∃ y : Int32, y = v6_97 + Int32.ofInt (1) := ⟨_, rfl⟩
                              try have h510 : x508.toInt = v6_97.toInt + (1) := ty_inc h509 (by decide) (by omega) (by omega)
                              refine lv_iinc (v := x508) (lv' := [(6, .int x508), (7, .int x446), (5, .int x7), (0, .ref h0), (1, .int p1), (2, .int p2), (3, .int p3), (4, .int p4)]) hx hb dX9_chooses_227 hl (k := 1) rfl h509.symm (by decide) rfl (fun ls hl => ?_)
                              refine lv_goto (tgt := 97) hx hb dX9_chooses_230 (by decide) ?_
                              have hk511 : u497 137 0 = (gs (gs g343 138 p1.toInt.toNat v6_97.toInt) 140 v6_97.toInt.toNat x451.toInt) 137 0 := hf504 137 0 (by decide) (by decide) (by decide) (by decide) (by decide)
                              replace hk511 : u497 137 0 = g343 137 0 := by rw [hk511, gs_c _ _ _ _ (by decide), gs_c _ _ _ _ (by decide)]
                              have e512 : (gs u497 140 v6_97.toInt.toNat x506.toInt) 137 0 = u497 137 0 := by rw [gs_c _ _ _ _ (by decide)]
                              exact ih_97 x508 (gs u497 140 v6_97.toInt.toNat x506.toInt) _ _ ls (by omega) (by omega) (fun c j h138 h139 h140 h141 h142 => by rw [gs_c _ _ _ _ h140, hf504 c j h138 h139 h140 h141 h142, gs_c _ _ _ _ h140, gs_c _ _ _ _ h138, hf344 c j h138 h139 h140 h141 h142]) (fun i hi => by rw [gs_c _ _ _ _ (by decide), hq499 i, gs_c _ _ _ _ (by decide), gs_j _ _ _ _ hi]; exact hq0 i hi) (fun i => by by_cases hi : i = v6_97.toInt.toNat; (rw [hi, gs_self, ← hq1 v6_97.toInt.toNat]; omega); (rw [gs_j _ _ _ _ hi]; rw [hq500 i, gs_j _ _ _ _ hi, gs_c _ _ _ _ (by decide)]; exact hq1 i)) (BG_cg (by rw [gs_c _ _ _ _ (by decide)]) (fun i => by rw [gs_c _ _ _ _ (by decide)]) (by have h9 := hq501; rw [h137] at h9; exact h9)) (fun h => by rw [gs_c _ _ _ _ (by decide)]; exact hq502 (Or.inl (by rw [gs_c _ _ _ _ (by decide), gs_c _ _ _ _ (by decide)]; exact hq3 h))) (by rw [show (gs u497 140 v6_97.toInt.toNat x506.toInt) 141 0 = u497 141 0 by rw [gs_c _ _ _ _ (by decide)], show (gs u497 140 v6_97.toInt.toNat x506.toInt) 142 0 = u497 142 0 by rw [gs_c _ _ _ _ (by decide)], show (gs u497 140 v6_97.toInt.toNat x506.toInt) 139 = u497 139 from funext fun j => by rw [gs_c _ _ _ _ (by decide)]]; exact ch_rec (by omega) hq4 (by have h9 := hq503; rw [h137, h143, hr131, hr136, hr135, hr128, hr129, hr102, hr103, hr141, hr142, hr139, hu9, show ((v6_97.toInt.toNat : Nat) : Int) = v6_97.toInt by omega, show x485.toInt.toNat = p1.toInt.toNat + 1 by omega] at h9; exact h9) (by omega) (by omega)) hG hS (lv_sub hl [0, 2, 3, 4, 5, 6, 7] rfl)
                        · exfalso; omega
                    · skip
                      refine lv_aload_n hx hb dX9_chooses_128 rfl (lv_at hl 2 rfl) ?_
                      refine get_X9_38 hx hb hA hown hE hG t_h0 wd_4_168 dX9_chooses_129 (fun b513 (t_b513 : ty Γ b513 138) => ?_)
                      refine lv_iload hx hb dX9_chooses_132 (lv_at hl 0 rfl) ?_
                      refine ald_mI hx hb hE hG 38 rfl (n := 9) rfl (lo := -2) (hi := 8) rfl rfl t_b513 (by omega) dX9_chooses_134 (fun j515 x514 h516 h517 h518 => ?_)
                      obtain rfl : j515 = v6_97.toInt.toNat := by omega
                      replace h517 : x514.toInt = g343 138 v6_97.toInt.toNat := h517
                      refine ty_iconst hx hb (-1) dX9_chooses_135 (by decide) (fun x519 h520 => ?_)
                      refine ty_icmp_eq (tgt := 163) hx hb dX9_chooses_136 (by decide) (fun c521 => ?_) (fun c521 => ?_)
                      · skip
                        refine ty_iconst hx hb (0) dX9_chooses_163 (by decide) (fun x522 h523 => ?_)
                        refine lv_istore (lv' := [(7, .int x522), (6, .int v6_97), (5, .int x7), (0, .ref h0), (1, .int p1), (2, .int p2), (3, .int p3), (4, .int p4)]) hx hb dX9_chooses_164 hl (by decide) rfl (fun ls hl => ?_)
                        refine lv_iload hx hb dX9_chooses_166 (lv_at hl 0 rfl) ?_
                        refine ty_if_ne (tgt := 174) hx hb dX9_chooses_168 (by decide) (fun c524 => ?_) (fun c524 => ?_)
                        · exfalso; omega
                        · skip
                          refine lv_goto (tgt := 227) hx hb dX9_chooses_171 (by decide) ?_
                          obtain ⟨x525, h526⟩ : ∃ y : Int32, y = v6_97 + Int32.ofInt (1) := ⟨_, rfl⟩
                          try have h527 : x525.toInt = v6_97.toInt + (1) := ty_inc h526 (by decide) (by omega) (by omega)
                          refine lv_iinc (v := x525) (lv' := [(6, .int x525), (7, .int x522), (5, .int x7), (0, .ref h0), (1, .int p1), (2, .int p2), (3, .int p3), (4, .int p4)]) hx hb dX9_chooses_227 hl (k := 1) rfl h526.symm (by decide) rfl (fun ls hl => ?_)
                          refine lv_goto (tgt := 97) hx hb dX9_chooses_230 (by decide) ?_
                          exact ih_97 x525 g343 _ _ ls (by omega) (by omega) (fun c j h138 h139 h140 h141 h142 => by rw [hf344 c j h138 h139 h140 h141 h142]) (hq0) (hq1) (hq2) (hq3) (by exact ch_no hq4 (by omega) (by omega) (no_none (by omega) (J := v6_97.toInt.toNat) (by omega) (by omega) (by have := hq0 v6_97.toInt.toNat (by omega); omega))) hG hS (lv_sub hl [0, 2, 3, 4, 5, 6, 7] rfl)
                      · skip
                        refine lv_aload_n hx hb dX9_chooses_139 rfl (lv_at hl 2 rfl) ?_
                        refine lv_aload_n hx hb dX9_chooses_140 rfl (lv_at hl 2 rfl) ?_
                        refine get_X9_36 hx hb hA hown hE hG t_h0 wd_4_166 dX9_chooses_141 (fun b528 (t_b528 : ty Γ b528 136) => ?_)
                        refine lv_iload hx hb dX9_chooses_144 (lv_at hl 0 rfl) ?_
                        refine ald_mI hx hb hE hG 36 rfl (n := 9) rfl (lo := 0) (hi := 199) rfl rfl t_b528 (by omega) dX9_chooses_146 (fun j530 x529 h531 h532 h533 => ?_)
                        obtain rfl : j530 = v6_97.toInt.toNat := by omega
                        replace h532 : x529.toInt = g343 136 v6_97.toInt.toNat := h532
                        have hk534 : g343 136 v6_97.toInt.toNat = g 136 v6_97.toInt.toNat := hf344 136 v6_97.toInt.toNat (by decide) (by decide) (by decide) (by decide) (by decide)
                        refine lv_aload_n hx hb dX9_chooses_147 rfl (lv_at hl 2 rfl) ?_
                        refine get_X9_36 hx hb hA hown hE hG t_h0 wd_4_166 dX9_chooses_148 (fun b535 (t_b535 : ty Γ b535 136) => ?_)
                        refine lv_iload_n hx hb dX9_chooses_151 rfl (lv_at hl 3 rfl) ?_
                        refine ald_mI hx hb hE hG 36 rfl (n := 9) rfl (lo := 0) (hi := 199) rfl rfl t_b535 (by omega) dX9_chooses_152 (fun j537 x536 h538 h539 h540 => ?_)
                        obtain rfl : j537 = p1.toInt.toNat := by omega
                        replace h539 : x536.toInt = g343 136 p1.toInt.toNat := h539
                        have hk541 : g343 136 p1.toInt.toNat = g 136 p1.toInt.toNat := hf344 136 p1.toInt.toNat (by decide) (by decide) (by decide) (by decide) (by decide)
                        refine cI (va_runV (C := RX9) (As := [.int x529, .int x536]) (rest := []) ⟨hx, hb, hml, hown, hA⟩ (k_X9_meets l dC dI dA sz X Γ hU g343 h0 t_h0 x529 x536   (by omega)) ⟨callB_of 2 hA (al_A wd_5_156) rfl rfl rfl (hA _ wd_1_7) (hA _ wd_5_153) (by decide +kernel) ⟨Nat.le_trans (Nat.le_of_ble_eq_true rfl) (Nat.le_add_left 3 F), Nat.le_trans (Nat.le_of_ble_eq_true rfl) (Nat.le_add_left 100 L)⟩, hA _ wd_5_155, hA _ ws_50⟩ ⟨bl, recv_X9 hE hG t_h0, fun U hU9 hW9 => ⟨rfl, by rw [hU9]; exact hG, hE.go hS hU9 hW9⟩⟩ rfl rfl hl.1 rfl (lv_room (Nat.le_of_ble_eq_true rfl)) dX9_chooses_153 ⟨Nat.zero_le _, Nat.zero_le _⟩) hS (fun x544 u542 H locs w543 hG hS => ?_)
                        obtain ⟨eu545, w543⟩ := w543
                        rw [eu545] at hG
                        rw [show g343 135 = (g 135) by rw [(show g343 135 = g 135 from funext fun j => hf344 135 j (by decide) (by decide) (by decide) (by decide) (by decide))]] at w543
                        rw [show g343 102 = (g 102) by rw [(show g343 102 = g 102 from funext fun j => hf344 102 j (by decide) (by decide) (by decide) (by decide) (by decide))]] at w543
                        rw [show g343 128 = (g 128) by rw [(show g343 128 = g 128 from funext fun j => hf344 128 j (by decide) (by decide) (by decide) (by decide) (by decide))]] at w543
                        rw [show g343 103 = (g 103) by rw [(show g343 103 = g 103 from funext fun j => hf344 103 j (by decide) (by decide) (by decide) (by decide) (by decide))]] at w543
                        rw [show g343 129 = (g 129) by rw [(show g343 129 = g 129 from funext fun j => hf344 129 j (by decide) (by decide) (by decide) (by decide) (by decide))]] at w543
                        have hxa9 : g343 136 v6_97.toInt.toNat = g 136 v6_97.toInt.toNat := by rw [hf344 136 v6_97.toInt.toNat (by decide) (by decide) (by decide) (by decide) (by decide)]
                        have hxb9 : g343 136 p1.toInt.toNat = g 136 p1.toInt.toNat := by rw [hf344 136 p1.toInt.toNat (by decide) (by decide) (by decide) (by decide) (by decide)]
                        rw [show x529.toInt.toNat = (g 136 v6_97.toInt.toNat).toNat by omega, show x536.toInt.toNat = (g 136 p1.toInt.toNat).toNat by omega] at w543
                        have hmm9 := w543.2
                        refine ty_if_eq (tgt := 163) hx hb dX9_chooses_156 (by decide) (fun c546 => ?_) (fun c546 => ?_)
                        · skip
                          refine ty_iconst hx hb (0) dX9_chooses_163 (by decide) (fun x547 h548 => ?_)
                          refine lv_istore (lv' := [(7, .int x547), (6, .int v6_97), (5, .int x7), (0, .ref h0), (1, .int p1), (2, .int p2), (3, .int p3), (4, .int p4)]) hx hb dX9_chooses_164 hl (by decide) rfl (fun ls hl => ?_)
                          refine lv_iload hx hb dX9_chooses_166 (lv_at hl 0 rfl) ?_
                          refine ty_if_ne (tgt := 174) hx hb dX9_chooses_168 (by decide) (fun c549 => ?_) (fun c549 => ?_)
                          · exfalso; omega
                          · skip
                            refine lv_goto (tgt := 227) hx hb dX9_chooses_171 (by decide) ?_
                            obtain ⟨x550, h551⟩ : ∃ y : Int32, y = v6_97 + Int32.ofInt (1) := ⟨_, rfl⟩
                            try have h552 : x550.toInt = v6_97.toInt + (1) := ty_inc h551 (by decide) (by omega) (by omega)
                            refine lv_iinc (v := x550) (lv' := [(6, .int x550), (7, .int x547), (5, .int x7), (0, .ref h0), (1, .int p1), (2, .int p2), (3, .int p3), (4, .int p4)]) hx hb dX9_chooses_227 hl (k := 1) rfl h551.symm (by decide) rfl (fun ls hl => ?_)
                            refine lv_goto (tgt := 97) hx hb dX9_chooses_230 (by decide) ?_
                            exact ih_97 x550 g343 _ _ ls (by omega) (by omega) (fun c j h138 h139 h140 h141 h142 => by rw [hf344 c j h138 h139 h140 h141 h142]) (hq0) (hq1) (hq2) (hq3) (by exact ch_no hq4 (by omega) (by omega) (no_meet (by omega) (J := v6_97.toInt.toNat) (by omega) (fun h => h.2 (by rw [← hmm9]; omega)))) hG hS (lv_sub hl [0, 2, 3, 4, 5, 6, 7] rfl)
                        · skip
                          refine ty_iconst hx hb (1) dX9_chooses_159 (by decide) (fun x553 h554 => ?_)
                          refine lv_goto (tgt := 164) hx hb dX9_chooses_160 (by decide) ?_
                          refine lv_istore (lv' := [(7, .int x553), (6, .int v6_97), (5, .int x7), (0, .ref h0), (1, .int p1), (2, .int p2), (3, .int p3), (4, .int p4)]) hx hb dX9_chooses_164 hl (by decide) rfl (fun ls hl => ?_)
                          refine lv_iload hx hb dX9_chooses_166 (lv_at hl 0 rfl) ?_
                          refine ty_if_ne (tgt := 174) hx hb dX9_chooses_168 (by decide) (fun c555 => ?_) (fun c555 => ?_)
                          · skip
                            refine lv_aload_n hx hb dX9_chooses_174 rfl (lv_at hl 3 rfl) ?_
                            refine get_X9_38 hx hb hA hown hE hG t_h0 wd_4_168 dX9_chooses_175 (fun b556 (t_b556 : ty Γ b556 138) => ?_)
                            refine lv_iload_n hx hb dX9_chooses_178 rfl (lv_at hl 4 rfl) ?_
                            refine lv_iload hx hb dX9_chooses_179 (lv_at hl 1 rfl) ?_
                            refine ast_mI hx hb hE hG hS hU 38 rfl (n := 9) rfl (lo := -2) (hi := 8) rfl rfl rfl t_b556 (by omega) (by omega) dX9_chooses_181 (fun H locs hG hS => ?_)
                            refine lv_aload_n hx hb dX9_chooses_182 rfl (lv_at hl 3 rfl) ?_
                            refine get_X9_40 hx hb hA hown hE hG t_h0 wd_4_170 dX9_chooses_183 (fun b557 (t_b557 : ty Γ b557 140) => ?_)
                            refine lv_iload hx hb dX9_chooses_186 (lv_at hl 1 rfl) ?_
                            refine ty_iconst hx hb (1) dX9_chooses_188 (by decide) (fun x558 h559 => ?_)
                            refine ast_mZ hx hb hE hG hS hU 40 rfl (n := 9) rfl (lo := 0) (hi := 1) rfl rfl rfl t_b557 (by omega) (by omega) (by omega) dX9_chooses_189 (fun H locs hG hS => ?_)
                            have hz9 := hq1 v6_97.toInt.toNat
                            have hy9 := hq0 v6_97.toInt.toNat (by omega)
                            have h137 : (gs (gs g343 138 p1.toInt.toNat v6_97.toInt) 140 v6_97.toInt.toNat x558.toInt) 137 0 = g 137 0 := by rw [gs_c _ _ _ _ (by decide), gs_c _ _ _ _ (by decide), hf344 137 0 (by decide) (by decide) (by decide) (by decide) (by decide)]
                            have hC2 : CH (gs (gs g343 138 p1.toInt.toNat v6_97.toInt) 140 v6_97.toInt.toNat x558.toInt) (g 137 0).toNat (p1.toInt.toNat + 1) := CH_get hC (by omega) (J := v6_97.toInt.toNat) (by omega) (by omega) (by omega) (by omega) (by rw [gs_c _ _ _ _ (by decide), gs_self]; omega) (fun i hi => by rw [gs_c _ _ _ _ (by decide), gs_j _ _ _ _ hi]; exact hq0 i hi) (by rw [gs_self]; omega) (fun i hi => by rw [gs_j _ _ _ _ hi, gs_c _ _ _ _ (by decide)]; exact hq1 i)
                            have h143 : (gs (gs g343 138 p1.toInt.toNat v6_97.toInt) 140 v6_97.toInt.toNat x558.toInt) 143 = g 143 := funext fun j => by rw [gs_c _ _ _ _ (by decide), gs_c _ _ _ _ (by decide), hf344 143 j (by decide) (by decide) (by decide) (by decide) (by decide)]
                            have hr131 : (gs (gs g343 138 p1.toInt.toNat v6_97.toInt) 140 v6_97.toInt.toNat x558.toInt) 131 = g 131 := funext fun j => by rw [gs_c _ _ _ _ (by decide), gs_c _ _ _ _ (by decide), hf344 131 j (by decide) (by decide) (by decide) (by decide) (by decide)]
                            have hr136 : (gs (gs g343 138 p1.toInt.toNat v6_97.toInt) 140 v6_97.toInt.toNat x558.toInt) 136 = g 136 := funext fun j => by rw [gs_c _ _ _ _ (by decide), gs_c _ _ _ _ (by decide), hf344 136 j (by decide) (by decide) (by decide) (by decide) (by decide)]
                            have hr135 : (gs (gs g343 138 p1.toInt.toNat v6_97.toInt) 140 v6_97.toInt.toNat x558.toInt) 135 = g 135 := funext fun j => by rw [gs_c _ _ _ _ (by decide), gs_c _ _ _ _ (by decide), hf344 135 j (by decide) (by decide) (by decide) (by decide) (by decide)]
                            have hr128 : (gs (gs g343 138 p1.toInt.toNat v6_97.toInt) 140 v6_97.toInt.toNat x558.toInt) 128 = g 128 := funext fun j => by rw [gs_c _ _ _ _ (by decide), gs_c _ _ _ _ (by decide), hf344 128 j (by decide) (by decide) (by decide) (by decide) (by decide)]
                            have hr129 : (gs (gs g343 138 p1.toInt.toNat v6_97.toInt) 140 v6_97.toInt.toNat x558.toInt) 129 = g 129 := funext fun j => by rw [gs_c _ _ _ _ (by decide), gs_c _ _ _ _ (by decide), hf344 129 j (by decide) (by decide) (by decide) (by decide) (by decide)]
                            have hr102 : (gs (gs g343 138 p1.toInt.toNat v6_97.toInt) 140 v6_97.toInt.toNat x558.toInt) 102 = g 102 := funext fun j => by rw [gs_c _ _ _ _ (by decide), gs_c _ _ _ _ (by decide), hf344 102 j (by decide) (by decide) (by decide) (by decide) (by decide)]
                            have hr103 : (gs (gs g343 138 p1.toInt.toNat v6_97.toInt) 140 v6_97.toInt.toNat x558.toInt) 103 = g 103 := funext fun j => by rw [gs_c _ _ _ _ (by decide), gs_c _ _ _ _ (by decide), hf344 103 j (by decide) (by decide) (by decide) (by decide) (by decide)]
                            have hr139 : (gs (gs g343 138 p1.toInt.toNat v6_97.toInt) 140 v6_97.toInt.toNat x558.toInt) 139 = g343 139 := funext fun j => by rw [gs_c _ _ _ _ (by decide), gs_c _ _ _ _ (by decide)]
                            have hr141 : (gs (gs g343 138 p1.toInt.toNat v6_97.toInt) 140 v6_97.toInt.toNat x558.toInt) 141 = g343 141 := funext fun j => by rw [gs_c _ _ _ _ (by decide), gs_c _ _ _ _ (by decide)]
                            have hr142 : (gs (gs g343 138 p1.toInt.toNat v6_97.toInt) 140 v6_97.toInt.toNat x558.toInt) 142 = g343 142 := funext fun j => by rw [gs_c _ _ _ _ (by decide), gs_c _ _ _ _ (by decide)]
                            have hu9 : (gs (gs g343 138 p1.toInt.toNat v6_97.toInt) 140 v6_97.toInt.toNat x558.toInt) 138 = rg_up (g 138) p1.toInt.toNat ((v6_97.toInt.toNat : Nat) : Int) := funext fun i => by by_cases e9 : i = p1.toInt.toNat; (rw [e9, rg_up_s, gs_c _ _ _ _ (by decide), gs_self]; omega); (rw [rg_up_n e9, gs_c _ _ _ _ (by decide), gs_j _ _ _ _ e9]; exact hq0 i e9)
                            have hsu9 : (su_w (g 135) (g 128) (g 129) (g 102) (g 103) (g 136)) p1.toInt.toNat v6_97.toInt.toNat := ⟨by omega, by rw [← hmm9]; omega⟩
                            have hfk9 := hC.2.1 p1.toInt.toNat (by omega) (by omega)
                            refine lv_aload_n hx hb dX9_chooses_190 rfl (lv_at hl 3 rfl) ?_
                            refine lv_iload_n hx hb dX9_chooses_191 rfl (lv_at hl 4 rfl) ?_
                            have e560 : (gs (gs g343 138 p1.toInt.toNat v6_97.toInt) 140 v6_97.toInt.toNat x558.toInt) 137 0 = g343 137 0 := by rw [gs_c _ _ _ _ (by decide), gs_c _ _ _ _ (by decide)]
                            have e561 : (gs (gs g343 138 p1.toInt.toNat v6_97.toInt) 140 v6_97.toInt.toNat x558.toInt) 137 0 = g343 137 0 := by rw [gs_c _ _ _ _ (by decide), gs_c _ _ _ _ (by decide)]
                            refine cI (va_runV (C := RX9) (As := [.int p1]) (rest := []) ⟨hx, hb, hml, hown, hA⟩ (k_X9_isShort l dC dI dA sz X Γ hU (gs (gs g343 138 p1.toInt.toNat v6_97.toInt) 140 v6_97.toInt.toNat x558.toInt) h0 t_h0 p1   (by omega) (by rw [h137]; exact hC2)) ⟨callB_of 1 hA (al_A wd_5_160) rfl rfl rfl (hA _ wd_1_7) (hA _ wd_5_157) (by decide +kernel) ⟨Nat.le_trans (Nat.le_of_ble_eq_true rfl) (Nat.le_add_left 3 F), Nat.le_trans (Nat.le_of_ble_eq_true rfl) (Nat.le_add_left 100 L)⟩, hA _ wd_5_159, hA _ ws_51⟩ ⟨bl, recv_X9 hE hG t_h0, fun U hU9 hW9 => ⟨rfl, by rw [hU9]; exact hG, hE.go hS hU9 hW9⟩⟩ rfl rfl hl.1 rfl (lv_room (Nat.le_of_ble_eq_true rfl)) dX9_chooses_192 ⟨Nat.zero_le _, Nat.zero_le _⟩) hS (fun x564 u562 H locs w563 hG hS => ?_)
                            obtain ⟨eu566, w563, hq565⟩ := w563
                            rw [eu566] at hG
                            obtain ⟨n9, hE9, hn9⟩ := hq565
                            rw [h137] at hE9
                            rw [h143] at hn9
                            have hnA : Unit → x564.toInt = 1 → n9 ≤ (g 143 0).toNat := fun _ h => by have h9 := hn9.mp h; clear hn9; omega
                            have hnB : Unit → x564.toInt ≠ 1 → (g 143 0).toNat < n9 := fun _ h => by have h9 : ¬ ((n9 : Int) ≤ g 143 0) := fun q => h (hn9.mpr q); clear hn9; omega
                            clear hn9
                            refine ty_if_eq (tgt := 219) hx hb dX9_chooses_195 (by decide) (fun c567 => ?_) (fun c567 => ?_)
                            · skip
                              refine lv_aload_n hx hb dX9_chooses_219 rfl (lv_at hl 3 rfl) ?_
                              refine get_X9_40 hx hb hA hown hE hG t_h0 wd_4_170 dX9_chooses_220 (fun b568 (t_b568 : ty Γ b568 140) => ?_)
                              refine lv_iload hx hb dX9_chooses_223 (lv_at hl 1 rfl) ?_
                              refine ty_iconst hx hb (0) dX9_chooses_225 (by decide) (fun x569 h570 => ?_)
                              refine ast_mZ hx hb hE hG hS hU 40 rfl (n := 9) rfl (lo := 0) (hi := 1) rfl rfl rfl t_b568 (by omega) (by omega) (by omega) dX9_chooses_226 (fun H locs hG hS => ?_)
                              obtain ⟨x571, h572⟩ : ∃ y : Int32, y = v6_97 + Int32.ofInt (1) := ⟨_, rfl⟩
                              try have h573 : x571.toInt = v6_97.toInt + (1) := ty_inc h572 (by decide) (by omega) (by omega)
                              refine lv_iinc (v := x571) (lv' := [(6, .int x571), (7, .int x553), (5, .int x7), (0, .ref h0), (1, .int p1), (2, .int p2), (3, .int p3), (4, .int p4)]) hx hb dX9_chooses_227 hl (k := 1) rfl h572.symm (by decide) rfl (fun ls hl => ?_)
                              refine lv_goto (tgt := 97) hx hb dX9_chooses_230 (by decide) ?_
                              have e574 : (gs (gs (gs g343 138 p1.toInt.toNat v6_97.toInt) 140 v6_97.toInt.toNat x558.toInt) 140 v6_97.toInt.toNat x569.toInt) 137 0 = g343 137 0 := by rw [gs_c _ _ _ _ (by decide), gs_c _ _ _ _ (by decide), gs_c _ _ _ _ (by decide)]
                              exact ih_97 x571 (gs (gs (gs g343 138 p1.toInt.toNat v6_97.toInt) 140 v6_97.toInt.toNat x558.toInt) 140 v6_97.toInt.toNat x569.toInt) _ _ ls (by omega) (by omega) (fun c j h138 h139 h140 h141 h142 => by rw [gs_c _ _ _ _ h140, gs_c _ _ _ _ h140, gs_c _ _ _ _ h138, hf344 c j h138 h139 h140 h141 h142]) (fun i hi => by rw [gs_c _ _ _ _ (by decide), gs_c _ _ _ _ (by decide), gs_j _ _ _ _ hi]; exact hq0 i hi) (fun i => by by_cases hi : i = v6_97.toInt.toNat; (rw [hi, gs_self, ← hq1 v6_97.toInt.toNat]; omega); (rw [gs_j _ _ _ _ hi]; rw [gs_j _ _ _ _ hi, gs_c _ _ _ _ (by decide)]; exact hq1 i)) (BG_cg (by rw [gs_c _ _ _ _ (by decide), gs_c _ _ _ _ (by decide), gs_c _ _ _ _ (by decide)]) (fun i => by rw [gs_c _ _ _ _ (by decide), gs_c _ _ _ _ (by decide), gs_c _ _ _ _ (by decide)]) hq2) (fun h => by rw [gs_c _ _ _ _ (by decide), gs_c _ _ _ _ (by decide), gs_c _ _ _ _ (by decide)]; exact hq3 h) (by rw [show (gs (gs (gs g343 138 p1.toInt.toNat v6_97.toInt) 140 v6_97.toInt.toNat x558.toInt) 140 v6_97.toInt.toNat x569.toInt) 141 0 = g343 141 0 by rw [gs_c _ _ _ _ (by decide), gs_c _ _ _ _ (by decide), gs_c _ _ _ _ (by decide)], show (gs (gs (gs g343 138 p1.toInt.toNat v6_97.toInt) 140 v6_97.toInt.toNat x558.toInt) 140 v6_97.toInt.toNat x569.toInt) 142 0 = g343 142 0 by rw [gs_c _ _ _ _ (by decide), gs_c _ _ _ _ (by decide), gs_c _ _ _ _ (by decide)], show (gs (gs (gs g343 138 p1.toInt.toNat v6_97.toInt) 140 v6_97.toInt.toNat x558.toInt) 140 v6_97.toInt.toNat x569.toInt) 139 = g343 139 from funext fun j => by rw [gs_c _ _ _ _ (by decide), gs_c _ _ _ _ (by decide), gs_c _ _ _ _ (by decide)]]; exact ch_no hq4 (by omega) (by omega) (no_short hC (by omega) (by omega) (u := _) (j := v6_97.toInt) (hu9.trans (congrArg (rg_up (g 138) p1.toInt.toNat) (show ((v6_97.toInt.toNat : Nat) : Int) = v6_97.toInt by omega))) hE9 (hnB () (by omega)))) hG hS (lv_sub hl [0, 2, 3, 4, 5, 6, 7] rfl)
                            · skip
                              refine lv_aload_n hx hb dX9_chooses_198 rfl (lv_at hl 3 rfl) ?_
                              refine lv_iload_n hx hb dX9_chooses_199 rfl (lv_at hl 4 rfl) ?_
                              have e575 : (gs (gs g343 138 p1.toInt.toNat v6_97.toInt) 140 v6_97.toInt.toNat x558.toInt) 137 0 = g343 137 0 := by rw [gs_c _ _ _ _ (by decide), gs_c _ _ _ _ (by decide)]
                              have e576 : (gs (gs g343 138 p1.toInt.toNat v6_97.toInt) 140 v6_97.toInt.toNat x558.toInt) 137 0 = g343 137 0 := by rw [gs_c _ _ _ _ (by decide), gs_c _ _ _ _ (by decide)]
                              refine cI (va_runV (C := RX9) (As := [.int p1]) (rest := []) ⟨hx, hb, hml, hown, hA⟩ (k_X9_isEven l dC dI dA sz X Γ hU (gs (gs g343 138 p1.toInt.toNat v6_97.toInt) 140 v6_97.toInt.toNat x558.toInt) h0 t_h0 p1   (by omega) (by rw [h137]; exact hC2) (by rw [h143]; exact hL)) ⟨callB_of 1 hA (al_A wd_5_164) rfl rfl rfl (hA _ wd_1_7) (hA _ wd_5_161) (by decide +kernel) ⟨Nat.le_trans (Nat.le_of_ble_eq_true rfl) (Nat.le_add_left 3 F), Nat.le_trans (Nat.le_of_ble_eq_true rfl) (Nat.le_add_left 100 L)⟩, hA _ wd_5_163, hA _ ws_52⟩ ⟨bl, recv_X9 hE hG t_h0, fun U hU9 hW9 => ⟨rfl, by rw [hU9]; exact hG, hE.go hS hU9 hW9⟩⟩ rfl rfl hl.1 rfl (lv_room (Nat.le_of_ble_eq_true rfl)) dX9_chooses_200 ⟨Nat.zero_le _, Nat.zero_le _⟩) hS (fun x579 u577 H locs w578 hG hS => ?_)
                              obtain ⟨eu581, w578, hq580⟩ := w578
                              rw [eu581] at hG
                              rw [h137, h143] at hq580
                              refine ty_if_eq (tgt := 219) hx hb dX9_chooses_203 (by decide) (fun c582 => ?_) (fun c582 => ?_)
                              · skip
                                refine lv_aload_n hx hb dX9_chooses_219 rfl (lv_at hl 3 rfl) ?_
                                refine get_X9_40 hx hb hA hown hE hG t_h0 wd_4_170 dX9_chooses_220 (fun b583 (t_b583 : ty Γ b583 140) => ?_)
                                refine lv_iload hx hb dX9_chooses_223 (lv_at hl 1 rfl) ?_
                                refine ty_iconst hx hb (0) dX9_chooses_225 (by decide) (fun x584 h585 => ?_)
                                refine ast_mZ hx hb hE hG hS hU 40 rfl (n := 9) rfl (lo := 0) (hi := 1) rfl rfl rfl t_b583 (by omega) (by omega) (by omega) dX9_chooses_226 (fun H locs hG hS => ?_)
                                obtain ⟨x586, h587⟩ : ∃ y : Int32, y = v6_97 + Int32.ofInt (1) := ⟨_, rfl⟩
                                try have h588 : x586.toInt = v6_97.toInt + (1) := ty_inc h587 (by decide) (by omega) (by omega)
                                refine lv_iinc (v := x586) (lv' := [(6, .int x586), (7, .int x553), (5, .int x7), (0, .ref h0), (1, .int p1), (2, .int p2), (3, .int p3), (4, .int p4)]) hx hb dX9_chooses_227 hl (k := 1) rfl h587.symm (by decide) rfl (fun ls hl => ?_)
                                refine lv_goto (tgt := 97) hx hb dX9_chooses_230 (by decide) ?_
                                have e589 : (gs (gs (gs g343 138 p1.toInt.toNat v6_97.toInt) 140 v6_97.toInt.toNat x558.toInt) 140 v6_97.toInt.toNat x584.toInt) 137 0 = g343 137 0 := by rw [gs_c _ _ _ _ (by decide), gs_c _ _ _ _ (by decide), gs_c _ _ _ _ (by decide)]
                                exact ih_97 x586 (gs (gs (gs g343 138 p1.toInt.toNat v6_97.toInt) 140 v6_97.toInt.toNat x558.toInt) 140 v6_97.toInt.toNat x584.toInt) _ _ ls (by omega) (by omega) (fun c j h138 h139 h140 h141 h142 => by rw [gs_c _ _ _ _ h140, gs_c _ _ _ _ h140, gs_c _ _ _ _ h138, hf344 c j h138 h139 h140 h141 h142]) (fun i hi => by rw [gs_c _ _ _ _ (by decide), gs_c _ _ _ _ (by decide), gs_j _ _ _ _ hi]; exact hq0 i hi) (fun i => by by_cases hi : i = v6_97.toInt.toNat; (rw [hi, gs_self, ← hq1 v6_97.toInt.toNat]; omega); (rw [gs_j _ _ _ _ hi]; rw [gs_j _ _ _ _ hi, gs_c _ _ _ _ (by decide)]; exact hq1 i)) (BG_cg (by rw [gs_c _ _ _ _ (by decide), gs_c _ _ _ _ (by decide), gs_c _ _ _ _ (by decide)]) (fun i => by rw [gs_c _ _ _ _ (by decide), gs_c _ _ _ _ (by decide), gs_c _ _ _ _ (by decide)]) hq2) (fun h => by rw [gs_c _ _ _ _ (by decide), gs_c _ _ _ _ (by decide), gs_c _ _ _ _ (by decide)]; exact hq3 h) (by rw [show (gs (gs (gs g343 138 p1.toInt.toNat v6_97.toInt) 140 v6_97.toInt.toNat x558.toInt) 140 v6_97.toInt.toNat x584.toInt) 141 0 = g343 141 0 by rw [gs_c _ _ _ _ (by decide), gs_c _ _ _ _ (by decide), gs_c _ _ _ _ (by decide)], show (gs (gs (gs g343 138 p1.toInt.toNat v6_97.toInt) 140 v6_97.toInt.toNat x558.toInt) 140 v6_97.toInt.toNat x584.toInt) 142 0 = g343 142 0 by rw [gs_c _ _ _ _ (by decide), gs_c _ _ _ _ (by decide), gs_c _ _ _ _ (by decide)], show (gs (gs (gs g343 138 p1.toInt.toNat v6_97.toInt) 140 v6_97.toInt.toNat x558.toInt) 140 v6_97.toInt.toNat x584.toInt) 139 = g343 139 from funext fun j => by rw [gs_c _ _ _ _ (by decide), gs_c _ _ _ _ (by decide), gs_c _ _ _ _ (by decide)]]; exact ch_no hq4 (by omega) (by omega) (no_even hC (u := _) (j := v6_97.toInt) (hu9.trans (congrArg (rg_up (g 138) p1.toInt.toNat) (show ((v6_97.toInt.toNat : Nat) : Int) = v6_97.toInt by omega))) (hq580 () (by omega)))) hG hS (lv_sub hl [0, 2, 3, 4, 5, 6, 7] rfl)
                              · skip
                                refine lv_aload_n hx hb dX9_chooses_206 rfl (lv_at hl 3 rfl) ?_
                                refine lv_iload_n hx hb dX9_chooses_207 rfl (lv_at hl 4 rfl) ?_
                                refine ty_iconst hx hb (1) dX9_chooses_208 (by decide) (fun x590 h591 => ?_)
                                refine ty_iadd hx hb dX9_chooses_209 (fun x592 h593 => ?_)
                                try have h594 : x592.toInt = p1.toInt + x590.toInt := ty_add h593 (by omega) (by omega)
                                refine lv_iload_n hx hb dX9_chooses_210 rfl (lv_at hl 5 rfl) ?_
                                refine ty_iconst hx hb (1) dX9_chooses_211 (by decide) (fun x595 h596 => ?_)
                                refine ty_iadd hx hb dX9_chooses_212 (fun x597 h598 => ?_)
                                try have h599 : x597.toInt = p2.toInt + x595.toInt := ty_add h598 (by omega) (by omega)
                                refine lv_iload_n hx hb dX9_chooses_213 rfl (lv_at hl 6 rfl) ?_
                                refine lv_iload hx hb dX9_chooses_214 (lv_at hl 7 rfl) ?_
                                have e600 : (gs (gs g343 138 p1.toInt.toNat v6_97.toInt) 140 v6_97.toInt.toNat x558.toInt) 137 0 = g343 137 0 := by rw [gs_c _ _ _ _ (by decide), gs_c _ _ _ _ (by decide)]
                                have e601 : (gs (gs g343 138 p1.toInt.toNat v6_97.toInt) 140 v6_97.toInt.toNat x558.toInt) 137 0 = g343 137 0 := by rw [gs_c _ _ _ _ (by decide), gs_c _ _ _ _ (by decide)]
                                have e602 : (gs (gs g343 138 p1.toInt.toNat v6_97.toInt) 140 v6_97.toInt.toNat x558.toInt) 137 0 = g343 137 0 := by rw [gs_c _ _ _ _ (by decide), gs_c _ _ _ _ (by decide)]
                                have e603 : (gs (gs g343 138 p1.toInt.toNat v6_97.toInt) 140 v6_97.toInt.toNat x558.toInt) 137 0 = g343 137 0 := by rw [gs_c _ _ _ _ (by decide), gs_c _ _ _ _ (by decide)]
                                refine cV (va_runV (C := RX9) (As := [.int x592, .int x597, .int p3, .int p4]) (rest := []) ⟨hx, hb, hml, hown, hA⟩ (IH l dC dI dA sz X Γ hU (gs (gs g343 138 p1.toInt.toNat v6_97.toInt) 140 v6_97.toInt.toNat x558.toInt) h0 t_h0 x592 x597 p3 p4   (by omega) (by rw [h137, show x592.toInt.toNat = p1.toInt.toNat + 1 by omega]; exact hC2) (by rw [h137]; exact BG_cg (by rw [gs_c _ _ _ _ (by decide), gs_c _ _ _ _ (by decide)]) (fun i => by rw [gs_c _ _ _ _ (by decide), gs_c _ _ _ _ (by decide)]) hq2) (by rw [h143]; exact hL) (by rw [h137, h143, hr131, hr136, hr135, hr128, hr129, hr102, hr103, show x592.toInt.toNat = p1.toInt.toNat + 1 by omega] <;> exact CP_get hP (by omega) hu9 hsu9 hE9 (hnA () (by omega)) (by omega))) ⟨callB_of 4 hA (al_A wd_5_152) rfl rfl rfl (hA _ wd_1_7) (hA _ wd_5_149) (by decide +kernel) ⟨Nat.add_le_add_left (by decide) F, show 8 + (8 + 11) + L ≤ L + 100 by omega⟩, hA _ wd_5_151, hA _ ws_49⟩ ⟨bl, recv_X9 hE hG t_h0, fun U hU9 hW9 => ⟨rfl, by rw [hU9]; exact hG, hE.go hS hU9 hW9⟩⟩ rfl rfl hl.1 rfl (lv_room (Nat.le_of_ble_eq_true rfl)) dX9_chooses_216 ⟨Nat.zero_le _, Nat.zero_le _⟩) hS (fun u604 H locs w605 hG hS => ?_)
                                obtain ⟨hf611, hq606, hq607, hq608, hq609, hq610⟩ := w605
                                refine lv_aload_n hx hb dX9_chooses_219 rfl (lv_at hl 3 rfl) ?_
                                refine get_X9_40 hx hb hA hown hE hG t_h0 wd_4_170 dX9_chooses_220 (fun b612 (t_b612 : ty Γ b612 140) => ?_)
                                refine lv_iload hx hb dX9_chooses_223 (lv_at hl 1 rfl) ?_
                                refine ty_iconst hx hb (0) dX9_chooses_225 (by decide) (fun x613 h614 => ?_)
                                refine ast_mZ hx hb hE hG hS hU 40 rfl (n := 9) rfl (lo := 0) (hi := 1) rfl rfl rfl t_b612 (by omega) (by omega) (by omega) dX9_chooses_226 (fun H locs hG hS => ?_)
                                obtain ⟨x615, h616⟩ : ∃ y : Int32, y = v6_97 + Int32.ofInt (1) := ⟨_, rfl⟩
                                try have h617 : x615.toInt = v6_97.toInt + (1) := ty_inc h616 (by decide) (by omega) (by omega)
                                refine lv_iinc (v := x615) (lv' := [(6, .int x615), (7, .int x553), (5, .int x7), (0, .ref h0), (1, .int p1), (2, .int p2), (3, .int p3), (4, .int p4)]) hx hb dX9_chooses_227 hl (k := 1) rfl h616.symm (by decide) rfl (fun ls hl => ?_)
                                refine lv_goto (tgt := 97) hx hb dX9_chooses_230 (by decide) ?_
                                have hk618 : u604 137 0 = (gs (gs g343 138 p1.toInt.toNat v6_97.toInt) 140 v6_97.toInt.toNat x558.toInt) 137 0 := hf611 137 0 (by decide) (by decide) (by decide) (by decide) (by decide)
                                replace hk618 : u604 137 0 = g343 137 0 := by rw [hk618, gs_c _ _ _ _ (by decide), gs_c _ _ _ _ (by decide)]
                                have e619 : (gs u604 140 v6_97.toInt.toNat x613.toInt) 137 0 = u604 137 0 := by rw [gs_c _ _ _ _ (by decide)]
                                exact ih_97 x615 (gs u604 140 v6_97.toInt.toNat x613.toInt) _ _ ls (by omega) (by omega) (fun c j h138 h139 h140 h141 h142 => by rw [gs_c _ _ _ _ h140, hf611 c j h138 h139 h140 h141 h142, gs_c _ _ _ _ h140, gs_c _ _ _ _ h138, hf344 c j h138 h139 h140 h141 h142]) (fun i hi => by rw [gs_c _ _ _ _ (by decide), hq606 i, gs_c _ _ _ _ (by decide), gs_j _ _ _ _ hi]; exact hq0 i hi) (fun i => by by_cases hi : i = v6_97.toInt.toNat; (rw [hi, gs_self, ← hq1 v6_97.toInt.toNat]; omega); (rw [gs_j _ _ _ _ hi]; rw [hq607 i, gs_j _ _ _ _ hi, gs_c _ _ _ _ (by decide)]; exact hq1 i)) (BG_cg (by rw [gs_c _ _ _ _ (by decide)]) (fun i => by rw [gs_c _ _ _ _ (by decide)]) (by have h9 := hq608; rw [h137] at h9; exact h9)) (fun h => by rw [gs_c _ _ _ _ (by decide)]; exact hq609 (Or.inl (by rw [gs_c _ _ _ _ (by decide), gs_c _ _ _ _ (by decide)]; exact hq3 h))) (by rw [show (gs u604 140 v6_97.toInt.toNat x613.toInt) 141 0 = u604 141 0 by rw [gs_c _ _ _ _ (by decide)], show (gs u604 140 v6_97.toInt.toNat x613.toInt) 142 0 = u604 142 0 by rw [gs_c _ _ _ _ (by decide)], show (gs u604 140 v6_97.toInt.toNat x613.toInt) 139 = u604 139 from funext fun j => by rw [gs_c _ _ _ _ (by decide)]]; exact ch_rec (by omega) hq4 (by have h9 := hq610; rw [h137, h143, hr131, hr136, hr135, hr128, hr129, hr102, hr103, hr141, hr142, hr139, hu9, show ((v6_97.toInt.toNat : Nat) : Int) = v6_97.toInt by omega, show x592.toInt.toNat = p1.toInt.toNat + 1 by omega] at h9; exact h9) (by omega) (by omega)) hG hS (lv_sub hl [0, 2, 3, 4, 5, 6, 7] rfl)
                          · exfalso; omega
          exact L_97 ((g 137 0 - x341.toInt) + 1).toNat x341 g _ _ ls (by omega) (by omega) (fun c j _ _ _ _ _ => rfl) (fun i hi => rfl) (fun i => rfl) (hB) (fun h => h) (ch_J0 (by omega)) hG hS (lv_sub hl [0, 1, 2, 3, 4, 5, 6] rfl)
        · skip
          refine lv_aload_n hx hb dX9_chooses_48 rfl (lv_at hl 1 rfl) ?_
          refine lv_iload_n hx hb dX9_chooses_49 rfl (lv_at hl 3 rfl) ?_
          refine put_X9_41 hx hb hA hown hE hG hS hU t_h0 wd_4_171 dX9_chooses_50 (fun H locs hG hS => ?_)
          refine lv_aload_n hx hb dX9_chooses_53 rfl (lv_at hl 1 rfl) ?_
          refine lv_iload hx hb dX9_chooses_54 (lv_at hl 5 rfl) ?_
          refine lv_iload_n hx hb dX9_chooses_56 rfl (lv_at hl 4 rfl) ?_
          refine ty_isub hx hb dX9_chooses_57 (fun x620 h621 => ?_)
          try have h622 : x620.toInt = p4.toInt - p3.toInt := ty_sub h621 (by omega) (by omega)
          refine put_X9_42 hx hb hA hown hE hG hS hU t_h0 wd_4_172 dX9_chooses_58 (fun H locs hG hS => ?_)
          refine ty_iconst hx hb (0) dX9_chooses_61 (by decide) (fun x623 h624 => ?_)
          refine lv_istore (lv' := [(6, .int x623), (5, .int x7), (0, .ref h0), (1, .int p1), (2, .int p2), (3, .int p3), (4, .int p4)]) hx hb dX9_chooses_62 hl (by decide) rfl (fun ls hl => ?_)
          have e626 : (gs (gs g 141 0 p2.toInt) 142 0 x620.toInt) 137 0 = g 137 0 := by rw [gs_c _ _ _ _ (by decide), gs_c _ _ _ _ (by decide)]
          have L_64 : ∀ (n : Nat) (v6_64 : Int32) (g625 : gh) (H : Heap) (locs : List Loc) (ls : Array Slot), (g625 137 0 - v6_64.toInt : Int) < n → 0 ≤ v6_64.toInt ∧ v6_64.toInt ≤ g625 137 0 → (∀ c j : Nat, c ≠ 139 → g625 c j = (gs (gs g 141 0 p2.toInt) 142 0 x620.toInt) c j) → (∀ i : Nat, (i : Int) < v6_64.toInt → g625 139 i = g 138 i) → ty_ok (dC, dI) vwCl Γ (TP dA Γ g625) sz X H → va_S (ty_A sz) s.heap H locs → lv_has ls 8 [(6, .int v6_64), (5, .int x7), (0, .ref h0), (1, .int p1), (2, .int p2), (3, .int p3), (4, .int p4)] → W p l e (headSpec (.code yX9_chooses cX9_chooses 8 (Option.none : Option Jvm.ClassFile.FieldType) :: AL) ({ frames := F + 3, cells := 0, slots := 0, locals := L + 100 })).room s m ([.ref h0, .int p1, .int p2, .int p3, .int p4] : List Value).toArray below meth c H locs 0 0 (MQ below (va_Qv (fun (u : gh) => (∀ c j : Nat, c ≠ 138 → c ≠ 139 → c ≠ 140 → c ≠ 141 → c ≠ 142 → u c j = g c j) ∧ (∀ i : Nat, u 138 i = g 138 i) ∧ (∀ i : Nat, u 140 i = g 140 i) ∧ (BG u (g 137 0).toNat) ∧ ((0 ≤ g 141 0 ∨ ∀ j : Nat, j < (g 137 0).toNat → g 140 j ≠ 1) → 0 ≤ u 141 0) ∧ (rg_S (g 137 0).toNat (fun i => g 131 (g 136 i).toNat) (rg_P (g 137 0).toNat (su_w ( g 135) ( g 128) ( g 129) ( g 102) ( g 103) ( g 136)) (g 143 (0)).toNat p1.toInt.toNat ( g 138)) (g 141 0) (g 142 0) ( g 139) (u 141 0) (u 142 0) ( u 139))) (okb dC dI dA sz X Γ) (ty_A sz)) ([.ref h0, .int p1, .int p2, .int p3, .int p4] : List Value).toArray s 0 0 (ty_A sz)) (F0 m 64 ls []) := by
            intro n
            induction n with
            | zero => intro v6_64 g625 H locs ls hm hi0 hf627 hq0 hG hS hl; exfalso; omega
            | succ n ih_64 =>
              intro v6_64 g625 H locs ls hm hi0 hf627 hq0 hG hS hl
              have hk628 : g625 137 0 = (gs (gs g 141 0 p2.toInt) 142 0 x620.toInt) 137 0 := hf627 137 0 (by decide)
              replace hk628 : g625 137 0 = g 137 0 := by rw [hk628, gs_c _ _ _ _ (by decide), gs_c _ _ _ _ (by decide)]
              refine lv_iload hx hb dX9_chooses_64 (lv_at hl 0 rfl) ?_
              refine lv_aload_n hx hb dX9_chooses_66 rfl (lv_at hl 2 rfl) ?_
              refine get_X9_37 hx hb hA hown hE hG t_h0 wd_4_167 dX9_chooses_67 (fun x629 h630 => ?_)
              refine ty_icmp_ge (tgt := 93) hx hb dX9_chooses_70 (by decide) (fun c632 => ?_) (fun c632 => ?_)
              · skip
                have hr633 : g625 141 = (gs g 141 0 p2.toInt) 141 := funext fun j => by rw [hf627 141 j (by decide), gs_c _ _ _ _ (by decide)]
                have hr634 : g625 141 = (gs g 141 0 p2.toInt) 141 := funext fun j => by rw [hf627 141 j (by decide), gs_c _ _ _ _ (by decide)]
                have hr635 : g625 142 = (gs (gs g 141 0 p2.toInt) 142 0 x620.toInt) 142 := funext fun j => by rw [hf627 142 j (by decide)]
                exact W.vret hx hb hr (fun t ht hW => ⟨⟨g625, rfl, ⟨(fun c j h138 h139 h140 h141 h142 => by rw [hf627 c j h139, gs_c _ _ _ _ h142, gs_c _ _ _ _ h141]), (fun i => by rw [hf627 138 i (by decide), gs_c _ _ _ _ (by decide), gs_c _ _ _ _ (by decide)]), (fun i => by rw [hf627 140 i (by decide), gs_c _ _ _ _ (by decide), gs_c _ _ _ _ (by decide)]), (BG_leaf (g := g) (by have h9 := hC; rw [show p1.toInt.toNat = (g 137 0).toNat by omega] at h9; exact h9) (fun i hi => hq0 i (by omega))), (fun _ => by rw [hr633, gs_self]; omega), (by have hC9 := hC; have hP9 := hP; rw [show p1.toInt.toNat = (g 137 0).toNat by omega] at hC9 hP9 ⊢; exact ch_leaf hC9 hP9 (fun i hi => hq0 i (by omega)) (by rw [hr634, gs_self]) (by rw [hr635, gs_self]; omega) (fun q => by rw [hr634, hr635, gs_self, gs_self] at q; unfold rg_le at q; omega))⟩, ok1 ht hG⟩, hS.F ht⟩) hS.2.2 dX9_chooses_93
              · skip
                refine lv_aload_n hx hb dX9_chooses_73 rfl (lv_at hl 2 rfl) ?_
                refine get_X9_39 hx hb hA hown hE hG t_h0 wd_4_169 dX9_chooses_74 (fun b636 (t_b636 : ty Γ b636 139) => ?_)
                refine lv_iload hx hb dX9_chooses_77 (lv_at hl 0 rfl) ?_
                refine lv_aload_n hx hb dX9_chooses_79 rfl (lv_at hl 2 rfl) ?_
                refine get_X9_38 hx hb hA hown hE hG t_h0 wd_4_168 dX9_chooses_80 (fun b637 (t_b637 : ty Γ b637 138) => ?_)
                refine lv_iload hx hb dX9_chooses_83 (lv_at hl 0 rfl) ?_
                refine ald_mI hx hb hE hG 38 rfl (n := 9) rfl (lo := -2) (hi := 8) rfl rfl t_b637 (by omega) dX9_chooses_85 (fun j639 x638 h640 h641 h642 => ?_)
                obtain rfl : j639 = v6_64.toInt.toNat := by omega
                replace h641 : x638.toInt = g625 138 v6_64.toInt.toNat := h641
                have hk643 : g625 138 v6_64.toInt.toNat = (gs (gs g 141 0 p2.toInt) 142 0 x620.toInt) 138 v6_64.toInt.toNat := hf627 138 v6_64.toInt.toNat (by decide)
                replace hk643 : g625 138 v6_64.toInt.toNat = g 138 v6_64.toInt.toNat := by rw [hk643, gs_c _ _ _ _ (by decide), gs_c _ _ _ _ (by decide)]
                have hR9 : g625 138 v6_64.toInt.toNat = g 138 v6_64.toInt.toNat := by rw [hf627 138 v6_64.toInt.toNat (by decide), gs_c _ _ _ _ (by decide), gs_c _ _ _ _ (by decide)]
                have hA9 := (hC.1 v6_64.toInt.toNat (by omega)).1
                refine ast_mI hx hb hE hG hS hU 39 rfl (n := 9) rfl (lo := -1) (hi := 8) rfl rfl rfl t_b636 (by omega) (by omega) dX9_chooses_86 (fun H locs hG hS => ?_)
                obtain ⟨x644, h645⟩ : ∃ y : Int32, y = v6_64 + Int32.ofInt (1) := ⟨_, rfl⟩
                try have h646 : x644.toInt = v6_64.toInt + (1) := ty_inc h645 (by decide) (by omega) (by omega)
                refine lv_iinc (v := x644) (lv' := [(6, .int x644), (5, .int x7), (0, .ref h0), (1, .int p1), (2, .int p2), (3, .int p3), (4, .int p4)]) hx hb dX9_chooses_87 hl (k := 0) rfl h645.symm (by decide) rfl (fun ls hl => ?_)
                refine lv_goto (tgt := 64) hx hb dX9_chooses_90 (by decide) ?_
                have e647 : (gs g625 139 v6_64.toInt.toNat x638.toInt) 137 0 = g625 137 0 := by rw [gs_c _ _ _ _ (by decide)]
                exact ih_64 x644 (gs g625 139 v6_64.toInt.toNat x638.toInt) _ _ ls (by omega) (by omega) (fun c j h139 => by rw [gs_c _ _ _ _ h139, hf627 c j h139]) (fun i hi => by by_cases e9 : i = v6_64.toInt.toNat; (rw [e9, gs_self]; omega); (rw [gs_j _ _ _ _ e9]; exact hq0 i (by omega))) hG hS (lv_sub hl [0, 1, 2, 3, 4, 5, 6] rfl)
          have e648 : (gs (gs g 141 0 p2.toInt) 142 0 x620.toInt) 137 0 = g 137 0 := by rw [gs_c _ _ _ _ (by decide), gs_c _ _ _ _ (by decide)]
          exact L_64 (((gs (gs g 141 0 p2.toInt) 142 0 x620.toInt) 137 0 - x623.toInt) + 1).toNat x623 (gs (gs g 141 0 p2.toInt) 142 0 x620.toInt) _ _ ls (by omega) (by omega) (fun c j _ => rfl) (fun i hi => absurd hi (by omega)) hG hS (lv_sub hl [0, 1, 2, 3, 4, 5, 6] rfl)
      · skip
        exact W.vret hx hb hr (fun t ht hW => ⟨⟨g, rfl, ⟨(fun c j h138 h139 h140 h141 h142 => by rfl), (fun i => rfl), (fun i => rfl), (hB), (fun _ => by omega), (rg_S_none (rg_prune (by omega) (by rw [← hP.2.2.1, ← hP.2.2.2.1, ← hP.2.2.2.2.1]; omega)))⟩, ok1 ht hG⟩, hS.F ht⟩) hS.2.2 dX9_chooses_39

theorem k_X9_chooses1 (l : Launch) (dC : Nat → ClassId) (dI : Nat → Nat → Nat) (dA : Nat → ClassId) (sz : Nat) (X : va_W) (Γ : ty_G) (hU : Un Γ) (g : gh) (h0 : Nat) (t_h0 : ty Γ h0 30) (p1 : Int32) (p2 : Int32) (p3 : Int32) (p4 : Int32) (hk : 0 ≤ p1.toInt ∧ p1.toInt ≤ g 137 0 ∧ g 137 0 ≤ 9 ∧ 0 ≤ p2.toInt ∧ p2.toInt ≤ p1.toInt ∧ g 137 0 - p1.toInt ≤ 1) (hC : CH g (g 137 0).toNat p1.toInt.toNat) (hB : BG g (g 137 0).toNat) (hL : 2 ≤ g 143 (0) ∧ g 143 (0) ≤ 9) (hP : CP ( g 138) (su_w ( g 135) ( g 128) ( g 129) ( g 102) ( g 103) ( g 136)) (fun i => g 131 (g 136 i).toNat) (g 137 0).toNat p1.toInt.toNat (g 143 (0)).toNat p2.toInt p3.toInt p4.toInt) : Met l yX9_chooses (.code yX9_chooses cX9_chooses 8 (Option.none : Option Jvm.ClassFile.FieldType) :: AL) ({ frames := 3, cells := 0, slots := 0, locals := 100 }) (PCx dC dI dA sz X Γ g [.ref h0, .int p1, .int p2, .int p3, .int p4]) (va_Qv (fun (u : gh) => (∀ c j : Nat, c ≠ 138 → c ≠ 139 → c ≠ 140 → c ≠ 141 → c ≠ 142 → u c j = g c j) ∧ (∀ i : Nat, u 138 i = g 138 i) ∧ (∀ i : Nat, u 140 i = g 140 i) ∧ (BG u (g 137 0).toNat) ∧ ((0 ≤ g 141 0 ∨ ∀ j : Nat, j < (g 137 0).toNat → g 140 j ≠ 1) → 0 ≤ u 141 0) ∧ (rg_S (g 137 0).toNat (fun i => g 131 (g 136 i).toNat) (rg_P (g 137 0).toNat (su_w ( g 135) ( g 128) ( g 129) ( g 102) ( g 103) ( g 136)) (g 143 (0)).toNat p1.toInt.toNat ( g 138)) (g 141 0) (g 142 0) ( g 139) (u 141 0) (u 142 0) ( u 139))) (okb dC dI dA sz X Γ) (ty_A sz)) 0 0 (ty_A sz) :=
  k_X9_choosesS 0 0 0 (fun l dC dI dA sz X Γ hU g h0 t_h0 p1 p2 p3 p4 hk hC hB hL hP => k_X9_chooses0 l dC dI dA sz X Γ hU g h0 t_h0 p1 p2 p3 p4 (by omega) hC hB hL hP) l dC dI dA sz X Γ hU g h0 t_h0 p1 p2 p3 p4 (by omega) hC hB hL hP

theorem k_X9_chooses2 (l : Launch) (dC : Nat → ClassId) (dI : Nat → Nat → Nat) (dA : Nat → ClassId) (sz : Nat) (X : va_W) (Γ : ty_G) (hU : Un Γ) (g : gh) (h0 : Nat) (t_h0 : ty Γ h0 30) (p1 : Int32) (p2 : Int32) (p3 : Int32) (p4 : Int32) (hk : 0 ≤ p1.toInt ∧ p1.toInt ≤ g 137 0 ∧ g 137 0 ≤ 9 ∧ 0 ≤ p2.toInt ∧ p2.toInt ≤ p1.toInt ∧ g 137 0 - p1.toInt ≤ 2) (hC : CH g (g 137 0).toNat p1.toInt.toNat) (hB : BG g (g 137 0).toNat) (hL : 2 ≤ g 143 (0) ∧ g 143 (0) ≤ 9) (hP : CP ( g 138) (su_w ( g 135) ( g 128) ( g 129) ( g 102) ( g 103) ( g 136)) (fun i => g 131 (g 136 i).toNat) (g 137 0).toNat p1.toInt.toNat (g 143 (0)).toNat p2.toInt p3.toInt p4.toInt) : Met l yX9_chooses (.code yX9_chooses cX9_chooses 8 (Option.none : Option Jvm.ClassFile.FieldType) :: AL) ({ frames := 6, cells := 0, slots := 0, locals := 200 }) (PCx dC dI dA sz X Γ g [.ref h0, .int p1, .int p2, .int p3, .int p4]) (va_Qv (fun (u : gh) => (∀ c j : Nat, c ≠ 138 → c ≠ 139 → c ≠ 140 → c ≠ 141 → c ≠ 142 → u c j = g c j) ∧ (∀ i : Nat, u 138 i = g 138 i) ∧ (∀ i : Nat, u 140 i = g 140 i) ∧ (BG u (g 137 0).toNat) ∧ ((0 ≤ g 141 0 ∨ ∀ j : Nat, j < (g 137 0).toNat → g 140 j ≠ 1) → 0 ≤ u 141 0) ∧ (rg_S (g 137 0).toNat (fun i => g 131 (g 136 i).toNat) (rg_P (g 137 0).toNat (su_w ( g 135) ( g 128) ( g 129) ( g 102) ( g 103) ( g 136)) (g 143 (0)).toNat p1.toInt.toNat ( g 138)) (g 141 0) (g 142 0) ( g 139) (u 141 0) (u 142 0) ( u 139))) (okb dC dI dA sz X Γ) (ty_A sz)) 0 0 (ty_A sz) :=
  k_X9_choosesS 1 3 100 (fun l dC dI dA sz X Γ hU g h0 t_h0 p1 p2 p3 p4 hk hC hB hL hP => k_X9_chooses1 l dC dI dA sz X Γ hU g h0 t_h0 p1 p2 p3 p4 (by omega) hC hB hL hP) l dC dI dA sz X Γ hU g h0 t_h0 p1 p2 p3 p4 (by omega) hC hB hL hP

theorem k_X9_chooses3 (l : Launch) (dC : Nat → ClassId) (dI : Nat → Nat → Nat) (dA : Nat → ClassId) (sz : Nat) (X : va_W) (Γ : ty_G) (hU : Un Γ) (g : gh) (h0 : Nat) (t_h0 : ty Γ h0 30) (p1 : Int32) (p2 : Int32) (p3 : Int32) (p4 : Int32) (hk : 0 ≤ p1.toInt ∧ p1.toInt ≤ g 137 0 ∧ g 137 0 ≤ 9 ∧ 0 ≤ p2.toInt ∧ p2.toInt ≤ p1.toInt ∧ g 137 0 - p1.toInt ≤ 3) (hC : CH g (g 137 0).toNat p1.toInt.toNat) (hB : BG g (g 137 0).toNat) (hL : 2 ≤ g 143 (0) ∧ g 143 (0) ≤ 9) (hP : CP ( g 138) (su_w ( g 135) ( g 128) ( g 129) ( g 102) ( g 103) ( g 136)) (fun i => g 131 (g 136 i).toNat) (g 137 0).toNat p1.toInt.toNat (g 143 (0)).toNat p2.toInt p3.toInt p4.toInt) : Met l yX9_chooses (.code yX9_chooses cX9_chooses 8 (Option.none : Option Jvm.ClassFile.FieldType) :: AL) ({ frames := 9, cells := 0, slots := 0, locals := 300 }) (PCx dC dI dA sz X Γ g [.ref h0, .int p1, .int p2, .int p3, .int p4]) (va_Qv (fun (u : gh) => (∀ c j : Nat, c ≠ 138 → c ≠ 139 → c ≠ 140 → c ≠ 141 → c ≠ 142 → u c j = g c j) ∧ (∀ i : Nat, u 138 i = g 138 i) ∧ (∀ i : Nat, u 140 i = g 140 i) ∧ (BG u (g 137 0).toNat) ∧ ((0 ≤ g 141 0 ∨ ∀ j : Nat, j < (g 137 0).toNat → g 140 j ≠ 1) → 0 ≤ u 141 0) ∧ (rg_S (g 137 0).toNat (fun i => g 131 (g 136 i).toNat) (rg_P (g 137 0).toNat (su_w ( g 135) ( g 128) ( g 129) ( g 102) ( g 103) ( g 136)) (g 143 (0)).toNat p1.toInt.toNat ( g 138)) (g 141 0) (g 142 0) ( g 139) (u 141 0) (u 142 0) ( u 139))) (okb dC dI dA sz X Γ) (ty_A sz)) 0 0 (ty_A sz) :=
  k_X9_choosesS 2 6 200 (fun l dC dI dA sz X Γ hU g h0 t_h0 p1 p2 p3 p4 hk hC hB hL hP => k_X9_chooses2 l dC dI dA sz X Γ hU g h0 t_h0 p1 p2 p3 p4 (by omega) hC hB hL hP) l dC dI dA sz X Γ hU g h0 t_h0 p1 p2 p3 p4 (by omega) hC hB hL hP

theorem k_X9_chooses4 (l : Launch) (dC : Nat → ClassId) (dI : Nat → Nat → Nat) (dA : Nat → ClassId) (sz : Nat) (X : va_W) (Γ : ty_G) (hU : Un Γ) (g : gh) (h0 : Nat) (t_h0 : ty Γ h0 30) (p1 : Int32) (p2 : Int32) (p3 : Int32) (p4 : Int32) (hk : 0 ≤ p1.toInt ∧ p1.toInt ≤ g 137 0 ∧ g 137 0 ≤ 9 ∧ 0 ≤ p2.toInt ∧ p2.toInt ≤ p1.toInt ∧ g 137 0 - p1.toInt ≤ 4) (hC : CH g (g 137 0).toNat p1.toInt.toNat) (hB : BG g (g 137 0).toNat) (hL : 2 ≤ g 143 (0) ∧ g 143 (0) ≤ 9) (hP : CP ( g 138) (su_w ( g 135) ( g 128) ( g 129) ( g 102) ( g 103) ( g 136)) (fun i => g 131 (g 136 i).toNat) (g 137 0).toNat p1.toInt.toNat (g 143 (0)).toNat p2.toInt p3.toInt p4.toInt) : Met l yX9_chooses (.code yX9_chooses cX9_chooses 8 (Option.none : Option Jvm.ClassFile.FieldType) :: AL) ({ frames := 12, cells := 0, slots := 0, locals := 400 }) (PCx dC dI dA sz X Γ g [.ref h0, .int p1, .int p2, .int p3, .int p4]) (va_Qv (fun (u : gh) => (∀ c j : Nat, c ≠ 138 → c ≠ 139 → c ≠ 140 → c ≠ 141 → c ≠ 142 → u c j = g c j) ∧ (∀ i : Nat, u 138 i = g 138 i) ∧ (∀ i : Nat, u 140 i = g 140 i) ∧ (BG u (g 137 0).toNat) ∧ ((0 ≤ g 141 0 ∨ ∀ j : Nat, j < (g 137 0).toNat → g 140 j ≠ 1) → 0 ≤ u 141 0) ∧ (rg_S (g 137 0).toNat (fun i => g 131 (g 136 i).toNat) (rg_P (g 137 0).toNat (su_w ( g 135) ( g 128) ( g 129) ( g 102) ( g 103) ( g 136)) (g 143 (0)).toNat p1.toInt.toNat ( g 138)) (g 141 0) (g 142 0) ( g 139) (u 141 0) (u 142 0) ( u 139))) (okb dC dI dA sz X Γ) (ty_A sz)) 0 0 (ty_A sz) :=
  k_X9_choosesS 3 9 300 (fun l dC dI dA sz X Γ hU g h0 t_h0 p1 p2 p3 p4 hk hC hB hL hP => k_X9_chooses3 l dC dI dA sz X Γ hU g h0 t_h0 p1 p2 p3 p4 (by omega) hC hB hL hP) l dC dI dA sz X Γ hU g h0 t_h0 p1 p2 p3 p4 (by omega) hC hB hL hP

theorem k_X9_chooses5 (l : Launch) (dC : Nat → ClassId) (dI : Nat → Nat → Nat) (dA : Nat → ClassId) (sz : Nat) (X : va_W) (Γ : ty_G) (hU : Un Γ) (g : gh) (h0 : Nat) (t_h0 : ty Γ h0 30) (p1 : Int32) (p2 : Int32) (p3 : Int32) (p4 : Int32) (hk : 0 ≤ p1.toInt ∧ p1.toInt ≤ g 137 0 ∧ g 137 0 ≤ 9 ∧ 0 ≤ p2.toInt ∧ p2.toInt ≤ p1.toInt ∧ g 137 0 - p1.toInt ≤ 5) (hC : CH g (g 137 0).toNat p1.toInt.toNat) (hB : BG g (g 137 0).toNat) (hL : 2 ≤ g 143 (0) ∧ g 143 (0) ≤ 9) (hP : CP ( g 138) (su_w ( g 135) ( g 128) ( g 129) ( g 102) ( g 103) ( g 136)) (fun i => g 131 (g 136 i).toNat) (g 137 0).toNat p1.toInt.toNat (g 143 (0)).toNat p2.toInt p3.toInt p4.toInt) : Met l yX9_chooses (.code yX9_chooses cX9_chooses 8 (Option.none : Option Jvm.ClassFile.FieldType) :: AL) ({ frames := 15, cells := 0, slots := 0, locals := 500 }) (PCx dC dI dA sz X Γ g [.ref h0, .int p1, .int p2, .int p3, .int p4]) (va_Qv (fun (u : gh) => (∀ c j : Nat, c ≠ 138 → c ≠ 139 → c ≠ 140 → c ≠ 141 → c ≠ 142 → u c j = g c j) ∧ (∀ i : Nat, u 138 i = g 138 i) ∧ (∀ i : Nat, u 140 i = g 140 i) ∧ (BG u (g 137 0).toNat) ∧ ((0 ≤ g 141 0 ∨ ∀ j : Nat, j < (g 137 0).toNat → g 140 j ≠ 1) → 0 ≤ u 141 0) ∧ (rg_S (g 137 0).toNat (fun i => g 131 (g 136 i).toNat) (rg_P (g 137 0).toNat (su_w ( g 135) ( g 128) ( g 129) ( g 102) ( g 103) ( g 136)) (g 143 (0)).toNat p1.toInt.toNat ( g 138)) (g 141 0) (g 142 0) ( g 139) (u 141 0) (u 142 0) ( u 139))) (okb dC dI dA sz X Γ) (ty_A sz)) 0 0 (ty_A sz) :=
  k_X9_choosesS 4 12 400 (fun l dC dI dA sz X Γ hU g h0 t_h0 p1 p2 p3 p4 hk hC hB hL hP => k_X9_chooses4 l dC dI dA sz X Γ hU g h0 t_h0 p1 p2 p3 p4 (by omega) hC hB hL hP) l dC dI dA sz X Γ hU g h0 t_h0 p1 p2 p3 p4 (by omega) hC hB hL hP

theorem k_X9_chooses6 (l : Launch) (dC : Nat → ClassId) (dI : Nat → Nat → Nat) (dA : Nat → ClassId) (sz : Nat) (X : va_W) (Γ : ty_G) (hU : Un Γ) (g : gh) (h0 : Nat) (t_h0 : ty Γ h0 30) (p1 : Int32) (p2 : Int32) (p3 : Int32) (p4 : Int32) (hk : 0 ≤ p1.toInt ∧ p1.toInt ≤ g 137 0 ∧ g 137 0 ≤ 9 ∧ 0 ≤ p2.toInt ∧ p2.toInt ≤ p1.toInt ∧ g 137 0 - p1.toInt ≤ 6) (hC : CH g (g 137 0).toNat p1.toInt.toNat) (hB : BG g (g 137 0).toNat) (hL : 2 ≤ g 143 (0) ∧ g 143 (0) ≤ 9) (hP : CP ( g 138) (su_w ( g 135) ( g 128) ( g 129) ( g 102) ( g 103) ( g 136)) (fun i => g 131 (g 136 i).toNat) (g 137 0).toNat p1.toInt.toNat (g 143 (0)).toNat p2.toInt p3.toInt p4.toInt) : Met l yX9_chooses (.code yX9_chooses cX9_chooses 8 (Option.none : Option Jvm.ClassFile.FieldType) :: AL) ({ frames := 18, cells := 0, slots := 0, locals := 600 }) (PCx dC dI dA sz X Γ g [.ref h0, .int p1, .int p2, .int p3, .int p4]) (va_Qv (fun (u : gh) => (∀ c j : Nat, c ≠ 138 → c ≠ 139 → c ≠ 140 → c ≠ 141 → c ≠ 142 → u c j = g c j) ∧ (∀ i : Nat, u 138 i = g 138 i) ∧ (∀ i : Nat, u 140 i = g 140 i) ∧ (BG u (g 137 0).toNat) ∧ ((0 ≤ g 141 0 ∨ ∀ j : Nat, j < (g 137 0).toNat → g 140 j ≠ 1) → 0 ≤ u 141 0) ∧ (rg_S (g 137 0).toNat (fun i => g 131 (g 136 i).toNat) (rg_P (g 137 0).toNat (su_w ( g 135) ( g 128) ( g 129) ( g 102) ( g 103) ( g 136)) (g 143 (0)).toNat p1.toInt.toNat ( g 138)) (g 141 0) (g 142 0) ( g 139) (u 141 0) (u 142 0) ( u 139))) (okb dC dI dA sz X Γ) (ty_A sz)) 0 0 (ty_A sz) :=
  k_X9_choosesS 5 15 500 (fun l dC dI dA sz X Γ hU g h0 t_h0 p1 p2 p3 p4 hk hC hB hL hP => k_X9_chooses5 l dC dI dA sz X Γ hU g h0 t_h0 p1 p2 p3 p4 (by omega) hC hB hL hP) l dC dI dA sz X Γ hU g h0 t_h0 p1 p2 p3 p4 (by omega) hC hB hL hP

theorem k_X9_chooses7 (l : Launch) (dC : Nat → ClassId) (dI : Nat → Nat → Nat) (dA : Nat → ClassId) (sz : Nat) (X : va_W) (Γ : ty_G) (hU : Un Γ) (g : gh) (h0 : Nat) (t_h0 : ty Γ h0 30) (p1 : Int32) (p2 : Int32) (p3 : Int32) (p4 : Int32) (hk : 0 ≤ p1.toInt ∧ p1.toInt ≤ g 137 0 ∧ g 137 0 ≤ 9 ∧ 0 ≤ p2.toInt ∧ p2.toInt ≤ p1.toInt ∧ g 137 0 - p1.toInt ≤ 7) (hC : CH g (g 137 0).toNat p1.toInt.toNat) (hB : BG g (g 137 0).toNat) (hL : 2 ≤ g 143 (0) ∧ g 143 (0) ≤ 9) (hP : CP ( g 138) (su_w ( g 135) ( g 128) ( g 129) ( g 102) ( g 103) ( g 136)) (fun i => g 131 (g 136 i).toNat) (g 137 0).toNat p1.toInt.toNat (g 143 (0)).toNat p2.toInt p3.toInt p4.toInt) : Met l yX9_chooses (.code yX9_chooses cX9_chooses 8 (Option.none : Option Jvm.ClassFile.FieldType) :: AL) ({ frames := 21, cells := 0, slots := 0, locals := 700 }) (PCx dC dI dA sz X Γ g [.ref h0, .int p1, .int p2, .int p3, .int p4]) (va_Qv (fun (u : gh) => (∀ c j : Nat, c ≠ 138 → c ≠ 139 → c ≠ 140 → c ≠ 141 → c ≠ 142 → u c j = g c j) ∧ (∀ i : Nat, u 138 i = g 138 i) ∧ (∀ i : Nat, u 140 i = g 140 i) ∧ (BG u (g 137 0).toNat) ∧ ((0 ≤ g 141 0 ∨ ∀ j : Nat, j < (g 137 0).toNat → g 140 j ≠ 1) → 0 ≤ u 141 0) ∧ (rg_S (g 137 0).toNat (fun i => g 131 (g 136 i).toNat) (rg_P (g 137 0).toNat (su_w ( g 135) ( g 128) ( g 129) ( g 102) ( g 103) ( g 136)) (g 143 (0)).toNat p1.toInt.toNat ( g 138)) (g 141 0) (g 142 0) ( g 139) (u 141 0) (u 142 0) ( u 139))) (okb dC dI dA sz X Γ) (ty_A sz)) 0 0 (ty_A sz) :=
  k_X9_choosesS 6 18 600 (fun l dC dI dA sz X Γ hU g h0 t_h0 p1 p2 p3 p4 hk hC hB hL hP => k_X9_chooses6 l dC dI dA sz X Γ hU g h0 t_h0 p1 p2 p3 p4 (by omega) hC hB hL hP) l dC dI dA sz X Γ hU g h0 t_h0 p1 p2 p3 p4 (by omega) hC hB hL hP

theorem k_X9_chooses8 (l : Launch) (dC : Nat → ClassId) (dI : Nat → Nat → Nat) (dA : Nat → ClassId) (sz : Nat) (X : va_W) (Γ : ty_G) (hU : Un Γ) (g : gh) (h0 : Nat) (t_h0 : ty Γ h0 30) (p1 : Int32) (p2 : Int32) (p3 : Int32) (p4 : Int32) (hk : 0 ≤ p1.toInt ∧ p1.toInt ≤ g 137 0 ∧ g 137 0 ≤ 9 ∧ 0 ≤ p2.toInt ∧ p2.toInt ≤ p1.toInt ∧ g 137 0 - p1.toInt ≤ 8) (hC : CH g (g 137 0).toNat p1.toInt.toNat) (hB : BG g (g 137 0).toNat) (hL : 2 ≤ g 143 (0) ∧ g 143 (0) ≤ 9) (hP : CP ( g 138) (su_w ( g 135) ( g 128) ( g 129) ( g 102) ( g 103) ( g 136)) (fun i => g 131 (g 136 i).toNat) (g 137 0).toNat p1.toInt.toNat (g 143 (0)).toNat p2.toInt p3.toInt p4.toInt) : Met l yX9_chooses (.code yX9_chooses cX9_chooses 8 (Option.none : Option Jvm.ClassFile.FieldType) :: AL) ({ frames := 24, cells := 0, slots := 0, locals := 800 }) (PCx dC dI dA sz X Γ g [.ref h0, .int p1, .int p2, .int p3, .int p4]) (va_Qv (fun (u : gh) => (∀ c j : Nat, c ≠ 138 → c ≠ 139 → c ≠ 140 → c ≠ 141 → c ≠ 142 → u c j = g c j) ∧ (∀ i : Nat, u 138 i = g 138 i) ∧ (∀ i : Nat, u 140 i = g 140 i) ∧ (BG u (g 137 0).toNat) ∧ ((0 ≤ g 141 0 ∨ ∀ j : Nat, j < (g 137 0).toNat → g 140 j ≠ 1) → 0 ≤ u 141 0) ∧ (rg_S (g 137 0).toNat (fun i => g 131 (g 136 i).toNat) (rg_P (g 137 0).toNat (su_w ( g 135) ( g 128) ( g 129) ( g 102) ( g 103) ( g 136)) (g 143 (0)).toNat p1.toInt.toNat ( g 138)) (g 141 0) (g 142 0) ( g 139) (u 141 0) (u 142 0) ( u 139))) (okb dC dI dA sz X Γ) (ty_A sz)) 0 0 (ty_A sz) :=
  k_X9_choosesS 7 21 700 (fun l dC dI dA sz X Γ hU g h0 t_h0 p1 p2 p3 p4 hk hC hB hL hP => k_X9_chooses7 l dC dI dA sz X Γ hU g h0 t_h0 p1 p2 p3 p4 (by omega) hC hB hL hP) l dC dI dA sz X Γ hU g h0 t_h0 p1 p2 p3 p4 (by omega) hC hB hL hP

theorem k_X9_chooses9 (l : Launch) (dC : Nat → ClassId) (dI : Nat → Nat → Nat) (dA : Nat → ClassId) (sz : Nat) (X : va_W) (Γ : ty_G) (hU : Un Γ) (g : gh) (h0 : Nat) (t_h0 : ty Γ h0 30) (p1 : Int32) (p2 : Int32) (p3 : Int32) (p4 : Int32) (hk : 0 ≤ p1.toInt ∧ p1.toInt ≤ g 137 0 ∧ g 137 0 ≤ 9 ∧ 0 ≤ p2.toInt ∧ p2.toInt ≤ p1.toInt ∧ g 137 0 - p1.toInt ≤ 9) (hC : CH g (g 137 0).toNat p1.toInt.toNat) (hB : BG g (g 137 0).toNat) (hL : 2 ≤ g 143 (0) ∧ g 143 (0) ≤ 9) (hP : CP ( g 138) (su_w ( g 135) ( g 128) ( g 129) ( g 102) ( g 103) ( g 136)) (fun i => g 131 (g 136 i).toNat) (g 137 0).toNat p1.toInt.toNat (g 143 (0)).toNat p2.toInt p3.toInt p4.toInt) : Met l yX9_chooses (.code yX9_chooses cX9_chooses 8 (Option.none : Option Jvm.ClassFile.FieldType) :: AL) ({ frames := 27, cells := 0, slots := 0, locals := 900 }) (PCx dC dI dA sz X Γ g [.ref h0, .int p1, .int p2, .int p3, .int p4]) (va_Qv (fun (u : gh) => (∀ c j : Nat, c ≠ 138 → c ≠ 139 → c ≠ 140 → c ≠ 141 → c ≠ 142 → u c j = g c j) ∧ (∀ i : Nat, u 138 i = g 138 i) ∧ (∀ i : Nat, u 140 i = g 140 i) ∧ (BG u (g 137 0).toNat) ∧ ((0 ≤ g 141 0 ∨ ∀ j : Nat, j < (g 137 0).toNat → g 140 j ≠ 1) → 0 ≤ u 141 0) ∧ (rg_S (g 137 0).toNat (fun i => g 131 (g 136 i).toNat) (rg_P (g 137 0).toNat (su_w ( g 135) ( g 128) ( g 129) ( g 102) ( g 103) ( g 136)) (g 143 (0)).toNat p1.toInt.toNat ( g 138)) (g 141 0) (g 142 0) ( g 139) (u 141 0) (u 142 0) ( u 139))) (okb dC dI dA sz X Γ) (ty_A sz)) 0 0 (ty_A sz) :=
  k_X9_choosesS 8 24 800 (fun l dC dI dA sz X Γ hU g h0 t_h0 p1 p2 p3 p4 hk hC hB hL hP => k_X9_chooses8 l dC dI dA sz X Γ hU g h0 t_h0 p1 p2 p3 p4 (by omega) hC hB hL hP) l dC dI dA sz X Γ hU g h0 t_h0 p1 p2 p3 p4 (by omega) hC hB hL hP
