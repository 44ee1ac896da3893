set_option maxHeartbeats 4000000 in
set_option maxRecDepth 100000 in
/-- WeekBankModel.rush:  -/
theorem k_X9_rush (l : Launch) (dC : Nat → ClassId) (dI : Nat → Nat → Nat) (dA : Nat → ClassId) (sz : Nat) (X : va_W) (Γ : ty_G) (hU : Un Γ) (g : gh) (h0 : Nat) (t_h0 : ty Γ h0 30) (m4 : 0 ≤ g 104 0 ∧ g 104 0 ≤ 10) (m26 : 0 ≤ g 126 0 ∧ g 126 0 ≤ 200) (hIJ : IJ g) : Met l yX9_rush (.code yX9_rush cX9_rush 5 (Option.some Jvm.ClassFile.FieldType.int) :: AL) ({ frames := 2, cells := 0, slots := 0, locals := 45 }) (PCx dC dI dA sz X Γ g [.ref h0]) (va_Qi (fun (r : Int32) (u : gh) => (∀ c j : Nat, c ≠ 100 → c ≠ 106 → c ≠ 107 → c ≠ 132 → c ≠ 134 → c ≠ 135 → c ≠ 144 → c ≠ 145 → u c j = g c j) ∧ (IJ u)) (okb dC dI dA sz X Γ) (ty_A sz)) 0 0 (ty_A sz) := by
  refine Met.ofW (cc := cX9_rush) (maxL := 5) (ret := (Option.some Jvm.ClassFile.FieldType.int)) (by decide) rfl ?_
  intro p e s m args below meth c s₁ B hml hv
  obtain ⟨rfl, hG, hE⟩ := hv
  have hx := B.exec
  have hb := B.bytes
  have hr := B.returns
  have hts := atoms_spec B.pre
  have hA : ∀ w ∈ AL, w.before _ s = true := fun w h => hts w (List.mem_cons_of_mem _ h)
  have hown : s.vm.findClass RX9 = some m.cls := findClass_of_methodNamed B.named
  have hlocks := B.notSynchronized
  have hS : va_S (ty_A sz) s.heap s.heap [] := va_S.rf
  have hl := lv_entry ([.ref h0]) (n := 5) (Nat.le_of_ble_eq_true rfl)
  rw [lg_entry_eq]
  generalize (lg_sl ([.ref h0]) ++ List.replicate (5 - (lg_sl ([.ref h0])).length) Slot.unset).toArray = ls at hl ⊢
  have hl : lv_has ls 5 [(0, .ref h0)] := hl
  refine lv_aload_n hx hb dX9_rush_0 rfl (lv_at hl 0 rfl) ?_
  refine ty_iconst hx hb (0) dX9_rush_1 (by decide) (fun x1 h2 => ?_)
  refine put_X9_0 hx hb hA hown hE hG hS hU t_h0 wd_4_130 dX9_rush_2 (fun H locs hG hS => ?_)
  refine ty_iconst hx hb (0) dX9_rush_5 (by decide) (fun x3 h4 => ?_)
  refine lv_istore_n (lv' := [(1, .int x3), (0, .ref h0)]) hx hb dX9_rush_6 rfl hl (by decide) rfl (fun ls hl => ?_)
  have e6 : (gs g 100 0 x1.toInt) 104 0 = g 104 0 := by simp [gs]
  have L_7 : ∀ (n : Nat) (v1_7 : Int32) (g5 : gh) (H : Heap) (locs : List Loc) (ls : Array Slot), (g5 104 0 - v1_7.toInt : Int) < n → 0 ≤ v1_7.toInt ∧ v1_7.toInt ≤ g5 104 0 → (∀ c j : Nat, c ≠ 144 → c ≠ 145 → g5 c j = (gs g 100 0 x1.toInt) c j) → ty_ok (dC, dI) vwCl Γ (TP dA Γ g5) sz X H → va_S (ty_A sz) s.heap H locs → lv_has ls 5 [(1, .int v1_7), (0, .ref h0)] → W p l e (headSpec (.code yX9_rush cX9_rush 5 (Option.some Jvm.ClassFile.FieldType.int) :: AL) ({ frames := 2, cells := 0, slots := 0, locals := 45 })).room s m ([.ref h0] : List Value).toArray below meth c H locs 0 0 (MQ below (va_Qi (fun (r : Int32) (u : gh) => (∀ c j : Nat, c ≠ 100 → c ≠ 106 → c ≠ 107 → c ≠ 132 → c ≠ 134 → c ≠ 135 → c ≠ 144 → c ≠ 145 → u c j = g c j) ∧ (IJ u)) (okb dC dI dA sz X Γ) (ty_A sz)) ([.ref h0] : List Value).toArray s 0 0 (ty_A sz)) (F0 m 7 ls []) := by
    intro n
    induction n with
    | zero => intro v1_7 g5 H locs ls hm hi0 hf7 hG hS hl; exfalso; omega
    | succ n ih_7 =>
      intro v1_7 g5 H locs ls hm hi0 hf7 hG hS hl
      have hj8 : IJ g5 := IJ_cg (hf7 126 0 (by decide) (by decide)) (fun j => hf7 132 j (by decide) (by decide)) (fun j => hf7 134 j (by decide) (by decide)) (by (repeat (first | with_reducible assumption | (refine IJ_c (by decide) (by decide) (by decide) ?_) | (refine IJ_take (by omega) (by omega) ?_) | (refine IJ_how (by omega) ?_) | (refine IJ_by (by omega) ?_))))
      have hk9 : g5 104 0 = (gs g 100 0 x1.toInt) 104 0 := hf7 104 0 (by decide) (by decide)
      have hk9 : g5 104 0 = g 104 0 := by rw [hk9]; simp [gs]
      refine lv_iload_n hx hb dX9_rush_7 rfl (lv_at hl 0 rfl) ?_
      refine lv_aload_n hx hb dX9_rush_8 rfl (lv_at hl 1 rfl) ?_
      refine get_X9_4 hx hb hA hown hE hG t_h0 wd_4_134 dX9_rush_9 (fun x10 h11 => ?_)
      refine ty_icmp_ge (tgt := 40) hx hb dX9_rush_12 (by decide) (fun c13 => ?_) (fun c13 => ?_)
      · skip
        refine ty_iconst hx hb (0) dX9_rush_40 (by decide) (fun x14 h15 => ?_)
        refine lv_istore_n (lv' := [(1, .int x14), (0, .ref h0)]) hx hb dX9_rush_41 rfl hl (by decide) rfl (fun ls hl => ?_)
        refine lv_aload_n hx hb dX9_rush_42 rfl (lv_at hl 1 rfl) ?_
        refine cI (va_runV (C := RX9) (As := []) (rest := []) ⟨hx, hb, hml, hown, hA⟩ (k_X9_nextInRush l dC dI dA sz X Γ hU g5 h0 t_h0   (by omega)) ⟨callB_of 0 hA (al_A wd_5_184) rfl rfl rfl (hA _ wd_1_7) (hA _ wd_5_181) (by decide +kernel) ⟨Nat.le_of_ble_eq_true rfl, Nat.le_of_ble_eq_true rfl⟩, hA _ wd_5_183, hA _ ws_54⟩ ⟨bl, recv_X9 hE hG t_h0, fun U hU9 hW9 => ⟨rfl, by rw [hU9]; exact hG, hE.go hS hU9 hW9⟩⟩ rfl rfl hl.1 rfl (lv_room (Nat.le_of_ble_eq_true rfl)) dX9_rush_43 ⟨Nat.zero_le _, Nat.zero_le _⟩) hS (fun x18 u16 H locs w17 hG hS => ?_)
        obtain ⟨eu19, w17⟩ := w17
        rw [eu19] at hG
        refine lv_istore_n (lv' := [(2, .int x18), (1, .int x14), (0, .ref h0)]) hx hb dX9_rush_46 rfl hl (by decide) rfl (fun ls hl => ?_)
        have L_47 : ∀ (n : Nat) (v2_47 : Int32) (v1_47 : Int32) (g20 : gh) (H : Heap) (locs : List Loc) (ls : Array Slot), ((cnt (g20 104 0).toNat (g20 144) 0 : Int) : Int) < n → v2_47.toInt = -1 ∨ (0 ≤ v2_47.toInt ∧ v2_47.toInt < g20 104 0 ∧ g20 144 v2_47.toInt.toNat = 0) → (∀ c j : Nat, c ≠ 106 → c ≠ 107 → c ≠ 132 → c ≠ 134 → c ≠ 135 → c ≠ 144 → g20 c j = g5 c j) → (IJ g20) → ty_ok (dC, dI) vwCl Γ (TP dA Γ g20) sz X H → va_S (ty_A sz) s.heap H locs → lv_has ls 5 [(2, .int v2_47), (1, .int v1_47), (0, .ref h0)] → W p l e (headSpec (.code yX9_rush cX9_rush 5 (Option.some Jvm.ClassFile.FieldType.int) :: AL) ({ frames := 2, cells := 0, slots := 0, locals := 45 })).room s m ([.ref h0] : List Value).toArray below meth c H locs 0 0 (MQ below (va_Qi (fun (r : Int32) (u : gh) => (∀ c j : Nat, c ≠ 100 → c ≠ 106 → c ≠ 107 → c ≠ 132 → c ≠ 134 → c ≠ 135 → c ≠ 144 → c ≠ 145 → u c j = g c j) ∧ (IJ u)) (okb dC dI dA sz X Γ) (ty_A sz)) ([.ref h0] : List Value).toArray s 0 0 (ty_A sz)) (F0 m 47 ls []) := by
          intro n
          induction n with
          | zero => intro v2_47 v1_47 g20 H locs ls hm hi0 hf21 hq0 hG hS hl; exfalso; omega
          | succ n ih_47 =>
            intro v2_47 v1_47 g20 H locs ls hm hi0 hf21 hq0 hG hS hl
            have hk22 : g20 104 0 = g5 104 0 := hf21 104 0 (by decide) (by decide) (by decide) (by decide) (by decide) (by decide)
            refine lv_iload_n hx hb dX9_rush_47 rfl (lv_at hl 0 rfl) ?_
            refine ty_iconst hx hb (-1) dX9_rush_48 (by decide) (fun x23 h24 => ?_)
            refine ty_icmp_eq (tgt := 199) hx hb dX9_rush_49 (by decide) (fun c25 => ?_) (fun c25 => ?_)
            · skip
              refine lv_iload_n hx hb dX9_rush_199 rfl (lv_at hl 1 rfl) ?_
              exact W.iret (v := v1_47) hx hb hr (fun t ht hW => ⟨⟨v1_47, g20, rfl, ⟨(fun c j h100 h106 h107 h132 h134 h135 h144 h145 => by rw [hf21 c j h106 h107 h132 h134 h135 h144, hf7 c j h144 h145, gs_c _ _ _ _ h100]), (by (repeat (first | with_reducible assumption | (refine IJ_c (by decide) (by decide) (by decide) ?_) | (refine IJ_take (by omega) (by omega) ?_) | (refine IJ_how (by omega) ?_) | (refine IJ_by (by omega) ?_))))⟩, ok1 ht hG⟩, hS.F ht⟩) hS.2.2 dX9_rush_200
            · skip
              refine lv_aload_n hx hb dX9_rush_52 rfl (lv_at hl 2 rfl) ?_
              refine get_X9_44 hx hb hA hown hE hG t_h0 wd_4_174 dX9_rush_53 (fun b26 (t_b26 : ty Γ b26 144) => ?_)
              refine lv_iload_n hx hb dX9_rush_56 rfl (lv_at hl 0 rfl) ?_
              refine ty_iconst hx hb (1) dX9_rush_57 (by decide) (fun x27 h28 => ?_)
              refine ast_mZ hx hb hE hG hS hU 44 rfl (n := 10) rfl (lo := 0) (hi := 1) rfl rfl rfl t_b26 (by omega) (by omega) (by omega) dX9_rush_58 (fun H locs hG hS => ?_)
              refine ty_iconst hx hb (-1) dX9_rush_59 (by decide) (fun x29 h30 => ?_)
              refine lv_istore_n (lv' := [(3, .int x29), (2, .int v2_47), (1, .int v1_47), (0, .ref h0)]) hx hb dX9_rush_60 rfl hl (by decide) rfl (fun ls hl => ?_)
              refine ty_iconst hx hb (0) dX9_rush_61 (by decide) (fun x31 h32 => ?_)
              refine lv_istore (lv' := [(4, .int x31), (3, .int x29), (2, .int v2_47), (1, .int v1_47), (0, .ref h0)]) hx hb dX9_rush_62 hl (by decide) rfl (fun ls hl => ?_)
              have hk33 : g20 126 0 = g5 126 0 := hf21 126 0 (by decide) (by decide) (by decide) (by decide) (by decide) (by decide)
              have hk34 : g5 126 0 = (gs g 100 0 x1.toInt) 126 0 := hf7 126 0 (by decide) (by decide)
              have hk34 : g5 126 0 = g 126 0 := by rw [hk34]; simp [gs]
              have e35 : (gs g20 144 v2_47.toInt.toNat x27.toInt) 126 0 = g20 126 0 := by simp [gs]
              have L_64 : ∀ (n : Nat) (v4_64 : Int32) (v3_64 : Int32) (H : Heap) (locs : List Loc) (ls : Array Slot), ((gs g20 144 v2_47.toInt.toNat x27.toInt) 126 0 - v4_64.toInt : Int) < n → 0 ≤ v4_64.toInt ∧ v4_64.toInt ≤ (gs g20 144 v2_47.toInt.toNat x27.toInt) 126 0 → -1 ≤ v3_64.toInt ∧ v3_64.toInt < v4_64.toInt → ty_ok (dC, dI) vwCl Γ (TP dA Γ (gs g20 144 v2_47.toInt.toNat x27.toInt)) sz X H → va_S (ty_A sz) s.heap H locs → lv_has ls 5 [(4, .int v4_64), (3, .int v3_64), (2, .int v2_47), (1, .int v1_47), (0, .ref h0)] → W p l e (headSpec (.code yX9_rush cX9_rush 5 (Option.some Jvm.ClassFile.FieldType.int) :: AL) ({ frames := 2, cells := 0, slots := 0, locals := 45 })).room s m ([.ref h0] : List Value).toArray below meth c H locs 0 0 (MQ below (va_Qi (fun (r : Int32) (u : gh) => (∀ c j : Nat, c ≠ 100 → c ≠ 106 → c ≠ 107 → c ≠ 132 → c ≠ 134 → c ≠ 135 → c ≠ 144 → c ≠ 145 → u c j = g c j) ∧ (IJ u)) (okb dC dI dA sz X Γ) (ty_A sz)) ([.ref h0] : List Value).toArray s 0 0 (ty_A sz)) (F0 m 64 ls []) := by
                intro n
                induction n with
                | zero => intro v4_64 v3_64 H locs ls hm hi0 hi1 hG hS hl; exfalso; omega
                | succ n ih_64 =>
                  intro v4_64 v3_64 H locs ls hm hi0 hi1 hG hS hl
                  refine lv_iload hx hb dX9_rush_64 (lv_at hl 0 rfl) ?_
                  refine lv_aload_n hx hb dX9_rush_66 rfl (lv_at hl 4 rfl) ?_
                  refine get_X9_26 hx hb hA hown hE hG t_h0 wd_4_156 dX9_rush_67 (fun x37 h38 => ?_)
                  replace h38 : x37.toInt = g20 126 0 := by rw [h38]; simp [gs]
                  refine ty_icmp_ge (tgt := 147) hx hb dX9_rush_70 (by decide) (fun c40 => ?_) (fun c40 => ?_)
                  · skip
                    refine lv_iload_n hx hb dX9_rush_147 rfl (lv_at hl 1 rfl) ?_
                    refine ty_iconst hx hb (-1) dX9_rush_148 (by decide) (fun x41 h42 => ?_)
                    refine ty_icmp_eq (tgt := 191) hx hb dX9_rush_149 (by decide) (fun c43 => ?_) (fun c43 => ?_)
                    · skip
                      refine lv_aload_n hx hb dX9_rush_191 rfl (lv_at hl 4 rfl) ?_
                      have e44 : (gs g20 144 v2_47.toInt.toNat x27.toInt) 104 0 = g20 104 0 := by simp [gs]
                      have e45 : (gs g20 144 v2_47.toInt.toNat x27.toInt) 104 0 = g20 104 0 := by simp [gs]
                      refine cI (va_runV (C := RX9) (As := []) (rest := []) ⟨hx, hb, hml, hown, hA⟩ (k_X9_nextInRush l dC dI dA sz X Γ hU (gs g20 144 v2_47.toInt.toNat x27.toInt) h0 t_h0   (by omega)) ⟨callB_of 0 hA (al_A wd_5_184) rfl rfl rfl (hA _ wd_1_7) (hA _ wd_5_181) (by decide +kernel) ⟨Nat.le_of_ble_eq_true rfl, Nat.le_of_ble_eq_true rfl⟩, hA _ wd_5_183, hA _ ws_54⟩ ⟨bl, recv_X9 hE hG t_h0, fun U hU9 hW9 => ⟨rfl, by rw [hU9]; exact hG, hE.go hS hU9 hW9⟩⟩ rfl rfl hl.1 rfl (lv_room (Nat.le_of_ble_eq_true rfl)) dX9_rush_192 ⟨Nat.zero_le _, Nat.zero_le _⟩) hS (fun x48 u46 H locs w47 hG hS => ?_)
                      obtain ⟨eu49, w47⟩ := w47
                      rw [eu49] at hG
                      refine lv_istore_n (lv' := [(2, .int x48), (4, .int v4_64), (3, .int v3_64), (1, .int v1_47), (0, .ref h0)]) hx hb dX9_rush_195 rfl hl (by decide) rfl (fun ls hl => ?_)
                      have hr50 : (gs g20 144 v2_47.toInt.toNat x27.toInt) 144 = (gs g20 144 v2_47.toInt.toNat x27.toInt) 144 := rfl
                      have hr51 : (gs g20 144 v2_47.toInt.toNat x27.toInt) 104 = g 104 := funext fun j => by rw [gs_c _ _ _ _ (by decide), hf21 104 j (by decide) (by decide) (by decide) (by decide) (by decide) (by decide), hf7 104 j (by decide) (by decide), gs_c _ _ _ _ (by decide)]
                      have h453 : g20 104 = g 104 := funext fun j => by rw [hf21 104 j (by decide) (by decide) (by decide) (by decide) (by decide) (by decide), hf7 104 j (by decide) (by decide), gs_c _ _ _ _ (by decide)]
                      have hm52 : cnt ((gs g20 144 v2_47.toInt.toNat x27.toInt) 104 0).toNat ((gs g20 144 v2_47.toInt.toNat x27.toInt) 144) 0 = cnt (g20 104 0).toNat ((gs g20 144 v2_47.toInt.toNat x27.toInt) 144) 0 := by rw [hr50, hr51, ← h453]
                      have hc54 := cnt_gs g20 144 (x27.toInt) 0 (j := v2_47.toInt.toNat) (n := (g20 104 0).toNat) (by omega)
                      refine lv_goto (tgt := 47) hx hb dX9_rush_196 (by decide) ?_
                      have e55 : (gs g20 144 v2_47.toInt.toNat x27.toInt) 104 0 = g20 104 0 := by simp [gs]
                      exact ih_47 x48 v1_47 (gs g20 144 v2_47.toInt.toNat x27.toInt) _ _ ls (by omega) (by omega) (fun c j h106 h107 h132 h134 h135 h144 => by rw [gs_c _ _ _ _ h144, hf21 c j h106 h107 h132 h134 h135 h144]) (by (repeat (first | with_reducible assumption | (refine IJ_c (by decide) (by decide) (by decide) ?_) | (refine IJ_take (by omega) (by omega) ?_) | (refine IJ_how (by omega) ?_) | (refine IJ_by (by omega) ?_)))) hG hS (lv_sub hl [0, 3, 4] rfl)
                    · skip
                      refine lv_aload_n hx hb dX9_rush_152 rfl (lv_at hl 4 rfl) ?_
                      refine lv_iload_n hx hb dX9_rush_153 rfl (lv_at hl 1 rfl) ?_
                      refine lv_iload_n hx hb dX9_rush_154 rfl (lv_at hl 2 rfl) ?_
                      refine cV (va_runV (C := RX9) (As := [.int v3_64, .int v2_47]) (rest := []) ⟨hx, hb, hml, hown, hA⟩ (k_X9_goesTo l dC dI dA sz X Γ hU (gs g20 144 v2_47.toInt.toNat x27.toInt) h0 t_h0 v3_64 v2_47   (by omega) (by (repeat (first | with_reducible assumption | (refine IJ_c (by decide) (by decide) (by decide) ?_) | (refine IJ_take (by omega) (by omega) ?_) | (refine IJ_how (by omega) ?_) | (refine IJ_by (by omega) ?_))))) ⟨callB_of 2 hA (al_A wd_5_176) rfl rfl rfl (hA _ wd_1_7) (hA _ wd_5_173) (by decide +kernel) ⟨Nat.le_of_ble_eq_true rfl, Nat.le_of_ble_eq_true rfl⟩, hA _ wd_5_175, hA _ ws_53⟩ ⟨bl, recv_X9 hE hG t_h0, fun U hU9 hW9 => ⟨rfl, by rw [hU9]; exact hG, hE.go hS hU9 hW9⟩⟩ rfl rfl hl.1 rfl (lv_room (Nat.le_of_ble_eq_true rfl)) dX9_rush_155 ⟨Nat.zero_le _, Nat.zero_le _⟩) hS (fun u56 H locs w57 hG hS => ?_)
                      obtain ⟨hf59, hq58⟩ := w57
                      refine lv_aload_n hx hb dX9_rush_158 rfl (lv_at hl 4 rfl) ?_
                      refine get_X9_7 hx hb hA hown hE hG t_h0 wd_4_137 dX9_rush_159 (fun b60 (t_b60 : ty Γ b60 107) => ?_)
                      refine lv_iload_n hx hb dX9_rush_162 rfl (lv_at hl 2 rfl) ?_
                      refine lv_dup2_11 hx hb dX9_rush_163 rfl rfl ?_
                      refine ald_mI hx hb hE hG 7 rfl (n := 10) rfl (lo := -2147483648) (hi := 2147483647) rfl rfl t_b60 (by omega) dX9_rush_164 (fun j62 x61 h63 h64 h65 => ?_)
                      clear h65
                      refine lv_aload_n hx hb dX9_rush_165 rfl (lv_at hl 4 rfl) ?_
                      refine get_X9_31 hx hb hA hown hE hG t_h0 wd_4_161 dX9_rush_166 (fun b66 (t_b66 : ty Γ b66 131) => ?_)
                      refine lv_iload_n hx hb dX9_rush_169 rfl (lv_at hl 1 rfl) ?_
                      refine ald_mI hx hb hE hG 31 rfl (n := 200) rfl (lo := -2147483648) (hi := 2147483647) rfl rfl t_b66 (by omega) dX9_rush_170 (fun j68 x67 h69 h70 h71 => ?_)
                      clear h71
                      refine ty_iadd hx hb dX9_rush_171 (fun x72 h73 => ?_)
                      refine ast_mI hx hb hE hG hS hU 7 rfl (n := 10) rfl (lo := -2147483648) (hi := 2147483647) rfl rfl rfl t_b60 (rgD _) (by omega) dX9_rush_172 (fun H locs hG hS => ?_)
                      refine lv_aload_n hx hb dX9_rush_173 rfl (lv_at hl 4 rfl) ?_
                      refine get_X9_35 hx hb hA hown hE hG t_h0 wd_4_165 dX9_rush_174 (fun b75 (t_b75 : ty Γ b75 135) => ?_)
                      refine ty_iconst hx hb (4) dX9_rush_177 (by decide) (fun x76 h77 => ?_)
                      refine ty_sipush hx hb (200) dX9_rush_178 (by decide) (fun x78 h79 => ?_)
                      refine lv_iload_n hx hb dX9_rush_181 rfl (lv_at hl 2 rfl) ?_
                      refine ty_iadd hx hb dX9_rush_182 (fun x80 h81 => ?_)
                      try have h82 : x80.toInt = x78.toInt + v2_47.toInt := ty_add h81 (by omega) (by omega)
                      refine ty_imul hx hb dX9_rush_183 (fun x83 h84 => ?_)
                      try have h85 : x83.toInt = 4 * x80.toInt := ty_mull h84 (by omega) (by omega) (by omega)
                      refine ty_iconst hx hb (3) dX9_rush_184 (by decide) (fun x86 h87 => ?_)
                      refine ty_iadd hx hb dX9_rush_185 (fun x88 h89 => ?_)
                      try have h90 : x88.toInt = x83.toInt + x86.toInt := ty_add h89 (by omega) (by omega)
                      refine ty_iconst hx hb (0) dX9_rush_186 (by decide) (fun x91 h92 => ?_)
                      refine ast_mI hx hb hE hG hS hU 35 rfl (n := 840) rfl (lo := -2147483648) (hi := 2147483647) rfl rfl rfl t_b75 (rgD _) (by omega) dX9_rush_187 (fun H locs hG hS => ?_)
                      obtain ⟨x93, h94⟩ : ∃ y : Int32, y = v1_47 + Int32.ofInt (1) := ⟨_, rfl⟩
                      try have h95 : x93.toInt = v1_47.toInt + (1) := ty_inc h94 (by decide) (by omega) (by omega)
                      refine lv_iinc (v := x93) (lv' := [(1, .int x93), (4, .int v4_64), (3, .int v3_64), (2, .int v2_47), (0, .ref h0)]) hx hb dX9_rush_188 hl (k := 3) rfl h94.symm (by decide) rfl (fun ls hl => ?_)
                      refine lv_aload_n hx hb dX9_rush_191 rfl (lv_at hl 4 rfl) ?_
                      have hk96 : u56 104 0 = (gs g20 144 v2_47.toInt.toNat x27.toInt) 104 0 := hf59 104 0 (by decide) (by decide) (by decide)
                      have hk96 : u56 104 0 = g20 104 0 := by rw [hk96]; simp [gs]
                      have e97 : (gs (gs u56 107 v2_47.toInt.toNat x72.toInt) 135 x88.toInt.toNat x91.toInt) 104 0 = u56 104 0 := by simp [gs]
                      have e98 : (gs (gs u56 107 v2_47.toInt.toNat x72.toInt) 135 x88.toInt.toNat x91.toInt) 104 0 = u56 104 0 := by simp [gs]
                      refine cI (va_runV (C := RX9) (As := []) (rest := []) ⟨hx, hb, hml, hown, hA⟩ (k_X9_nextInRush l dC dI dA sz X Γ hU (gs (gs u56 107 v2_47.toInt.toNat x72.toInt) 135 x88.toInt.toNat x91.toInt) h0 t_h0   (by omega)) ⟨callB_of 0 hA (al_A wd_5_184) rfl rfl rfl (hA _ wd_1_7) (hA _ wd_5_181) (by decide +kernel) ⟨Nat.le_of_ble_eq_true rfl, Nat.le_of_ble_eq_true rfl⟩, hA _ wd_5_183, hA _ ws_54⟩ ⟨bl, recv_X9 hE hG t_h0, fun U hU9 hW9 => ⟨rfl, by rw [hU9]; exact hG, hE.go hS hU9 hW9⟩⟩ rfl rfl hl.1 rfl (lv_room (Nat.le_of_ble_eq_true rfl)) dX9_rush_192 ⟨Nat.zero_le _, Nat.zero_le _⟩) hS (fun x101 u99 H locs w100 hG hS => ?_)
                      obtain ⟨eu102, w100⟩ := w100
                      rw [eu102] at hG
                      refine lv_istore_n (lv' := [(2, .int x101), (1, .int x93), (4, .int v4_64), (3, .int v3_64), (0, .ref h0)]) hx hb dX9_rush_195 rfl hl (by decide) rfl (fun ls hl => ?_)
                      have hr103 : (gs (gs u56 107 v2_47.toInt.toNat x72.toInt) 135 x88.toInt.toNat x91.toInt) 144 = (gs g20 144 v2_47.toInt.toNat x27.toInt) 144 := funext fun j => by rw [gs_c _ _ _ _ (by decide), gs_c _ _ _ _ (by decide), hf59 144 j (by decide) (by decide) (by decide)]
                      have hr104 : (gs (gs u56 107 v2_47.toInt.toNat x72.toInt) 135 x88.toInt.toNat x91.toInt) 104 = g 104 := funext fun j => by rw [gs_c _ _ _ _ (by decide), gs_c _ _ _ _ (by decide), hf59 104 j (by decide) (by decide) (by decide), gs_c _ _ _ _ (by decide), hf21 104 j (by decide) (by decide) (by decide) (by decide) (by decide) (by decide), hf7 104 j (by decide) (by decide), gs_c _ _ _ _ (by decide)]
                      have h4106 : g20 104 = g 104 := funext fun j => by rw [hf21 104 j (by decide) (by decide) (by decide) (by decide) (by decide) (by decide), hf7 104 j (by decide) (by decide), gs_c _ _ _ _ (by decide)]
                      have hm105 : cnt ((gs (gs u56 107 v2_47.toInt.toNat x72.toInt) 135 x88.toInt.toNat x91.toInt) 104 0).toNat ((gs (gs u56 107 v2_47.toInt.toNat x72.toInt) 135 x88.toInt.toNat x91.toInt) 144) 0 = cnt (g20 104 0).toNat ((gs g20 144 v2_47.toInt.toNat x27.toInt) 144) 0 := by rw [hr103, hr104, ← h4106]
                      have hc107 := cnt_gs g20 144 (x27.toInt) 0 (j := v2_47.toInt.toNat) (n := (g20 104 0).toNat) (by omega)
                      refine lv_goto (tgt := 47) hx hb dX9_rush_196 (by decide) ?_
                      have e108 : (gs (gs u56 107 v2_47.toInt.toNat x72.toInt) 135 x88.toInt.toNat x91.toInt) 104 0 = u56 104 0 := by simp [gs]
                      exact ih_47 x101 x93 (gs (gs u56 107 v2_47.toInt.toNat x72.toInt) 135 x88.toInt.toNat x91.toInt) _ _ ls (by omega) (by omega) (fun c j h106 h107 h132 h134 h135 h144 => by rw [gs_c _ _ _ _ h135, gs_c _ _ _ _ h107, hf59 c j h106 h132 h134, gs_c _ _ _ _ h144, hf21 c j h106 h107 h132 h134 h135 h144]) (by (repeat (first | with_reducible assumption | (refine IJ_c (by decide) (by decide) (by decide) ?_) | (refine IJ_take (by omega) (by omega) ?_) | (refine IJ_how (by omega) ?_) | (refine IJ_by (by omega) ?_)))) hG hS (lv_sub hl [0, 1, 4] rfl)
                  · skip
                    refine lv_aload_n hx hb dX9_rush_73 rfl (lv_at hl 4 rfl) ?_
                    refine get_X9_32 hx hb hA hown hE hG t_h0 wd_4_162 dX9_rush_74 (fun b109 (t_b109 : ty Γ b109 132) => ?_)
                    refine lv_iload hx hb dX9_rush_77 (lv_at hl 0 rfl) ?_
                    refine ald_mI hx hb hE hG 32 rfl (n := 200) rfl (lo := -2147483648) (hi := 2147483647) rfl rfl t_b109 (by omega) dX9_rush_79 (fun j111 x110 h112 h113 h114 => ?_)
                    clear h114
                    refine ty_iconst hx hb (2) dX9_rush_80 (by decide) (fun x115 h116 => ?_)
                    refine ty_icmp_ne (tgt := 141) hx hb dX9_rush_81 (by decide) (fun c117 => ?_) (fun c117 => ?_)
                    · skip
                      obtain ⟨x118, h119⟩ : ∃ y : Int32, y = v4_64 + Int32.ofInt (1) := ⟨_, rfl⟩
                      try have h120 : x118.toInt = v4_64.toInt + (1) := ty_inc h119 (by decide) (by omega) (by omega)
                      refine lv_iinc (v := x118) (lv' := [(4, .int x118), (3, .int v3_64), (2, .int v2_47), (1, .int v1_47), (0, .ref h0)]) hx hb dX9_rush_141 hl (k := 0) rfl h119.symm (by decide) rfl (fun ls hl => ?_)
                      refine lv_goto (tgt := 64) hx hb dX9_rush_144 (by decide) ?_
                      have e121 : (gs g20 144 v2_47.toInt.toNat x27.toInt) 126 0 = g20 126 0 := by simp [gs]
                      exact ih_64 x118 v3_64 _ _ ls (by omega) (by omega) (by omega) hG hS (lv_sub hl [0, 1, 2, 3, 4] rfl)
                    · skip
                      refine lv_aload_n hx hb dX9_rush_84 rfl (lv_at hl 4 rfl) ?_
                      refine lv_iload hx hb dX9_rush_85 (lv_at hl 0 rfl) ?_
                      refine ty_sipush hx hb (200) dX9_rush_87 (by decide) (fun x122 h123 => ?_)
                      refine lv_iload_n hx hb dX9_rush_90 rfl (lv_at hl 2 rfl) ?_
                      refine ty_iadd hx hb dX9_rush_91 (fun x124 h125 => ?_)
                      try have h126 : x124.toInt = x122.toInt + v2_47.toInt := ty_add h125 (by omega) (by omega)
                      refine cI (va_runV (C := RX9) (As := [.int v4_64, .int x124]) (rest := []) ⟨hx, hb, hml, hown, hA⟩ (k_X9_meets l dC dI dA sz X Γ hU (gs g20 144 v2_47.toInt.toNat x27.toInt) h0 t_h0 v4_64 x124   (by omega)) ⟨callB_of 2 hA (al_A wd_5_156) rfl rfl rfl (hA _ wd_1_7) (hA _ wd_5_153) (by decide +kernel) ⟨Nat.le_of_ble_eq_true rfl, Nat.le_of_ble_eq_true rfl⟩, hA _ wd_5_155, hA _ ws_50⟩ ⟨bl, recv_X9 hE hG t_h0, fun U hU9 hW9 => ⟨rfl, by rw [hU9]; exact hG, hE.go hS hU9 hW9⟩⟩ rfl rfl hl.1 rfl (lv_room (Nat.le_of_ble_eq_true rfl)) dX9_rush_92 ⟨Nat.zero_le _, Nat.zero_le _⟩) hS (fun x129 u127 H locs w128 hG hS => ?_)
                      obtain ⟨eu130, w128⟩ := w128
                      rw [eu130] at hG
                      refine ty_if_eq (tgt := 141) hx hb dX9_rush_95 (by decide) (fun c131 => ?_) (fun c131 => ?_)
                      · skip
                        obtain ⟨x132, h133⟩ : ∃ y : Int32, y = v4_64 + Int32.ofInt (1) := ⟨_, rfl⟩
                        try have h134 : x132.toInt = v4_64.toInt + (1) := ty_inc h133 (by decide) (by omega) (by omega)
                        refine lv_iinc (v := x132) (lv' := [(4, .int x132), (3, .int v3_64), (2, .int v2_47), (1, .int v1_47), (0, .ref h0)]) hx hb dX9_rush_141 hl (k := 0) rfl h133.symm (by decide) rfl (fun ls hl => ?_)
                        refine lv_goto (tgt := 64) hx hb dX9_rush_144 (by decide) ?_
                        have e135 : (gs g20 144 v2_47.toInt.toNat x27.toInt) 126 0 = g20 126 0 := by simp [gs]
                        exact ih_64 x132 v3_64 _ _ ls (by omega) (by omega) (by omega) hG hS (lv_sub hl [0, 1, 2, 3, 4] rfl)
                      · skip
                        refine lv_aload_n hx hb dX9_rush_98 rfl (lv_at hl 4 rfl) ?_
                        refine get_X9_31 hx hb hA hown hE hG t_h0 wd_4_161 dX9_rush_99 (fun b136 (t_b136 : ty Γ b136 131) => ?_)
                        refine lv_iload hx hb dX9_rush_102 (lv_at hl 0 rfl) ?_
                        refine ald_mI hx hb hE hG 31 rfl (n := 200) rfl (lo := -2147483648) (hi := 2147483647) rfl rfl t_b136 (by omega) dX9_rush_104 (fun j138 x137 h139 h140 h141 => ?_)
                        clear h141
                        refine lv_aload_n hx hb dX9_rush_105 rfl (lv_at hl 4 rfl) ?_
                        refine get_X9_6 hx hb hA hown hE hG t_h0 wd_4_136 dX9_rush_106 (fun b142 (t_b142 : ty Γ b142 106) => ?_)
                        refine lv_iload_n hx hb dX9_rush_109 rfl (lv_at hl 2 rfl) ?_
                        refine ald_mI hx hb hE hG 6 rfl (n := 10) rfl (lo := -2147483648) (hi := 2147483647) rfl rfl t_b142 (by omega) dX9_rush_110 (fun j144 x143 h145 h146 h147 => ?_)
                        clear h147
                        refine ty_icmp_le (tgt := 117) hx hb dX9_rush_111 (by decide) (fun c148 => ?_) (fun c148 => ?_)
                        · skip
                          refine lv_iload_n hx hb dX9_rush_117 rfl (lv_at hl 1 rfl) ?_
                          refine ty_iconst hx hb (-1) dX9_rush_118 (by decide) (fun x149 h150 => ?_)
                          refine ty_icmp_eq (tgt := 138) hx hb dX9_rush_119 (by decide) (fun c151 => ?_) (fun c151 => ?_)
                          · skip
                            refine lv_iload hx hb dX9_rush_138 (lv_at hl 0 rfl) ?_
                            refine lv_istore_n (lv' := [(3, .int v4_64), (4, .int v4_64), (2, .int v2_47), (1, .int v1_47), (0, .ref h0)]) hx hb dX9_rush_140 rfl hl (by decide) rfl (fun ls hl => ?_)
                            obtain ⟨x152, h153⟩ : ∃ y : Int32, y = v4_64 + Int32.ofInt (1) := ⟨_, rfl⟩
                            try have h154 : x152.toInt = v4_64.toInt + (1) := ty_inc h153 (by decide) (by omega) (by omega)
                            refine lv_iinc (v := x152) (lv' := [(4, .int x152), (3, .int v4_64), (2, .int v2_47), (1, .int v1_47), (0, .ref h0)]) hx hb dX9_rush_141 hl (k := 1) rfl h153.symm (by decide) rfl (fun ls hl => ?_)
                            refine lv_goto (tgt := 64) hx hb dX9_rush_144 (by decide) ?_
                            have e155 : (gs g20 144 v2_47.toInt.toNat x27.toInt) 126 0 = g20 126 0 := by simp [gs]
                            exact ih_64 x152 v4_64 _ _ ls (by omega) (by omega) (by omega) hG hS (lv_sub hl [0, 1, 2, 3, 4] rfl)
                          · skip
                            refine lv_aload_n hx hb dX9_rush_122 rfl (lv_at hl 4 rfl) ?_
                            refine get_X9_31 hx hb hA hown hE hG t_h0 wd_4_161 dX9_rush_123 (fun b156 (t_b156 : ty Γ b156 131) => ?_)
                            refine lv_iload hx hb dX9_rush_126 (lv_at hl 0 rfl) ?_
                            refine ald_mI hx hb hE hG 31 rfl (n := 200) rfl (lo := -2147483648) (hi := 2147483647) rfl rfl t_b156 (by omega) dX9_rush_128 (fun j158 x157 h159 h160 h161 => ?_)
                            clear h161
                            refine lv_aload_n hx hb dX9_rush_129 rfl (lv_at hl 4 rfl) ?_
                            refine get_X9_31 hx hb hA hown hE hG t_h0 wd_4_161 dX9_rush_130 (fun b162 (t_b162 : ty Γ b162 131) => ?_)
                            refine lv_iload_n hx hb dX9_rush_133 rfl (lv_at hl 1 rfl) ?_
                            refine ald_mI hx hb hE hG 31 rfl (n := 200) rfl (lo := -2147483648) (hi := 2147483647) rfl rfl t_b162 (by omega) dX9_rush_134 (fun j164 x163 h165 h166 h167 => ?_)
                            clear h167
                            refine ty_icmp_le (tgt := 141) hx hb dX9_rush_135 (by decide) (fun c168 => ?_) (fun c168 => ?_)
                            · skip
                              obtain ⟨x169, h170⟩ : ∃ y : Int32, y = v4_64 + Int32.ofInt (1) := ⟨_, rfl⟩
                              try have h171 : x169.toInt = v4_64.toInt + (1) := ty_inc h170 (by decide) (by omega) (by omega)
                              refine lv_iinc (v := x169) (lv' := [(4, .int x169), (3, .int v3_64), (2, .int v2_47), (1, .int v1_47), (0, .ref h0)]) hx hb dX9_rush_141 hl (k := 0) rfl h170.symm (by decide) rfl (fun ls hl => ?_)
                              refine lv_goto (tgt := 64) hx hb dX9_rush_144 (by decide) ?_
                              have e172 : (gs g20 144 v2_47.toInt.toNat x27.toInt) 126 0 = g20 126 0 := by simp [gs]
                              exact ih_64 x169 v3_64 _ _ ls (by omega) (by omega) (by omega) hG hS (lv_sub hl [0, 1, 2, 3, 4] rfl)
                            · skip
                              refine lv_iload hx hb dX9_rush_138 (lv_at hl 0 rfl) ?_
                              refine lv_istore_n (lv' := [(3, .int v4_64), (4, .int v4_64), (2, .int v2_47), (1, .int v1_47), (0, .ref h0)]) hx hb dX9_rush_140 rfl hl (by decide) rfl (fun ls hl => ?_)
                              obtain ⟨x173, h174⟩ : ∃ y : Int32, y = v4_64 + Int32.ofInt (1) := ⟨_, rfl⟩
                              try have h175 : x173.toInt = v4_64.toInt + (1) := ty_inc h174 (by decide) (by omega) (by omega)
                              refine lv_iinc (v := x173) (lv' := [(4, .int x173), (3, .int v4_64), (2, .int v2_47), (1, .int v1_47), (0, .ref h0)]) hx hb dX9_rush_141 hl (k := 1) rfl h174.symm (by decide) rfl (fun ls hl => ?_)
                              refine lv_goto (tgt := 64) hx hb dX9_rush_144 (by decide) ?_
                              have e176 : (gs g20 144 v2_47.toInt.toNat x27.toInt) 126 0 = g20 126 0 := by simp [gs]
                              exact ih_64 x173 v4_64 _ _ ls (by omega) (by omega) (by omega) hG hS (lv_sub hl [0, 1, 2, 3, 4] rfl)
                        · skip
                          refine lv_goto (tgt := 141) hx hb dX9_rush_114 (by decide) ?_
                          obtain ⟨x177, h178⟩ : ∃ y : Int32, y = v4_64 + Int32.ofInt (1) := ⟨_, rfl⟩
                          try have h179 : x177.toInt = v4_64.toInt + (1) := ty_inc h178 (by decide) (by omega) (by omega)
                          refine lv_iinc (v := x177) (lv' := [(4, .int x177), (3, .int v3_64), (2, .int v2_47), (1, .int v1_47), (0, .ref h0)]) hx hb dX9_rush_141 hl (k := 0) rfl h178.symm (by decide) rfl (fun ls hl => ?_)
                          refine lv_goto (tgt := 64) hx hb dX9_rush_144 (by decide) ?_
                          have e180 : (gs g20 144 v2_47.toInt.toNat x27.toInt) 126 0 = g20 126 0 := by simp [gs]
                          exact ih_64 x177 v3_64 _ _ ls (by omega) (by omega) (by omega) hG hS (lv_sub hl [0, 1, 2, 3, 4] rfl)
              have e181 : (gs g20 144 v2_47.toInt.toNat x27.toInt) 126 0 = g20 126 0 := by simp [gs]
              exact L_64 (((gs g20 144 v2_47.toInt.toNat x27.toInt) 126 0 - x31.toInt) + 1).toNat x31 x29 _ _ ls (by omega) (by omega) (by omega) hG hS (lv_sub hl [0, 1, 2, 3, 4] rfl)
        exact L_47 (((cnt (g5 104 0).toNat (g5 144) 0 : Int)) + 1).toNat x18 x14 g5 _ _ ls (by omega) (by omega) (fun c j _ _ _ _ _ _ => rfl) (by (repeat (first | with_reducible assumption | (refine IJ_c (by decide) (by decide) (by decide) ?_) | (refine IJ_take (by omega) (by omega) ?_) | (refine IJ_how (by omega) ?_) | (refine IJ_by (by omega) ?_)))) hG hS (lv_sub hl [0, 1, 2] rfl)
      · skip
        refine lv_aload_n hx hb dX9_rush_15 rfl (lv_at hl 1 rfl) ?_
        refine get_X9_44 hx hb hA hown hE hG t_h0 wd_4_174 dX9_rush_16 (fun b182 (t_b182 : ty Γ b182 144) => ?_)
        refine lv_iload_n hx hb dX9_rush_19 rfl (lv_at hl 0 rfl) ?_
        refine ty_iconst hx hb (0) dX9_rush_20 (by decide) (fun x183 h184 => ?_)
        refine ast_mZ hx hb hE hG hS hU 44 rfl (n := 10) rfl (lo := 0) (hi := 1) rfl rfl rfl t_b182 (by omega) (by omega) (by omega) dX9_rush_21 (fun H locs hG hS => ?_)
        refine lv_aload_n hx hb dX9_rush_22 rfl (lv_at hl 1 rfl) ?_
        refine get_X9_45 hx hb hA hown hE hG t_h0 wd_4_175 dX9_rush_23 (fun b185 (t_b185 : ty Γ b185 145) => ?_)
        refine lv_iload_n hx hb dX9_rush_26 rfl (lv_at hl 0 rfl) ?_
        refine lv_aload_n hx hb dX9_rush_27 rfl (lv_at hl 1 rfl) ?_
        refine get_X9_7 hx hb hA hown hE hG t_h0 wd_4_137 dX9_rush_28 (fun b186 (t_b186 : ty Γ b186 107) => ?_)
        refine lv_iload_n hx hb dX9_rush_31 rfl (lv_at hl 0 rfl) ?_
        refine ald_mI hx hb hE hG 7 rfl (n := 10) rfl (lo := -2147483648) (hi := 2147483647) rfl rfl t_b186 (by omega) dX9_rush_32 (fun j188 x187 h189 h190 h191 => ?_)
        clear h191
        refine ast_mI hx hb hE hG hS hU 45 rfl (n := 10) rfl (lo := -2147483648) (hi := 2147483647) rfl rfl rfl t_b185 (rgD _) (by omega) dX9_rush_33 (fun H locs hG hS => ?_)
        obtain ⟨x192, h193⟩ : ∃ y : Int32, y = v1_7 + Int32.ofInt (1) := ⟨_, rfl⟩
        try have h194 : x192.toInt = v1_7.toInt + (1) := ty_inc h193 (by decide) (by omega) (by omega)
        refine lv_iinc (v := x192) (lv' := [(1, .int x192), (0, .ref h0)]) hx hb dX9_rush_34 hl (k := 0) rfl h193.symm (by decide) rfl (fun ls hl => ?_)
        refine lv_goto (tgt := 7) hx hb dX9_rush_37 (by decide) ?_
        have e195 : (gs (gs g5 144 v1_7.toInt.toNat x183.toInt) 145 v1_7.toInt.toNat x187.toInt) 104 0 = g5 104 0 := by simp [gs]
        exact ih_7 x192 (gs (gs g5 144 v1_7.toInt.toNat x183.toInt) 145 v1_7.toInt.toNat x187.toInt) _ _ ls (by omega) (by omega) (fun c j h144 h145 => by rw [gs_c _ _ _ _ h145, gs_c _ _ _ _ h144, hf7 c j h144 h145]) hG hS (lv_sub hl [0, 1] rfl)
  have e196 : (gs g 100 0 x1.toInt) 104 0 = g 104 0 := by simp [gs]
  exact L_7 (((gs g 100 0 x1.toInt) 104 0 - x3.toInt) + 1).toNat x3 (gs g 100 0 x1.toInt) _ _ ls (by omega) (by omega) (fun c j _ _ => rfl) hG hS (lv_sub hl [0, 1] rfl)
