set_option maxHeartbeats 4000000 in
set_option maxRecDepth 100000 in
/-- WeekBankModel.rings:  -/
theorem k_X9_rings (l : Launch) (dC : Nat → ClassId) (dI : Nat → Nat → Nat) (dA : Nat → ClassId) (sz : Nat) (X : va_W) (Γ : ty_G) (hU : Un Γ) (g : gh) (h0 : Nat) (t_h0 : ty Γ h0 30) (p1 : Int32) (m26 : 0 ≤ g 126 0 ∧ g 126 0 ≤ 200) (hIJ : IJ g) (h131 : ∀ i : Nat, i < (g 126 0).toNat → 0 ≤ g 131 i ∧ g 131 i ≤ 29997) : Met l yX9_rings (.code yX9_rings cX9_rings 7 (Option.some Jvm.ClassFile.FieldType.int) :: AL) ({ frames := 28, cells := 0, slots := 0, locals := 927 }) (PCx dC dI dA sz X Γ g [.ref h0, .int p1]) (va_Qi (fun (r : Int32) (u : gh) => (∀ c j : Nat, c ≠ 100 → c ≠ 132 → c ≠ 133 → c ≠ 134 → c ≠ 136 → c ≠ 137 → c ≠ 138 → c ≠ 139 → c ≠ 140 → c ≠ 141 → c ≠ 142 → c ≠ 143 → u c j = g c j) ∧ (IJ u) ∧ ((2 ≤ p1.toInt ∧ p1.toInt ≤ 9 → RGS (g 126 0).toNat p1.toInt.toNat (su_m (g 132) (g 135) (g 128) (g 129) (g 102) (g 103)) (g 131) (g 127) (g 132) (g 133) (g 134) (u 132) (u 133) (u 134) r.toInt) ∧ (¬ (2 ≤ p1.toInt ∧ p1.toInt ≤ 9) → r.toInt = -1 ∧ u 132 = (g 132) ∧ u 133 = (g 133) ∧ u 134 = (g 134)))) (okb dC dI dA sz X Γ) (ty_A sz)) 0 0 (ty_A sz) := by
  refine Met.ofW (cc := cX9_rings) (maxL := 7) (ret := (Option.some Jvm.ClassFile.FieldType.int)) (by decide) rfl ?_
  intro p e s m args below meth c s₁ B hml hv
  obtain ⟨rfl, hG, hE⟩ := hv
  have hx := B.exec
  have hb := B.bytes
  have hr := B.returns
  have hts := atoms_spec B.pre
  have hA : ∀ w ∈ AL, w.before _ s = true := fun w h => hts w (List.mem_cons_of_mem _ h)
  have hown : s.vm.findClass RX9 = some m.cls := findClass_of_methodNamed B.named
  have hlocks := B.notSynchronized
  have hS : va_S (ty_A sz) s.heap s.heap [] := va_S.rf
  have hl := lv_entry ([.ref h0, .int p1]) (n := 7) (Nat.le_of_ble_eq_true rfl)
  rw [lg_entry_eq]
  generalize (lg_sl ([.ref h0, .int p1]) ++ List.replicate (7 - (lg_sl ([.ref h0, .int p1])).length) Slot.unset).toArray = ls at hl ⊢
  have hl : lv_has ls 7 [(0, .ref h0), (1, .int p1)] := hl
  refine lv_aload_n hx hb dX9_rings_0 rfl (lv_at hl 0 rfl) ?_
  refine ty_iconst hx hb (0) dX9_rings_1 (by decide) (fun x1 h2 => ?_)
  refine put_X9_0 hx hb hA hown hE hG hS hU t_h0 wd_4_130 dX9_rings_2 (fun H locs hG hS => ?_)
  refine lv_iload_n hx hb dX9_rings_5 rfl (lv_at hl 1 rfl) ?_
  refine ty_iconst hx hb (2) dX9_rings_6 (by decide) (fun x3 h4 => ?_)
  refine ty_bipush hx hb (9) dX9_rings_7 (by decide) (fun x5 h6 => ?_)
  refine cI (va_runS (As := [.int p1, .int x3, .int x5]) (rest := []) ⟨hx, hb, hml, hown, hA⟩ (k_X9_within l dC dI dA sz X Γ hU (gs g 100 0 x1.toInt) p1 x3 x5   ) ⟨callB_of 3 hA (al_A wd_5_38) rfl rfl rfl (hA _ wd_1_7) (hA _ wd_5_36) (by decide +kernel) ⟨Nat.le_of_ble_eq_true rfl, Nat.le_of_ble_eq_true rfl⟩, hA _ wd_5_37⟩ ⟨bl, fun U hU9 hW9 => ⟨rfl, by rw [hU9]; exact hG, hE.go hS hU9 hW9⟩⟩ rfl rfl hl.1 rfl (lv_room (Nat.le_of_ble_eq_true rfl)) dX9_rings_9 ⟨Nat.zero_le _, Nat.zero_le _⟩) hS (fun x9 u7 H locs w8 hG hS => ?_)
  obtain ⟨eu10, w8⟩ := w8
  rw [eu10] at hG
  refine ty_if_ne (tgt := 17) hx hb dX9_rings_12 (by decide) (fun c11 => ?_) (fun c11 => ?_)
  · skip
    refine lv_aload_n hx hb dX9_rings_17 rfl (lv_at hl 0 rfl) ?_
    refine ty_iconst hx hb (0) dX9_rings_18 (by decide) (fun x12 h13 => ?_)
    refine put_X9_37 hx hb hA hown hE hG hS hU t_h0 wd_4_167 dX9_rings_19 (fun H locs hG hS => ?_)
    refine lv_aload_n hx hb dX9_rings_22 rfl (lv_at hl 0 rfl) ?_
    refine lv_iload_n hx hb dX9_rings_23 rfl (lv_at hl 1 rfl) ?_
    refine put_X9_43 hx hb hA hown hE hG hS hU t_h0 wd_4_173 dX9_rings_24 (fun H locs hG hS => ?_)
    refine ty_iconst hx hb (0) dX9_rings_27 (by decide) (fun x14 h15 => ?_)
    refine lv_istore_n (lv' := [(2, .int x14), (0, .ref h0), (1, .int p1)]) hx hb dX9_rings_28 rfl hl (by decide) rfl (fun ls hl => ?_)
    refine ty_iconst hx hb (0) dX9_rings_29 (by decide) (fun x16 h17 => ?_)
    refine lv_istore_n (lv' := [(3, .int x16), (2, .int x14), (0, .ref h0), (1, .int p1)]) hx hb dX9_rings_30 rfl hl (by decide) rfl (fun ls hl => ?_)
    have e19 : (gs (gs (gs g 100 0 x1.toInt) 137 0 x12.toInt) 143 0 p1.toInt) 126 0 = g 126 0 := by rw [gs_c _ _ _ _ (by decide), gs_c _ _ _ _ (by decide), gs_c _ _ _ _ (by decide)]
    have e20 : (gs (gs (gs g 100 0 x1.toInt) 137 0 x12.toInt) 143 0 p1.toInt) 137 0 = x12.toInt := by rw [gs_c _ _ _ _ (by decide), gs_self]
    have L_31 : ∀ (n : Nat) (v3_31 : Int32) (v2_31 : Int32) (g18 : gh) (H : Heap) (locs : List Loc) (ls : Array Slot), (g18 126 0 - v3_31.toInt : Int) < n → 0 ≤ v3_31.toInt ∧ v3_31.toInt ≤ g18 126 0 → g18 137 0 = (cnt v3_31.toInt.toNat (g 132) 0 : Int) ∧ 0 ≤ g18 137 0 ∧ g18 137 0 ≤ 9 → 0 ≤ v2_31.toInt ∧ v2_31.toInt ≤ 29997 * g18 137 0 → (∀ c j : Nat, c ≠ 136 → c ≠ 137 → c ≠ 138 → c ≠ 140 → g18 c j = (gs (gs (gs g 100 0 x1.toInt) 137 0 x12.toInt) 143 0 p1.toInt) c j) → (∀ i : Nat, (i : Int) < g18 137 0 → g18 138 i = -2 ∧ g18 140 i = 0) → (MB (g18 136) (g 132) (fun _ => True) (g18 137 0).toNat v3_31.toInt.toNat) → (v2_31.toInt = rg_a (fun i => g 131 (g18 136 i).toNat) (g18 137 0).toNat) → ty_ok (dC, dI) vwCl Γ (TP dA Γ g18) sz X H → va_S (ty_A sz) s.heap H locs → lv_has ls 7 [(3, .int v3_31), (2, .int v2_31), (0, .ref h0), (1, .int p1)] → W p l e (headSpec (.code yX9_rings cX9_rings 7 (Option.some Jvm.ClassFile.FieldType.int) :: AL) ({ frames := 28, cells := 0, slots := 0, locals := 927 })).room s m ([.ref h0, .int p1] : List Value).toArray below meth c H locs 0 0 (MQ below (va_Qi (fun (r : Int32) (u : gh) => (∀ c j : Nat, c ≠ 100 → c ≠ 132 → c ≠ 133 → c ≠ 134 → c ≠ 136 → c ≠ 137 → c ≠ 138 → c ≠ 139 → c ≠ 140 → c ≠ 141 → c ≠ 142 → c ≠ 143 → u c j = g c j) ∧ (IJ u) ∧ ((2 ≤ p1.toInt ∧ p1.toInt ≤ 9 → RGS (g 126 0).toNat p1.toInt.toNat (su_m (g 132) (g 135) (g 128) (g 129) (g 102) (g 103)) (g 131) (g 127) (g 132) (g 133) (g 134) (u 132) (u 133) (u 134) r.toInt) ∧ (¬ (2 ≤ p1.toInt ∧ p1.toInt ≤ 9) → r.toInt = -1 ∧ u 132 = (g 132) ∧ u 133 = (g 133) ∧ u 134 = (g 134)))) (okb dC dI dA sz X Γ) (ty_A sz)) ([.ref h0, .int p1] : List Value).toArray s 0 0 (ty_A sz)) (F0 m 31 ls []) := by
      as_aux_lemma =>
        intro n
        induction n with
        | zero => intro v3_31 v2_31 g18 H locs ls hm hi0 hi1 hi2 hf21 hq0 hq1 hq2 hG hS hl; exfalso; omega
        | succ n ih_31 =>
          intro v3_31 v2_31 g18 H locs ls hm hi0 hi1 hi2 hf21 hq0 hq1 hq2 hG hS hl
          have hk22 : g18 126 0 = (gs (gs (gs g 100 0 x1.toInt) 137 0 x12.toInt) 143 0 p1.toInt) 126 0 := hf21 126 0 (by decide) (by decide) (by decide) (by decide)
          replace hk22 : g18 126 0 = g 126 0 := by rw [hk22, gs_c _ _ _ _ (by decide), gs_c _ _ _ _ (by decide), gs_c _ _ _ _ (by decide)]
          refine lv_iload_n hx hb dX9_rings_31 rfl (lv_at hl 0 rfl) ?_
          refine lv_aload_n hx hb dX9_rings_32 rfl (lv_at hl 2 rfl) ?_
          refine get_X9_26 hx hb hA hown hE hG t_h0 wd_4_156 dX9_rings_33 (fun x23 h24 => ?_)
          refine ty_icmp_ge (tgt := 107) hx hb dX9_rings_36 (by decide) (fun c26 => ?_) (fun c26 => ?_)
          · skip
            refine lv_aload_n hx hb dX9_rings_107 rfl (lv_at hl 2 rfl) ?_
            refine ty_iconst hx hb (-1) dX9_rings_108 (by decide) (fun x27 h28 => ?_)
            refine put_X9_41 hx hb hA hown hE hG hS hU t_h0 wd_4_171 dX9_rings_109 (fun H locs hG hS => ?_)
            refine lv_aload_n hx hb dX9_rings_112 rfl (lv_at hl 2 rfl) ?_
            refine ty_iconst hx hb (-1) dX9_rings_113 (by decide) (fun x29 h30 => ?_)
            refine put_X9_42 hx hb hA hown hE hG hS hU t_h0 wd_4_172 dX9_rings_114 (fun H locs hG hS => ?_)
            have h137a : (gs (gs g18 141 0 x27.toInt) 142 0 x29.toInt) 137 0 = g18 137 0 := by rw [gs_c _ _ _ _ (by decide), gs_c _ _ _ _ (by decide)]
            have hMB9 := hq1
            rw [show v3_31.toInt.toNat = (g 126 0).toNat by omega] at hMB9
            have hMz9 := MBz hMB9
            refine lv_aload_n hx hb dX9_rings_117 rfl (lv_at hl 2 rfl) ?_
            refine ty_iconst hx hb (0) dX9_rings_118 (by decide) (fun x31 h32 => ?_)
            refine ty_iconst hx hb (0) dX9_rings_119 (by decide) (fun x33 h34 => ?_)
            refine ty_iconst hx hb (0) dX9_rings_120 (by decide) (fun x35 h36 => ?_)
            refine lv_iload_n hx hb dX9_rings_121 rfl (lv_at hl 1 rfl) ?_
            have hr131 : (gs (gs g18 141 0 x27.toInt) 142 0 x29.toInt) 131 = g 131 := funext fun j => by rw [gs_c _ _ _ _ (by decide), gs_c _ _ _ _ (by decide), hf21 131 j (by decide) (by decide) (by decide) (by decide), gs_c _ _ _ _ (by decide), gs_c _ _ _ _ (by decide), gs_c _ _ _ _ (by decide)]
            have hr135 : (gs (gs g18 141 0 x27.toInt) 142 0 x29.toInt) 135 = g 135 := funext fun j => by rw [gs_c _ _ _ _ (by decide), gs_c _ _ _ _ (by decide), hf21 135 j (by decide) (by decide) (by decide) (by decide), gs_c _ _ _ _ (by decide), gs_c _ _ _ _ (by decide), gs_c _ _ _ _ (by decide)]
            have hr128 : (gs (gs g18 141 0 x27.toInt) 142 0 x29.toInt) 128 = g 128 := funext fun j => by rw [gs_c _ _ _ _ (by decide), gs_c _ _ _ _ (by decide), hf21 128 j (by decide) (by decide) (by decide) (by decide), gs_c _ _ _ _ (by decide), gs_c _ _ _ _ (by decide), gs_c _ _ _ _ (by decide)]
            have hr129 : (gs (gs g18 141 0 x27.toInt) 142 0 x29.toInt) 129 = g 129 := funext fun j => by rw [gs_c _ _ _ _ (by decide), gs_c _ _ _ _ (by decide), hf21 129 j (by decide) (by decide) (by decide) (by decide), gs_c _ _ _ _ (by decide), gs_c _ _ _ _ (by decide), gs_c _ _ _ _ (by decide)]
            have hr102 : (gs (gs g18 141 0 x27.toInt) 142 0 x29.toInt) 102 = g 102 := funext fun j => by rw [gs_c _ _ _ _ (by decide), gs_c _ _ _ _ (by decide), hf21 102 j (by decide) (by decide) (by decide) (by decide), gs_c _ _ _ _ (by decide), gs_c _ _ _ _ (by decide), gs_c _ _ _ _ (by decide)]
            have hr103 : (gs (gs g18 141 0 x27.toInt) 142 0 x29.toInt) 103 = g 103 := funext fun j => by rw [gs_c _ _ _ _ (by decide), gs_c _ _ _ _ (by decide), hf21 103 j (by decide) (by decide) (by decide) (by decide), gs_c _ _ _ _ (by decide), gs_c _ _ _ _ (by decide), gs_c _ _ _ _ (by decide)]
            have hr136 : (gs (gs g18 141 0 x27.toInt) 142 0 x29.toInt) 136 = g18 136 := funext fun j => by rw [gs_c _ _ _ _ (by decide), gs_c _ _ _ _ (by decide)]
            have hr143 : (gs (gs g18 141 0 x27.toInt) 142 0 x29.toInt) 143 0 = p1.toInt := by rw [gs_c _ _ _ _ (by decide), gs_c _ _ _ _ (by decide), hf21 143 0 (by decide) (by decide) (by decide) (by decide), gs_self]
            have e37 : (gs (gs g18 141 0 x27.toInt) 142 0 x29.toInt) 137 0 = g18 137 0 := by rw [gs_c _ _ _ _ (by decide), gs_c _ _ _ _ (by decide)]
            have e38 : (gs (gs g18 141 0 x27.toInt) 142 0 x29.toInt) 137 0 = g18 137 0 := by rw [gs_c _ _ _ _ (by decide), gs_c _ _ _ _ (by decide)]
            have e39 : (gs (gs g18 141 0 x27.toInt) 142 0 x29.toInt) 137 0 = g18 137 0 := by rw [gs_c _ _ _ _ (by decide), gs_c _ _ _ _ (by decide)]
            have e40 : (gs (gs g18 141 0 x27.toInt) 142 0 x29.toInt) 137 0 = g18 137 0 := by rw [gs_c _ _ _ _ (by decide), gs_c _ _ _ _ (by decide)]
            refine cV (va_runV (C := RX9) (As := [.int x31, .int x33, .int x35, .int v2_31]) (rest := []) ⟨hx, hb, hml, hown, hA⟩ (k_X9_chooses9 l dC dI dA sz X Γ hU (gs (gs g18 141 0 x27.toInt) 142 0 x29.toInt) h0 t_h0 x31 x33 x35 v2_31   (by omega) (by rw [show x31.toInt.toNat = 0 by omega]; exact CH_0 (fun i hi => by rw [h137a] at hi; rw [gs_c _ _ _ _ (by decide), gs_c _ _ _ _ (by decide), gs_c _ _ _ _ (by decide), gs_c _ _ _ _ (by decide)]; exact hq0 i (by omega))) (fun h => absurd h (by rw [gs_c _ _ _ _ (by decide), gs_self]; omega)) (by rw [hr143]; omega) (by rw [h137a, hr143, hr131, hr136, hr135, hr128, hr129, hr102, hr103]; exact CP_0 (by omega) (by omega) (by omega) (fun i hi => by rw [gs_c _ _ _ _ (by decide), gs_c _ _ _ _ (by decide)]; have h9 := (hq0 i (by omega)).1; omega) hq2 (fun i hi => h131 _ (hMz9.2.1 i hi).2.1))) ⟨callB_of 4 hA (al_A wd_5_152) rfl rfl rfl (hA _ wd_1_7) (hA _ wd_5_149) (by decide +kernel) ⟨Nat.le_of_ble_eq_true rfl, Nat.le_of_ble_eq_true rfl⟩, hA _ wd_5_151, hA _ ws_49⟩ ⟨bl, recv_X9 hE hG t_h0, fun U hU9 hW9 => ⟨rfl, by rw [hU9]; exact hG, hE.go hS hU9 hW9⟩⟩ rfl rfl hl.1 rfl (lv_room (Nat.le_of_ble_eq_true rfl)) dX9_rings_122 ⟨Nat.zero_le _, Nat.zero_le _⟩) hS (fun u41 H locs w42 hG hS => ?_)
            obtain ⟨hf48, hq43, hq44, hq45, hq46, hq47⟩ := w42
            have hGd := hq45 (hq46 (Or.inr (fun j hj => by rw [h137a] at hj; rw [gs_c _ _ _ _ (by decide), gs_c _ _ _ _ (by decide)]; have h9 := (hq0 j (by omega)).2; omega)))
            have h137b : u41 137 0 = g18 137 0 := by rw [hf48 137 0 (by decide) (by decide) (by decide) (by decide) (by decide), gs_c _ _ _ _ (by decide), gs_c _ _ _ _ (by decide)]
            have hBt9 := hq47
            rw [h137a, hr143, hr131, hr136, hr135, hr128, hr129, hr102, hr103] at hBt9
            have hBs9 := ch_top (by omega) (by rw [gs_c _ _ _ _ (by decide), gs_self]; omega) (by rw [gs_self]; omega) (fun i hi => (h131 _ (hMz9.2.1 i hi).2.1).1) hBt9
            obtain ⟨p9, hp9⟩ : ∃ f : Nat → Int, f = u41 139 := ⟨_, rfl⟩
            obtain ⟨wt9, hwt9⟩ : ∃ f : Nat → Int, f = g18 136 := ⟨_, rfl⟩
            rw [← hp9, ← hwt9] at hBs9
            rw [← hwt9] at hMB9 hMz9
            have hV9 := hBs9.1
            obtain ⟨W9, hW9⟩ : ∃ n : Nat, n = (g18 137 0).toNat := ⟨_, rfl⟩
            rw [← hW9] at hMB9 hMz9 hBs9 hV9
            refine ty_iconst hx hb (0) dX9_rings_125 (by decide) (fun x49 h50 => ?_)
            refine lv_istore_n (lv' := [(3, .int x49), (2, .int v2_31), (0, .ref h0), (1, .int p1)]) hx hb dX9_rings_126 rfl hl (by decide) rfl (fun ls hl => ?_)
            refine ty_iconst hx hb (0) dX9_rings_127 (by decide) (fun x51 h52 => ?_)
            refine lv_istore (lv' := [(4, .int x51), (3, .int x49), (2, .int v2_31), (0, .ref h0), (1, .int p1)]) hx hb dX9_rings_128 hl (by decide) rfl (fun ls hl => ?_)
            have L_130 : ∀ (n : Nat) (v4_130 : Int32) (v3_130 : Int32) (g53 : gh) (H : Heap) (locs : List Loc) (ls : Array Slot), (g53 137 0 - v4_130.toInt : Int) < n → 0 ≤ v4_130.toInt ∧ v4_130.toInt ≤ g53 137 0 → 0 ≤ v3_130.toInt ∧ v3_130.toInt ≤ v4_130.toInt → (∀ c j : Nat, c ≠ 132 → c ≠ 133 → c ≠ 134 → g53 c j = u41 c j) → (RI g53 v4_130.toInt) → (SW (fun i => (wt9 i).toNat) p9 (g 127) (fun i => (i : Int) < v4_130.toInt) (g 132) (g 133) (g 134) (g53 132) (g53 133) (g53 134)) → (v3_130.toInt = rg_c p9 v4_130.toInt.toNat) → ty_ok (dC, dI) vwCl Γ (TP dA Γ g53) sz X H → va_S (ty_A sz) s.heap H locs → lv_has ls 7 [(4, .int v4_130), (3, .int v3_130), (2, .int v2_31), (0, .ref h0), (1, .int p1)] → W p l e (headSpec (.code yX9_rings cX9_rings 7 (Option.some Jvm.ClassFile.FieldType.int) :: AL) ({ frames := 28, cells := 0, slots := 0, locals := 927 })).room s m ([.ref h0, .int p1] : List Value).toArray below meth c H locs 0 0 (MQ below (va_Qi (fun (r : Int32) (u : gh) => (∀ c j : Nat, c ≠ 100 → c ≠ 132 → c ≠ 133 → c ≠ 134 → c ≠ 136 → c ≠ 137 → c ≠ 138 → c ≠ 139 → c ≠ 140 → c ≠ 141 → c ≠ 142 → c ≠ 143 → u c j = g c j) ∧ (IJ u) ∧ ((2 ≤ p1.toInt ∧ p1.toInt ≤ 9 → RGS (g 126 0).toNat p1.toInt.toNat (su_m (g 132) (g 135) (g 128) (g 129) (g 102) (g 103)) (g 131) (g 127) (g 132) (g 133) (g 134) (u 132) (u 133) (u 134) r.toInt) ∧ (¬ (2 ≤ p1.toInt ∧ p1.toInt ≤ 9) → r.toInt = -1 ∧ u 132 = (g 132) ∧ u 133 = (g 133) ∧ u 134 = (g 134)))) (okb dC dI dA sz X Γ) (ty_A sz)) ([.ref h0, .int p1] : List Value).toArray s 0 0 (ty_A sz)) (F0 m 130 ls []) := by
              as_aux_lemma =>
                intro n
                induction n with
                | zero => intro v4_130 v3_130 g53 H locs ls hm hi0 hi1 hf54 hq0 hq1 hq2 hG hS hl; exfalso; omega
                | succ n ih_130 =>
                  intro v4_130 v3_130 g53 H locs ls hm hi0 hi1 hf54 hq0 hq1 hq2 hG hS hl
                  have hk55 : g53 137 0 = u41 137 0 := hf54 137 0 (by decide) (by decide) (by decide)
                  have hk56 : u41 137 0 = (gs (gs g18 141 0 x27.toInt) 142 0 x29.toInt) 137 0 := hf48 137 0 (by decide) (by decide) (by decide) (by decide) (by decide)
                  replace hk56 : u41 137 0 = g18 137 0 := by rw [hk56, gs_c _ _ _ _ (by decide), gs_c _ _ _ _ (by decide)]
                  refine lv_iload hx hb dX9_rings_130 (lv_at hl 0 rfl) ?_
                  refine lv_aload_n hx hb dX9_rings_132 rfl (lv_at hl 3 rfl) ?_
                  refine get_X9_37 hx hb hA hown hE hG t_h0 wd_4_167 dX9_rings_133 (fun x57 h58 => ?_)
                  refine ty_icmp_ge (tgt := 216) hx hb dX9_rings_136 (by decide) (fun c60 => ?_) (fun c60 => ?_)
                  · skip
                    refine lv_iload_n hx hb dX9_rings_216 rfl (lv_at hl 1 rfl) ?_
                    exact W.iret (v := v3_130) hx hb hr (fun t ht hW => ⟨⟨v3_130, g53, rfl, ⟨(fun c j h100 h132 h133 h134 h136 h137 h138 h139 h140 h141 h142 h143 => by rw [hf54 c j h132 h133 h134, hf48 c j h138 h139 h140 h141 h142, gs_c _ _ _ _ h142, gs_c _ _ _ _ h141, hf21 c j h136 h137 h138 h140, gs_c _ _ _ _ h143, gs_c _ _ _ _ h137, gs_c _ _ _ _ h100]), (RI_end (by omega) hq0), (⟨fun _ => RGS_m (r := wt9) (p := p9) (n := W9) hMB9 (by omega) (by omega) hBs9 (SW_cg hq1 (fun i => by show i < W9 ↔ (i : Int) < v4_130.toInt; omega)) (by rw [hq2, show v4_130.toInt.toNat = W9 by omega]), fun h => absurd h (by omega)⟩)⟩, ok1 ht hG⟩, hS.F ht⟩) hS.2.2 dX9_rings_217
                  · skip
                    refine lv_aload_n hx hb dX9_rings_139 rfl (lv_at hl 3 rfl) ?_
                    refine get_X9_39 hx hb hA hown hE hG t_h0 wd_4_169 dX9_rings_140 (fun b61 (t_b61 : ty Γ b61 139) => ?_)
                    refine lv_iload hx hb dX9_rings_143 (lv_at hl 0 rfl) ?_
                    refine ald_mI hx hb hE hG 39 rfl (n := 9) rfl (lo := -1) (hi := 8) rfl rfl t_b61 (by omega) dX9_rings_145 (fun j63 x62 h64 h65 h66 => ?_)
                    obtain rfl : j63 = v4_130.toInt.toNat := by omega
                    replace h65 : x62.toInt = g53 139 v4_130.toInt.toNat := h65
                    have hk67 : g53 139 v4_130.toInt.toNat = u41 139 v4_130.toInt.toNat := hf54 139 v4_130.toInt.toNat (by decide) (by decide) (by decide)
                    have hpk9 : g53 139 v4_130.toInt.toNat = p9 v4_130.toInt.toNat := by rw [hp9, hf54 139 v4_130.toInt.toNat (by decide) (by decide) (by decide)]
                    have h137d : g53 137 0 = g18 137 0 := by rw [hf54 137 0 (by decide) (by decide) (by decide), hf48 137 0 (by decide) (by decide) (by decide) (by decide) (by decide), gs_c _ _ _ _ (by decide), gs_c _ _ _ _ (by decide)]
                    have hvk9 := hV9.1 v4_130.toInt.toNat (by omega)
                    have hwk9 : g53 136 v4_130.toInt.toNat = wt9 v4_130.toInt.toNat := by rw [hwt9, hf54 136 v4_130.toInt.toNat (by decide) (by decide) (by decide), hf48 136 v4_130.toInt.toNat (by decide) (by decide) (by decide) (by decide) (by decide), gs_c _ _ _ _ (by decide), gs_c _ _ _ _ (by decide)]
                    refine ty_iconst hx hb (-1) dX9_rings_146 (by decide) (fun x68 h69 => ?_)
                    refine ty_icmp_ne (tgt := 153) hx hb dX9_rings_147 (by decide) (fun c70 => ?_) (fun c70 => ?_)
                    · skip
                      have h137c : g53 137 0 = u41 137 0 := by rw [hf54 137 0 (by decide) (by decide) (by decide)]
                      have hgd9 : ∀ q : Nat, (q : Int) < g53 137 0 → 0 ≤ g53 139 q → ∃ m : Nat, (m : Int) < g53 137 0 ∧ g53 139 m = (q : Int) := fun q hq h0 => by rw [hf54 139 q (by decide) (by decide) (by decide)] at h0; obtain ⟨m9, q1, q2⟩ := hGd q (by omega) h0; exact ⟨m9, by omega, by rw [hf54 139 m9 (by decide) (by decide) (by decide)]; exact q2⟩
                      refine lv_aload_n hx hb dX9_rings_153 rfl (lv_at hl 3 rfl) ?_
                      refine get_X9_36 hx hb hA hown hE hG t_h0 wd_4_166 dX9_rings_154 (fun b71 (t_b71 : ty Γ b71 136) => ?_)
                      refine lv_iload hx hb dX9_rings_157 (lv_at hl 0 rfl) ?_
                      refine ald_mI hx hb hE hG 36 rfl (n := 9) rfl (lo := 0) (hi := 199) rfl rfl t_b71 (by omega) dX9_rings_159 (fun j73 x72 h74 h75 h76 => ?_)
                      obtain rfl : j73 = v4_130.toInt.toNat := by omega
                      replace h75 : x72.toInt = g53 136 v4_130.toInt.toNat := h75
                      have hk77 : g53 136 v4_130.toInt.toNat = u41 136 v4_130.toInt.toNat := hf54 136 v4_130.toInt.toNat (by decide) (by decide) (by decide)
                      have hk78 : u41 136 v4_130.toInt.toNat = (gs (gs g18 141 0 x27.toInt) 142 0 x29.toInt) 136 v4_130.toInt.toNat := hf48 136 v4_130.toInt.toNat (by decide) (by decide) (by decide) (by decide) (by decide)
                      replace hk78 : u41 136 v4_130.toInt.toNat = g18 136 v4_130.toInt.toNat := by rw [hk78, gs_c _ _ _ _ (by decide), gs_c _ _ _ _ (by decide)]
                      refine lv_istore (lv' := [(5, .int x72), (4, .int v4_130), (3, .int v3_130), (2, .int v2_31), (0, .ref h0), (1, .int p1)]) hx hb dX9_rings_160 hl (by decide) rfl (fun ls hl => ?_)
                      refine lv_aload_n hx hb dX9_rings_162 rfl (lv_at hl 4 rfl) ?_
                      refine get_X9_36 hx hb hA hown hE hG t_h0 wd_4_166 dX9_rings_163 (fun b79 (t_b79 : ty Γ b79 136) => ?_)
                      refine lv_aload_n hx hb dX9_rings_166 rfl (lv_at hl 4 rfl) ?_
                      refine get_X9_39 hx hb hA hown hE hG t_h0 wd_4_169 dX9_rings_167 (fun b80 (t_b80 : ty Γ b80 139) => ?_)
                      refine lv_iload hx hb dX9_rings_170 (lv_at hl 1 rfl) ?_
                      refine ald_mI hx hb hE hG 39 rfl (n := 9) rfl (lo := -1) (hi := 8) rfl rfl t_b80 (by omega) dX9_rings_172 (fun j82 x81 h83 h84 h85 => ?_)
                      obtain rfl : j82 = v4_130.toInt.toNat := by omega
                      replace h84 : x81.toInt = g53 139 v4_130.toInt.toNat := h84
                      refine ald_mI hx hb hE hG 36 rfl (n := 9) rfl (lo := 0) (hi := 199) rfl rfl t_b79 (by omega) dX9_rings_173 (fun j87 x86 h88 h89 h90 => ?_)
                      obtain rfl : j87 = x81.toInt.toNat := by omega
                      replace h89 : x86.toInt = g53 136 x81.toInt.toNat := h89
                      have hk91 : g53 136 x81.toInt.toNat = u41 136 x81.toInt.toNat := hf54 136 x81.toInt.toNat (by decide) (by decide) (by decide)
                      have hk92 : u41 136 x81.toInt.toNat = (gs (gs g18 141 0 x27.toInt) 142 0 x29.toInt) 136 x81.toInt.toNat := hf48 136 x81.toInt.toNat (by decide) (by decide) (by decide) (by decide) (by decide)
                      replace hk92 : u41 136 x81.toInt.toNat = g18 136 x81.toInt.toNat := by rw [hk92, gs_c _ _ _ _ (by decide), gs_c _ _ _ _ (by decide)]
                      refine lv_istore (lv' := [(6, .int x86), (5, .int x72), (4, .int v4_130), (3, .int v3_130), (2, .int v2_31), (0, .ref h0), (1, .int p1)]) hx hb dX9_rings_174 hl (by decide) rfl (fun ls hl => ?_)
                      have hwl9 : g53 136 x81.toInt.toNat = wt9 x81.toInt.toNat := by rw [hwt9, hf54 136 x81.toInt.toNat (by decide) (by decide) (by decide), hf48 136 x81.toInt.toNat (by decide) (by decide) (by decide) (by decide) (by decide), gs_c _ _ _ _ (by decide), gs_c _ _ _ _ (by decide)]
                      have hl59 : x72.toInt = wt9 v4_130.toInt.toNat := by omega
                      have hl69 : x86.toInt = wt9 (p9 v4_130.toInt.toNat).toNat := by rw [show (p9 v4_130.toInt.toNat).toNat = x81.toInt.toNat by omega]; omega
                      have hz59 := (hMz9.2.1 v4_130.toInt.toNat (by omega)).1
                      have hz69 := (hMz9.2.1 (p9 v4_130.toInt.toNat).toNat (by omega)).1
                      refine lv_aload_n hx hb dX9_rings_176 rfl (lv_at hl 5 rfl) ?_
                      refine get_X9_33 hx hb hA hown hE hG t_h0 wd_4_163 dX9_rings_177 (fun b93 (t_b93 : ty Γ b93 133) => ?_)
                      refine lv_iload hx hb dX9_rings_180 (lv_at hl 1 rfl) ?_
                      refine lv_iload hx hb dX9_rings_182 (lv_at hl 0 rfl) ?_
                      refine ast_mI hx hb hE hG hS hU 33 rfl (n := 200) rfl (lo := -2147483648) (hi := 2147483647) rfl rfl rfl t_b93 (rgD _) (by omega) dX9_rings_184 (fun H locs hG hS => ?_)
                      refine lv_aload_n hx hb dX9_rings_185 rfl (lv_at hl 5 rfl) ?_
                      refine get_X9_34 hx hb hA hown hE hG t_h0 wd_4_164 dX9_rings_186 (fun b94 (t_b94 : ty Γ b94 134) => ?_)
                      refine lv_iload hx hb dX9_rings_189 (lv_at hl 0 rfl) ?_
                      refine lv_aload_n hx hb dX9_rings_191 rfl (lv_at hl 5 rfl) ?_
                      refine get_X9_27 hx hb hA hown hE hG t_h0 wd_4_157 dX9_rings_192 (fun b95 (t_b95 : ty Γ b95 127) => ?_)
                      refine lv_iload hx hb dX9_rings_195 (lv_at hl 1 rfl) ?_
                      refine ald_mI hx hb hE hG 27 rfl (n := 200) rfl (lo := 0) (hi := 9) rfl rfl t_b95 (by omega) dX9_rings_197 (fun j97 x96 h98 h99 h100 => ?_)
                      obtain rfl : j97 = x72.toInt.toNat := by omega
                      rw [gs_c _ _ _ _ (by decide)] at h99
                      replace h99 : x96.toInt = g53 127 x72.toInt.toNat := h99
                      replace h99 : x96.toInt = g53 127 ((wt9 v4_130.toInt.toNat).toNat) := by rw [h99, show x72.toInt.toNat = ((wt9 v4_130.toInt.toNat).toNat) by omega]
                      have hk101 : g53 127 ((wt9 v4_130.toInt.toNat).toNat) = u41 127 ((wt9 v4_130.toInt.toNat).toNat) := hf54 127 ((wt9 v4_130.toInt.toNat).toNat) (by decide) (by decide) (by decide)
                      have hk102 : u41 127 ((wt9 v4_130.toInt.toNat).toNat) = (gs (gs g18 141 0 x27.toInt) 142 0 x29.toInt) 127 ((wt9 v4_130.toInt.toNat).toNat) := hf48 127 ((wt9 v4_130.toInt.toNat).toNat) (by decide) (by decide) (by decide) (by decide) (by decide)
                      replace hk102 : u41 127 ((wt9 v4_130.toInt.toNat).toNat) = g18 127 ((wt9 v4_130.toInt.toNat).toNat) := by rw [hk102, gs_c _ _ _ _ (by decide), gs_c _ _ _ _ (by decide)]
                      have hk103 : g18 127 ((wt9 v4_130.toInt.toNat).toNat) = (gs (gs (gs g 100 0 x1.toInt) 137 0 x12.toInt) 143 0 p1.toInt) 127 ((wt9 v4_130.toInt.toNat).toNat) := hf21 127 ((wt9 v4_130.toInt.toNat).toNat) (by decide) (by decide) (by decide) (by decide)
                      replace hk103 : g18 127 ((wt9 v4_130.toInt.toNat).toNat) = g 127 ((wt9 v4_130.toInt.toNat).toNat) := by rw [hk103, gs_c _ _ _ _ (by decide), gs_c _ _ _ _ (by decide), gs_c _ _ _ _ (by decide)]
                      refine ast_mI hx hb hE hG hS hU 34 rfl (n := 200) rfl (lo := -1) (hi := 9) rfl rfl rfl t_b94 (by omega) (by omega) dX9_rings_198 (fun H locs hG hS => ?_)
                      refine lv_aload_n hx hb dX9_rings_199 rfl (lv_at hl 5 rfl) ?_
                      refine get_X9_32 hx hb hA hown hE hG t_h0 wd_4_162 dX9_rings_200 (fun b104 (t_b104 : ty Γ b104 132) => ?_)
                      refine lv_iload hx hb dX9_rings_203 (lv_at hl 1 rfl) ?_
                      refine ty_iconst hx hb (1) dX9_rings_205 (by decide) (fun x105 h106 => ?_)
                      refine ast_mI hx hb hE hG hS hU 32 rfl (n := 200) rfl (lo := 0) (hi := 5) rfl rfl rfl t_b104 (by omega) (by omega) dX9_rings_206 (fun H locs hG hS => ?_)
                      obtain ⟨x107, h108⟩ : ∃ y : Int32, y = v3_130 + Int32.ofInt (1) := ⟨_, rfl⟩
                      try have h109 : x107.toInt = v3_130.toInt + (1) := ty_inc h108 (by decide) (by omega) (by omega)
                      refine lv_iinc (v := x107) (lv' := [(3, .int x107), (6, .int x86), (5, .int x72), (4, .int v4_130), (2, .int v2_31), (0, .ref h0), (1, .int p1)]) hx hb dX9_rings_207 hl (k := 3) rfl h108.symm (by decide) rfl (fun ls hl => ?_)
                      obtain ⟨x110, h111⟩ : ∃ y : Int32, y = v4_130 + Int32.ofInt (1) := ⟨_, rfl⟩
                      try have h112 : x110.toInt = v4_130.toInt + (1) := ty_inc h111 (by decide) (by omega) (by omega)
                      refine lv_iinc (v := x110) (lv' := [(4, .int x110), (3, .int x107), (6, .int x86), (5, .int x72), (2, .int v2_31), (0, .ref h0), (1, .int p1)]) hx hb dX9_rings_210 hl (k := 3) rfl h111.symm (by decide) rfl (fun ls hl => ?_)
                      refine lv_goto (tgt := 130) hx hb dX9_rings_213 (by decide) ?_
                      have e113 : (gs (gs (gs g53 133 x72.toInt.toNat x86.toInt) 134 x86.toInt.toNat x96.toInt) 132 x72.toInt.toNat x105.toInt) 137 0 = g53 137 0 := by rw [gs_c _ _ _ _ (by decide), gs_c _ _ _ _ (by decide), gs_c _ _ _ _ (by decide)]
                      exact ih_130 x110 x107 (gs (gs (gs g53 133 x72.toInt.toNat x86.toInt) 134 x86.toInt.toNat x96.toInt) 132 x72.toInt.toNat x105.toInt) _ _ ls (by omega) (by omega) (by omega) (fun c j h132 h133 h134 => by rw [gs_c _ _ _ _ h132, gs_c _ _ _ _ h134, gs_c _ _ _ _ h133, hf54 c j h132 h133 h134]) (RI_step (g := g53) (k := v4_130.toInt) (k2 := x110.toInt) (w := x72.toInt.toNat) (it := x86.toInt.toNat) (z := x96.toInt) (by omega) (by omega) (by omega) hgd9 (by omega) (by omega) (by rw [← show x81.toInt = g53 139 v4_130.toInt.toNat by omega]; omega) (by omega) hq0 (by rw [gs_c _ _ _ _ (by decide), gs_c _ _ _ _ (by decide), gs_c _ _ _ _ (by decide)]) (fun j => by rw [gs_c _ _ _ _ (by decide), gs_c _ _ _ _ (by decide), gs_c _ _ _ _ (by decide)]) (by rw [gs_c _ _ _ _ (by decide), gs_c _ _ _ _ (by decide), gs_c _ _ _ _ (by decide)]) (fun j => by rw [gs_c _ _ _ _ (by decide), gs_c _ _ _ _ (by decide), gs_c _ _ _ _ (by decide)]) (fun j => by rw [show x105.toInt = 1 by omega]; exact gs_in (by rw [gs_c _ _ _ _ (by decide), gs_c _ _ _ _ (by decide)])) (fun j => by rw [gs_c _ _ _ _ (by decide)]; exact gs_in (by rw [gs_c _ _ _ _ (by decide)]))) (SW_up (k := v4_130.toInt.toNat) (P := fun i => (i : Int) < v4_130.toInt) hq1 (fun i => by show (i : Int) < x110.toInt ↔ (i : Int) < v4_130.toInt ∨ i = v4_130.toInt.toNat; omega) (by omega) (fun i hi h0 e => by have h8 : (i : Int) < v4_130.toInt := hi; have h9 := MBi hMB9 i v4_130.toInt.toNat (by omega) (by omega) e; omega) (fun i hi h0 e => by have h8 : (i : Int) < v4_130.toInt := hi; have h7 := hV9.1 i (by omega); have h9 := MBi hMB9 (p9 i).toNat (p9 v4_130.toInt.toNat).toNat (by omega) (by omega) e; have h6 := hV9.2.1 i v4_130.toInt.toNat (by omega) (by omega) h0 (by omega); omega) (by rw [pz_gs, gs_r _ _ _ (by decide), gs_r _ _ _ (by decide)] <;> exact pz_upc (by omega) (by omega)) (by rw [gs_r _ _ _ (by decide), gs_r _ _ _ (by decide), pz_gs] <;> exact pz_upc (by omega) (by omega)) (by rw [gs_r _ _ _ (by decide), pz_gs, gs_r _ _ _ (by decide)] <;> exact pz_upc (by omega) (by omega))) (by rw [show x110.toInt.toNat = v4_130.toInt.toNat + 1 by omega, rg_c_y (by omega), ← hq2] <;> omega) hG hS (lv_sub hl [0, 1, 4, 5, 6] rfl)
                    · skip
                      refine lv_goto (tgt := 210) hx hb dX9_rings_150 (by decide) ?_
                      obtain ⟨x114, h115⟩ : ∃ y : Int32, y = v4_130 + Int32.ofInt (1) := ⟨_, rfl⟩
                      try have h116 : x114.toInt = v4_130.toInt + (1) := ty_inc h115 (by decide) (by omega) (by omega)
                      refine lv_iinc (v := x114) (lv' := [(4, .int x114), (3, .int v3_130), (2, .int v2_31), (0, .ref h0), (1, .int p1)]) hx hb dX9_rings_210 hl (k := 0) rfl h115.symm (by decide) rfl (fun ls hl => ?_)
                      refine lv_goto (tgt := 130) hx hb dX9_rings_213 (by decide) ?_
                      exact ih_130 x114 v3_130 g53 _ _ ls (by omega) (by omega) (by omega) (fun c j h132 h133 h134 => by rw [hf54 c j h132 h133 h134]) (RI_skip (k := v4_130.toInt) (by omega) (by omega) (by omega) hq0) (SW_no (k := v4_130.toInt.toNat) (P := fun i => (i : Int) < v4_130.toInt) hq1 (fun i => by show (i : Int) < x114.toInt ↔ (i : Int) < v4_130.toInt ∨ i = v4_130.toInt.toNat; omega) (by omega)) (by rw [show x114.toInt.toNat = v4_130.toInt.toNat + 1 by omega, rg_c_n (by omega), ← hq2] <;> omega) hG hS (lv_sub hl [0, 1, 2, 3, 4] rfl)
            have hk117 : u41 137 0 = (gs (gs g18 141 0 x27.toInt) 142 0 x29.toInt) 137 0 := hf48 137 0 (by decide) (by decide) (by decide) (by decide) (by decide)
            replace hk117 : u41 137 0 = g18 137 0 := by rw [hk117, gs_c _ _ _ _ (by decide), gs_c _ _ _ _ (by decide)]
            exact L_130 ((u41 137 0 - x51.toInt) + 1).toNat x51 x49 u41 _ _ ls (by omega) (by omega) (by omega) (fun c j _ _ _ => rfl) (RI_0 (by omega) (IJ_cg (by rw [hf48 126 0 (by decide) (by decide) (by decide) (by decide) (by decide), gs_c _ _ _ _ (by decide), gs_c _ _ _ _ (by decide), hf21 126 0 (by decide) (by decide) (by decide) (by decide), gs_c _ _ _ _ (by decide), gs_c _ _ _ _ (by decide), gs_c _ _ _ _ (by decide)]) (fun j => by rw [hf48 132 j (by decide) (by decide) (by decide) (by decide) (by decide), gs_c _ _ _ _ (by decide), gs_c _ _ _ _ (by decide), hf21 132 j (by decide) (by decide) (by decide) (by decide), gs_c _ _ _ _ (by decide), gs_c _ _ _ _ (by decide), gs_c _ _ _ _ (by decide)]) (fun j => by rw [hf48 134 j (by decide) (by decide) (by decide) (by decide) (by decide), gs_c _ _ _ _ (by decide), gs_c _ _ _ _ (by decide), hf21 134 j (by decide) (by decide) (by decide) (by decide), gs_c _ _ _ _ (by decide), gs_c _ _ _ _ (by decide), gs_c _ _ _ _ (by decide)]) hIJ)) (by rw [show u41 132 = g 132 from funext fun j => by rw [hf48 132 j (by decide) (by decide) (by decide) (by decide) (by decide), gs_c _ _ _ _ (by decide), gs_c _ _ _ _ (by decide), hf21 132 j (by decide) (by decide) (by decide) (by decide), gs_c _ _ _ _ (by decide), gs_c _ _ _ _ (by decide), gs_c _ _ _ _ (by decide)], show u41 133 = g 133 from funext fun j => by rw [hf48 133 j (by decide) (by decide) (by decide) (by decide) (by decide), gs_c _ _ _ _ (by decide), gs_c _ _ _ _ (by decide), hf21 133 j (by decide) (by decide) (by decide) (by decide), gs_c _ _ _ _ (by decide), gs_c _ _ _ _ (by decide), gs_c _ _ _ _ (by decide)], show u41 134 = g 134 from funext fun j => by rw [hf48 134 j (by decide) (by decide) (by decide) (by decide) (by decide), gs_c _ _ _ _ (by decide), gs_c _ _ _ _ (by decide), hf21 134 j (by decide) (by decide) (by decide) (by decide), gs_c _ _ _ _ (by decide), gs_c _ _ _ _ (by decide), gs_c _ _ _ _ (by decide)]]; exact SW_0 (fun i h => by have h9 : (i : Int) < x51.toInt := h; omega)) (by rw [show x51.toInt.toNat = 0 by omega]; show x49.toInt = 0; omega) hG hS (lv_sub hl [0, 1, 2, 3, 4] rfl)
          · skip
            refine lv_aload_n hx hb dX9_rings_39 rfl (lv_at hl 2 rfl) ?_
            refine get_X9_32 hx hb hA hown hE hG t_h0 wd_4_162 dX9_rings_40 (fun b118 (t_b118 : ty Γ b118 132) => ?_)
            refine lv_iload_n hx hb dX9_rings_43 rfl (lv_at hl 0 rfl) ?_
            refine ald_mI hx hb hE hG 32 rfl (n := 200) rfl (lo := 0) (hi := 5) rfl rfl t_b118 (by omega) dX9_rings_44 (fun j120 x119 h121 h122 h123 => ?_)
            obtain rfl : j120 = v3_31.toInt.toNat := by omega
            replace h122 : x119.toInt = g18 132 v3_31.toInt.toNat := h122
            have hk124 : g18 132 v3_31.toInt.toNat = (gs (gs (gs g 100 0 x1.toInt) 137 0 x12.toInt) 143 0 p1.toInt) 132 v3_31.toInt.toNat := hf21 132 v3_31.toInt.toNat (by decide) (by decide) (by decide) (by decide)
            replace hk124 : g18 132 v3_31.toInt.toNat = g 132 v3_31.toInt.toNat := by rw [hk124, gs_c _ _ _ _ (by decide), gs_c _ _ _ _ (by decide), gs_c _ _ _ _ (by decide)]
            have hH9 : g18 132 v3_31.toInt.toNat = g 132 v3_31.toInt.toNat := by rw [hf21 132 v3_31.toInt.toNat (by decide) (by decide) (by decide) (by decide), gs_c _ _ _ _ (by decide), gs_c _ _ _ _ (by decide), gs_c _ _ _ _ (by decide)]
            refine ty_if_eq (tgt := 51) hx hb dX9_rings_45 (by decide) (fun c125 => ?_) (fun c125 => ?_)
            · skip
              have hc8 := cnt_succ v3_31.toInt.toNat (g 132) 0
              have hcm := cnt_mono (show v3_31.toInt.toNat + 1 ≤ (g 126 0).toNat by omega) (g 132) 0
              have hj2 := hIJ.2
              have hwb9 := h131 v3_31.toInt.toNat (by omega)
              refine lv_aload_n hx hb dX9_rings_51 rfl (lv_at hl 2 rfl) ?_
              refine get_X9_36 hx hb hA hown hE hG t_h0 wd_4_166 dX9_rings_52 (fun b126 (t_b126 : ty Γ b126 136) => ?_)
              refine lv_aload_n hx hb dX9_rings_55 rfl (lv_at hl 2 rfl) ?_
              refine get_X9_37 hx hb hA hown hE hG t_h0 wd_4_167 dX9_rings_56 (fun x127 h128 => ?_)
              refine lv_iload_n hx hb dX9_rings_59 rfl (lv_at hl 0 rfl) ?_
              refine ast_mI hx hb hE hG hS hU 36 rfl (n := 9) rfl (lo := 0) (hi := 199) rfl rfl rfl t_b126 (by omega) (by omega) dX9_rings_60 (fun H locs hG hS => ?_)
              refine lv_aload_n hx hb dX9_rings_61 rfl (lv_at hl 2 rfl) ?_
              refine get_X9_38 hx hb hA hown hE hG t_h0 wd_4_168 dX9_rings_62 (fun b130 (t_b130 : ty Γ b130 138) => ?_)
              refine lv_aload_n hx hb dX9_rings_65 rfl (lv_at hl 2 rfl) ?_
              refine get_X9_37 hx hb hA hown hE hG t_h0 wd_4_167 dX9_rings_66 (fun x131 h132 => ?_)
              replace h132 : x131.toInt = g18 137 0 := by rw [h132, gs_c _ _ _ _ (by decide)]
              refine ty_bipush hx hb (-2) dX9_rings_69 (by decide) (fun x134 h135 => ?_)
              refine ast_mI hx hb hE hG hS hU 38 rfl (n := 9) rfl (lo := -2) (hi := 8) rfl rfl rfl t_b130 (by omega) (by omega) dX9_rings_71 (fun H locs hG hS => ?_)
              refine lv_aload_n hx hb dX9_rings_72 rfl (lv_at hl 2 rfl) ?_
              refine get_X9_40 hx hb hA hown hE hG t_h0 wd_4_170 dX9_rings_73 (fun b136 (t_b136 : ty Γ b136 140) => ?_)
              refine lv_aload_n hx hb dX9_rings_76 rfl (lv_at hl 2 rfl) ?_
              refine get_X9_37 hx hb hA hown hE hG t_h0 wd_4_167 dX9_rings_77 (fun x137 h138 => ?_)
              replace h138 : x137.toInt = g18 137 0 := by rw [h138, gs_c _ _ _ _ (by decide), gs_c _ _ _ _ (by decide)]
              refine ty_iconst hx hb (0) dX9_rings_80 (by decide) (fun x140 h141 => ?_)
              refine ast_mZ hx hb hE hG hS hU 40 rfl (n := 9) rfl (lo := 0) (hi := 1) rfl rfl rfl t_b136 (by omega) (by omega) (by omega) dX9_rings_81 (fun H locs hG hS => ?_)
              refine lv_iload_n hx hb dX9_rings_82 rfl (lv_at hl 1 rfl) ?_
              refine lv_aload_n hx hb dX9_rings_83 rfl (lv_at hl 2 rfl) ?_
              refine get_X9_31 hx hb hA hown hE hG t_h0 wd_4_161 dX9_rings_84 (fun b142 (t_b142 : ty Γ b142 131) => ?_)
              refine lv_iload_n hx hb dX9_rings_87 rfl (lv_at hl 0 rfl) ?_
              refine ald_mI hx hb hE hG 31 rfl (n := 200) rfl (lo := -2147483648) (hi := 2147483647) rfl rfl t_b142 (by omega) dX9_rings_88 (fun j144 x143 h145 h146 h147 => ?_)
              clear h147
              obtain rfl : j144 = v3_31.toInt.toNat := by omega
              rw [gs_c _ _ _ _ (by decide)] at h146
              rw [gs_c _ _ _ _ (by decide)] at h146
              rw [gs_c _ _ _ _ (by decide)] at h146
              replace h146 : x143.toInt = g18 131 v3_31.toInt.toNat := h146
              have hk148 : g18 131 v3_31.toInt.toNat = (gs (gs (gs g 100 0 x1.toInt) 137 0 x12.toInt) 143 0 p1.toInt) 131 v3_31.toInt.toNat := hf21 131 v3_31.toInt.toNat (by decide) (by decide) (by decide) (by decide)
              replace hk148 : g18 131 v3_31.toInt.toNat = g 131 v3_31.toInt.toNat := by rw [hk148, gs_c _ _ _ _ (by decide), gs_c _ _ _ _ (by decide), gs_c _ _ _ _ (by decide)]
              refine ty_iadd hx hb dX9_rings_89 (fun x149 h150 => ?_)
              try have h151 : x149.toInt = v2_31.toInt + x143.toInt := ty_add h150 (by omega) (by omega)
              refine lv_istore_n (lv' := [(2, .int x149), (3, .int v3_31), (0, .ref h0), (1, .int p1)]) hx hb dX9_rings_90 rfl hl (by decide) rfl (fun ls hl => ?_)
              refine lv_aload_n hx hb dX9_rings_91 rfl (lv_at hl 2 rfl) ?_
              refine lv_dup hx hb dX9_rings_92 rfl ?_
              refine get_X9_37 hx hb hA hown hE hG t_h0 wd_4_167 dX9_rings_93 (fun x152 h153 => ?_)
              replace h153 : x152.toInt = g18 137 0 := by rw [h153, gs_c _ _ _ _ (by decide), gs_c _ _ _ _ (by decide), gs_c _ _ _ _ (by decide)]
              refine ty_iconst hx hb (1) dX9_rings_96 (by decide) (fun x155 h156 => ?_)
              refine ty_iadd hx hb dX9_rings_97 (fun x157 h158 => ?_)
              try have h159 : x157.toInt = x152.toInt + x155.toInt := ty_add h158 (by omega) (by omega)
              refine put_X9_37 hx hb hA hown hE hG hS hU t_h0 wd_4_167 dX9_rings_98 (fun H locs hG hS => ?_)
              obtain ⟨x160, h161⟩ : ∃ y : Int32, y = v3_31 + Int32.ofInt (1) := ⟨_, rfl⟩
              try have h162 : x160.toInt = v3_31.toInt + (1) := ty_inc h161 (by decide) (by omega) (by omega)
              refine lv_iinc (v := x160) (lv' := [(3, .int x160), (2, .int x149), (0, .ref h0), (1, .int p1)]) hx hb dX9_rings_101 hl (k := 1) rfl h161.symm (by decide) rfl (fun ls hl => ?_)
              have hc9 := cnt_at (g 132) 0 (i := v3_31) (i' := x160) (by omega) (by omega)
              refine lv_goto (tgt := 31) hx hb dX9_rings_104 (by decide) ?_
              have e163 : (gs (gs (gs (gs g18 136 x127.toInt.toNat v3_31.toInt) 138 x131.toInt.toNat x134.toInt) 140 x137.toInt.toNat x140.toInt) 137 0 x157.toInt) 126 0 = g18 126 0 := by rw [gs_c _ _ _ _ (by decide), gs_c _ _ _ _ (by decide), gs_c _ _ _ _ (by decide), gs_c _ _ _ _ (by decide)]
              have e164 : (gs (gs (gs (gs g18 136 x127.toInt.toNat v3_31.toInt) 138 x131.toInt.toNat x134.toInt) 140 x137.toInt.toNat x140.toInt) 137 0 x157.toInt) 137 0 = x157.toInt := by rw [gs_self]
              exact ih_31 x160 x149 (gs (gs (gs (gs g18 136 x127.toInt.toNat v3_31.toInt) 138 x131.toInt.toNat x134.toInt) 140 x137.toInt.toNat x140.toInt) 137 0 x157.toInt) _ _ ls (by omega) (by omega) (by omega) (by omega) (fun c j h136 h137 h138 h140 => by rw [gs_c _ _ _ _ h137, gs_c _ _ _ _ h140, gs_c _ _ _ _ h138, gs_c _ _ _ _ h136, hf21 c j h136 h137 h138 h140]) (fun i hi => by rw [gs_self] at hi; refine ⟨?_, ?_⟩; (rw [gs_c _ _ _ _ (by decide), gs_c _ _ _ _ (by decide)]; by_cases e9 : i = x131.toInt.toNat; (rw [e9, gs_self]; omega); (rw [gs_j _ _ _ _ e9, gs_c _ _ _ _ (by decide)]; exact (hq0 i (by omega)).1)); (rw [gs_c _ _ _ _ (by decide)]; by_cases e9 : i = x137.toInt.toNat; (rw [e9, gs_self]; omega); (rw [gs_j _ _ _ _ e9, gs_c _ _ _ _ (by decide), gs_c _ _ _ _ (by decide)]; exact (hq0 i (by omega)).2))) (by have h9 : (gs (gs (gs (gs g18 136 x127.toInt.toNat v3_31.toInt) 138 x131.toInt.toNat x134.toInt) 140 x137.toInt.toNat x140.toInt) 137 0 x157.toInt) 137 0 = _ := gs_self _ _ _ _; exact MB_up hq1 (by omega) (by omega) (by omega) trivial (k := v3_31.toInt.toNat) rfl (by rw [gs_r _ _ _ (by decide), gs_r _ _ _ (by decide), gs_r _ _ _ (by decide), pz_gs] <;> exact pz_upc (by omega) (by omega))) (by have h9 : (gs (gs (gs (gs g18 136 x127.toInt.toNat v3_31.toInt) 138 x131.toInt.toNat x134.toInt) 140 x137.toInt.toNat x140.toInt) 137 0 x157.toInt) 137 0 = _ := gs_self _ _ _ _; exact rg_a_up (r := g18 136) (w := g 131) (k := v3_31.toInt.toNat) (by rw [gs_r _ _ _ (by decide), gs_r _ _ _ (by decide), gs_r _ _ _ (by decide), pz_gs] <;> exact pz_upc (by omega) (by omega)) (by omega) hq2 (by omega)) hG hS (lv_sub hl [0, 1, 2, 3] rfl)
            · skip
              refine lv_goto (tgt := 101) hx hb dX9_rings_48 (by decide) ?_
              obtain ⟨x165, h166⟩ : ∃ y : Int32, y = v3_31 + Int32.ofInt (1) := ⟨_, rfl⟩
              try have h167 : x165.toInt = v3_31.toInt + (1) := ty_inc h166 (by decide) (by omega) (by omega)
              refine lv_iinc (v := x165) (lv' := [(3, .int x165), (2, .int v2_31), (0, .ref h0), (1, .int p1)]) hx hb dX9_rings_101 hl (k := 0) rfl h166.symm (by decide) rfl (fun ls hl => ?_)
              have hc9 := cnt_at (g 132) 0 (i := v3_31) (i' := x165) (by omega) (by omega)
              refine lv_goto (tgt := 31) hx hb dX9_rings_104 (by decide) ?_
              exact ih_31 x165 v2_31 g18 _ _ ls (by omega) (by omega) (by omega) (by omega) (fun c j h136 h137 h138 h140 => by rw [hf21 c j h136 h137 h138 h140]) (hq0) (MB_no hq1 (by omega) (fun h => absurd h (by omega))) (hq2) hG hS (lv_sub hl [0, 1, 2, 3] rfl)
    have e168 : (gs (gs (gs g 100 0 x1.toInt) 137 0 x12.toInt) 143 0 p1.toInt) 126 0 = g 126 0 := by rw [gs_c _ _ _ _ (by decide), gs_c _ _ _ _ (by decide), gs_c _ _ _ _ (by decide)]
    have e169 : (gs (gs (gs g 100 0 x1.toInt) 137 0 x12.toInt) 143 0 p1.toInt) 137 0 = x12.toInt := by rw [gs_c _ _ _ _ (by decide), gs_self]
    have hc0 : cnt x16.toInt.toNat (g 132) 0 = 0 := by rw [show x16.toInt.toNat = 0 by omega]; rfl
    exact L_31 (((gs (gs (gs g 100 0 x1.toInt) 137 0 x12.toInt) 143 0 p1.toInt) 126 0 - x16.toInt) + 1).toNat x16 x14 (gs (gs (gs g 100 0 x1.toInt) 137 0 x12.toInt) 143 0 p1.toInt) _ _ ls (by omega) (by omega) (by omega) (by omega) (fun c j _ _ _ _ => rfl) (fun i hi => absurd hi (by omega)) (MB_0 (by omega) (by omega)) (by rw [show ((gs (gs (gs g 100 0 x1.toInt) 137 0 x12.toInt) 143 0 p1.toInt) 137 0).toNat = 0 by omega]; show x14.toInt = 0; omega) hG hS (lv_sub hl [0, 1, 2, 3] rfl)
  · skip
    refine ty_iconst hx hb (-1) dX9_rings_15 (by decide) (fun x170 h171 => ?_)
    exact W.iret (v := x170) hx hb hr (fun t ht hW => ⟨⟨x170, (gs g 100 0 x1.toInt), rfl, ⟨(fun c j h100 h132 h133 h134 h136 h137 h138 h139 h140 h141 h142 h143 => by rw [gs_c _ _ _ _ h100]), (by (repeat (first | with_reducible assumption | (refine IJ_c (by decide) (by decide) (by decide) ?_) | (refine IJ_take (by omega) (by omega) ?_) | (refine IJ_how (by omega) ?_) | (refine IJ_by (by omega) ?_)))), (⟨fun h => absurd h (by omega), fun _ => ⟨by omega, funext fun j => by rw [gs_c _ _ _ _ (by decide)], funext fun j => by rw [gs_c _ _ _ _ (by decide)], funext fun j => by rw [gs_c _ _ _ _ (by decide)]⟩⟩)⟩, ok1 ht hG⟩, hS.F ht⟩) hS.2.2 dX9_rings_16
