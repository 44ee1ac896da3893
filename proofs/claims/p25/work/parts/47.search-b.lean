theorem hs1_ {z i : Int} {j : Nat} (h : tbz z i ≠ 0) (hj : i.toNat = j) : z.toNat.testBit j = true := by rw [← hj]; exact tbz_1 h
theorem hs0_ {z i : Int} {j : Nat} (h : tbz z i = 0) (hj : i.toNat = j) : z.toNat.testBit j = false := by rw [← hj]; exact tbz_0 h
theorem sd_le_ {s r : Nat} : sd s r ≤ s := by
  have hse : s &&& sd s r = sd s r := Nat.eq_of_testBit_eq (fun i => by rw [Nat.testBit_and, sd_tb]; cases s.testBit i <;> cases r.testBit i <;> rfl)
  rw [← hse]; exact Nat.and_le_left
theorem hc_le (S : Nat) : ∀ n, n ≤ 9 → 0 ≤ hc_f S n ∧ hc_f S n ≤ 999999999 := by
  have key : ∀ n, 0 ≤ hc_f S n ∧ hc_f S n ≤ rg_s (fun i => 9 * dp_D i) n := by
    intro n
    induction n with
    | zero => exact ⟨Int.le_refl _, Int.le_refl _⟩
    | succ n ih =>
      have d := dp_D_pos n
      unfold hc_f rg_s
      split <;> omega
  intro n hn
  have : ∀ n, n < 10 → rg_s (fun i => 9 * dp_D i) n ≤ 999999999 := by decide
  have := this n (by omega)
  have := key n
  omega

set_option maxHeartbeats 4000000 in
set_option maxRecDepth 100000 in
/-- WeekBank$RingSearch.goOnFrom:  -/
theorem k_X5_goOnFrom (l : Launch) (dC : Nat → ClassId) (dI : Nat → Nat → Nat) (dA : Nat → ClassId) (sz : Nat) (X : va_W) (Γ : ty_G) (hU : Un Γ) (g : gh) (h0 : Nat) (t_h0 : ty Γ h0 8) (p1 : Int32) (p2 : Int32) (hs : 0 ≤ g 7 0 ∧ g 7 0 ≤ 9) (hf : 1 ≤ p1.toInt ∧ p1.toInt ≤ 511) (hRR : ∀ j : Nat, (j : Int) < g 7 0 → 0 ≤ g 83 j ∧ g 83 j ≤ 511) (hVV : ∀ z : Nat, (z : Int) < g 7 0 → g 84 (p1.toInt.toNat * 9 + z) = dp_N ∨ (0 ≤ g 84 (p1.toInt.toNat * 9 + z) ∧ g 84 (p1.toInt.toNat * 9 + z) ≤ 888888888)) : Met l yX5_goOnFrom (.code yX5_goOnFrom cX5_goOnFrom 7 (Option.none : Option Jvm.ClassFile.FieldType) :: AL) ({ frames := 2, cells := 0, slots := 0, locals := 48 }) (PCx dC dI dA sz X Γ g [.ref h0, .int p1, .int p2]) (va_Qv (fun (u : gh) => (∀ c j : Nat, c ≠ 84 → c ≠ 85 → u c j = g c j) ∧ (u 84 = (if p2.toInt < bcz p1.toInt.toNat then g 84 else (dd_go (g 7 0).toNat (fun x y => ((g 83) x).toNat.testBit y) p1.toInt.toNat (lo9 p1.toInt.toNat) (g 84) (g 85) (g 7 0).toNat).1)) ∧ (u 85 = (if p2.toInt < bcz p1.toInt.toNat then g 85 else (dd_go (g 7 0).toNat (fun x y => ((g 83) x).toNat.testBit y) p1.toInt.toNat (lo9 p1.toInt.toNat) (g 84) (g 85) (g 7 0).toNat).2))) (okb dC dI dA sz X Γ) (ty_A sz)) 0 0 (ty_A sz) := by
  refine Met.ofW (cc := cX5_goOnFrom) (maxL := 7) (ret := (Option.none : Option Jvm.ClassFile.FieldType)) (by decide) rfl ?_
  intro p e s m args below meth c s₁ B hml hv
  obtain ⟨rfl, hG, hE⟩ := hv
  have hx := B.exec
  have hb := B.bytes
  have hr := B.returns
  have hts := atoms_spec B.pre
  have hA : ∀ w ∈ AL, w.before _ s = true := fun w h => hts w (List.mem_cons_of_mem _ h)
  have hown : s.vm.findClass RX5 = some m.cls := findClass_of_methodNamed B.named
  have hlocks := B.notSynchronized
  have hS : va_S (ty_A sz) s.heap s.heap [] := va_S.rf
  have hES := hE.2.1.2.2.2.2.2.2
  have hl := lv_entry ([.ref h0, .int p1, .int p2]) (n := 7) (Nat.le_of_ble_eq_true rfl)
  rw [lg_entry_eq]
  generalize (lg_sl ([.ref h0, .int p1, .int p2]) ++ List.replicate (7 - (lg_sl ([.ref h0, .int p1, .int p2])).length) Slot.unset).toArray = ls at hl ⊢
  have hl : lv_has ls 7 [(0, .ref h0), (1, .int p1), (2, .int p2)] := hl
  refine lv_iload_n hx hb dX5_goOnFrom_0 rfl (lv_at hl 1 rfl) ?_
  refine cI (va_runS (As := [.int p1]) (rest := []) ⟨hx, hb, hml, hown, hA⟩ (k_X5_leastOf l dC dI dA sz X Γ hU g p1   (by omega)) ⟨callB_of 1 hA (al_A wd_3_142) rfl rfl rfl (hA _ wd_1_5) (hA _ wd_3_140) (by decide +kernel) ⟨Nat.le_of_ble_eq_true rfl, Nat.le_of_ble_eq_true rfl⟩, hA _ wd_3_141⟩ ⟨bl, fun U hU9 hW9 => ⟨rfl, by rw [hU9]; exact hG, hE.go hS hU9 hW9⟩⟩ rfl rfl hl.1 rfl (lv_room (Nat.le_of_ble_eq_true rfl)) dX5_goOnFrom_1 ⟨Nat.zero_le _, Nat.zero_le _⟩) hS (fun x3 u1 H locs w2 hG hS => ?_)
  obtain ⟨eu4, w2⟩ := w2
  rw [eu4] at hG
  have hlr9 := lo9_le p1.toInt.toNat
  refine lv_istore_n (lv' := [(3, .int x3), (0, .ref h0), (1, .int p1), (2, .int p2)]) hx hb dX5_goOnFrom_4 rfl hl (by decide) rfl (fun ls hl => ?_)
  refine lv_iload_n hx hb dX5_goOnFrom_5 rfl (lv_at hl 2 rfl) ?_
  refine cI (va_runS (As := [.int p1]) (rest := []) ⟨hx, hb, hml, hown, hA⟩ (k_bitCount l dC dI dA sz X Γ hU g p1   (by omega)) ⟨callB_of 1 hA (al_A wd_3_145) rfl rfl rfl (hA _ wd_1_17) (hA _ wd_3_143) (by decide +kernel) ⟨Nat.le_of_ble_eq_true rfl, Nat.le_of_ble_eq_true rfl⟩, hA _ wd_3_144⟩ ⟨bl, fun U hU9 hW9 => ⟨rfl, by rw [hU9]; exact hG, hE.go hS hU9 hW9⟩⟩ rfl rfl hl.1 rfl (lv_room (Nat.le_of_ble_eq_true rfl)) dX5_goOnFrom_6 ⟨Nat.zero_le _, Nat.zero_le _⟩) hS (fun x7 u5 H locs w6 hG hS => ?_)
  obtain ⟨eu8, w6⟩ := w6
  rw [eu8] at hG
  have hbr9 := bcz_rg p1.toInt.toNat (by omega)
  refine lv_istore (lv' := [(4, .int x7), (3, .int x3), (0, .ref h0), (1, .int p1), (2, .int p2)]) hx hb dX5_goOnFrom_9 hl (by decide) rfl (fun ls hl => ?_)
  refine lv_iload hx hb dX5_goOnFrom_11 (lv_at hl 0 rfl) ?_
  refine lv_iload_n hx hb dX5_goOnFrom_13 rfl (lv_at hl 4 rfl) ?_
  refine ty_icmp_le (tgt := 18) hx hb dX5_goOnFrom_14 (by decide) (fun c9 => ?_) (fun c9 => ?_)
  · skip
    refine lv_iload_n hx hb dX5_goOnFrom_18 rfl (lv_at hl 1 rfl) ?_
    refine lv_istore (lv' := [(5, .int x3), (4, .int x7), (3, .int x3), (0, .ref h0), (1, .int p1), (2, .int p2)]) hx hb dX5_goOnFrom_19 hl (by decide) rfl (fun ls hl => ?_)
    have L_21 : ∀ (n : Nat) (v5_21 : Int32) (g10 : gh) (H : Heap) (locs : List Loc) (ls : Array Slot), (65 - v5_21.toInt : Int) < n → 0 ≤ v5_21.toInt ∧ v5_21.toInt ≤ 64 ∧ (lo9 p1.toInt.toNat : Int) ≤ v5_21.toInt ∧ (v5_21.toInt ≤ g 7 0 ∨ v5_21.toInt = (lo9 p1.toInt.toNat : Int)) → (∀ c j : Nat, c ≠ 84 → c ≠ 85 → g10 c j = g c j) → (g10 84 = (dd_go (g 7 0).toNat (fun x y => ((g 83) x).toNat.testBit y) p1.toInt.toNat (lo9 p1.toInt.toNat) (g 84) (g 85) v5_21.toInt.toNat).1) → (g10 85 = (dd_go (g 7 0).toNat (fun x y => ((g 83) x).toNat.testBit y) p1.toInt.toNat (lo9 p1.toInt.toNat) (g 84) (g 85) v5_21.toInt.toNat).2) → ty_ok (dC, dI) vwCl Γ (TP dA Γ g10) sz X H → va_S (ty_A sz) s.heap H locs → lv_has ls 7 [(5, .int v5_21), (4, .int x7), (3, .int x3), (0, .ref h0), (1, .int p1), (2, .int p2)] → W p l e (headSpec (.code yX5_goOnFrom cX5_goOnFrom 7 (Option.none : Option Jvm.ClassFile.FieldType) :: AL) ({ frames := 2, cells := 0, slots := 0, locals := 48 })).room s m ([.ref h0, .int p1, .int p2] : List Value).toArray below meth c H locs 0 0 (MQ below (va_Qv (fun (u : gh) => (∀ c j : Nat, c ≠ 84 → c ≠ 85 → u c j = g c j) ∧ (u 84 = (if p2.toInt < bcz p1.toInt.toNat then g 84 else (dd_go (g 7 0).toNat (fun x y => ((g 83) x).toNat.testBit y) p1.toInt.toNat (lo9 p1.toInt.toNat) (g 84) (g 85) (g 7 0).toNat).1)) ∧ (u 85 = (if p2.toInt < bcz p1.toInt.toNat then g 85 else (dd_go (g 7 0).toNat (fun x y => ((g 83) x).toNat.testBit y) p1.toInt.toNat (lo9 p1.toInt.toNat) (g 84) (g 85) (g 7 0).toNat).2))) (okb dC dI dA sz X Γ) (ty_A sz)) ([.ref h0, .int p1, .int p2] : List Value).toArray s 0 0 (ty_A sz)) (F0 m 21 ls []) := by
      intro n
      induction n with
      | zero => intro v5_21 g10 H locs ls hm hi0 hf11 ha0 ha1 hG hS hl; exfalso; omega
      | succ n ih_21 =>
        intro v5_21 g10 H locs ls hm hi0 hf11 ha0 ha1 hG hS hl
        refine lv_iload hx hb dX5_goOnFrom_21 (lv_at hl 0 rfl) ?_
        refine lv_aload_n hx hb dX5_goOnFrom_23 rfl (lv_at hl 3 rfl) ?_
        refine get_X5_1 hx hb hA hown hE hG t_h0 wd_1_108 dX5_goOnFrom_24 (fun x12 h13 => ?_)
        have hk15 : g10 7 0 = g 7 0 := hf11 7 0 (by decide) (by decide)
        refine ty_icmp_ge (tgt := 105) hx hb dX5_goOnFrom_27 (by decide) (fun c16 => ?_) (fun c16 => ?_)
        · skip
          exact W.vret hx hb hr (fun t ht hW => ⟨⟨g10, rfl, ⟨(fun c j h84 h85 => by rw [hf11 c j h84 h85]), (by rw [if_neg (by omega), ha0]; by_cases h9 : v5_21.toInt = g 7 0; (rw [show v5_21.toInt.toNat = (g 7 0).toNat by omega]); (rw [dd_go_0 _ (by omega), dd_go_0 _ (by omega)])), (by rw [if_neg (by omega), ha1]; by_cases h9 : v5_21.toInt = g 7 0; (rw [show v5_21.toInt.toNat = (g 7 0).toNat by omega]); (rw [dd_go_0 _ (by omega), dd_go_0 _ (by omega)]))⟩, ok1 ht hG⟩, hS.F ht⟩) hS.2.2 dX5_goOnFrom_105
        · skip
          refine lv_aload_n hx hb dX5_goOnFrom_30 rfl (lv_at hl 3 rfl) ?_
          refine get_X5_3 hx hb hA hown hE hG t_h0 wd_1_110 dX5_goOnFrom_31 (fun b17 (t_b17 : ty Γ b17 21) => ?_)
          refine lv_iload_n hx hb dX5_goOnFrom_34 rfl (lv_at hl 4 rfl) ?_
          refine ty_bipush hx hb (9) dX5_goOnFrom_35 (by decide) (fun x18 h19 => ?_)
          refine ty_imul hx hb dX5_goOnFrom_37 (fun x20 h21 => ?_)
          try have h22 : x20.toInt = p1.toInt * 9 := ty_mulr h21 (by omega) (by omega) (by omega)
          refine lv_iload hx hb dX5_goOnFrom_38 (lv_at hl 0 rfl) ?_
          refine ty_iadd hx hb dX5_goOnFrom_40 (fun x23 h24 => ?_)
          try have h25 : x23.toInt = x20.toInt + v5_21.toInt := ty_add h24 (by omega) (by omega)
          refine ald_21 hx hb hE hG t_b17 (by omega) dX5_goOnFrom_41 (fun j27 x26 h28 h29 => ?_)
          obtain rfl : j27 = x23.toInt.toNat := by omega
          rw [show x23.toInt.toNat = (p1.toInt.toNat * 9 + v5_21.toInt.toNat) by omega] at h29
          have hgo9 : g10 84 (p1.toInt.toNat * 9 + v5_21.toInt.toNat) = g 84 (p1.toInt.toNat * 9 + v5_21.toInt.toNat) := by rw [ha0]; exact (dd_go_all (n := (g 7 0).toNat) (su := (fun x y => ((g 83) x).toNat.testBit y)) (T := p1.toInt.toNat) (a := lo9 p1.toInt.toNat) (R := g 84) (Q := g 85) (by omega) v5_21.toInt.toNat (by omega)).1 v5_21.toInt.toNat (by omega)
          have hvv9 := hVV v5_21.toInt.toNat (by omega)
          have hrr9 := hRR v5_21.toInt.toNat (by omega)
          unfold dp_N at hvv9
          refine lv_istore (lv' := [(6, .int x26), (5, .int v5_21), (4, .int x7), (3, .int x3), (0, .ref h0), (1, .int p1), (2, .int p2)]) hx hb dX5_goOnFrom_42 hl (by decide) rfl (fun ls hl => ?_)
          refine lv_iload hx hb dX5_goOnFrom_44 (lv_at hl 0 rfl) ?_
          refine ty_ldc hx hb (2147483647) hown (hA _ wd_3_135) dX5_goOnFrom_46 (by decide) (fun x30 h31 => ?_)
          refine ty_icmp_eq (tgt := 99) hx hb dX5_goOnFrom_48 (by decide) (fun c32 => ?_) (fun c32 => ?_)
          · skip
            obtain ⟨x33, h34⟩ : ∃ y : Int32, y = v5_21 + Int32.ofInt (1) := ⟨_, rfl⟩
            try have h35 : x33.toInt = v5_21.toInt + (1) := ty_inc h34 (by decide) (by omega) (by omega)
            refine lv_iinc (v := x33) (lv' := [(5, .int x33), (6, .int x26), (4, .int x7), (3, .int x3), (0, .ref h0), (1, .int p1), (2, .int p2)]) hx hb dX5_goOnFrom_99 hl (k := 1) rfl h34.symm (by decide) rfl (fun ls hl => ?_)
            refine lv_goto (tgt := 21) hx hb dX5_goOnFrom_102 (by decide) ?_
            exact ih_21 x33 g10 _ _ ls (by omega) (by omega) (fun c j h84 h85 => by rw [hf11 c j h84 h85]) (by rw [show x33.toInt.toNat = v5_21.toInt.toNat + 1 by omega, dd_go_n (fun q => q.2 (by rw [← ha0]; unfold dp_N; omega))]; exact ha0) (by rw [show x33.toInt.toNat = v5_21.toInt.toNat + 1 by omega, dd_go_n (fun q => q.2 (by rw [← ha0]; unfold dp_N; omega))]; exact ha1) hG hS (lv_sub hl [0, 2, 3, 4, 5, 6] rfl)
          · skip
            refine lv_aload_n hx hb dX5_goOnFrom_51 rfl (lv_at hl 4 rfl) ?_
            refine get_X5_2 hx hb hA hown hE hG t_h0 wd_1_109 dX5_goOnFrom_52 (fun b36 (t_b36 : ty Γ b36 20) => ?_)
            refine lv_iload hx hb dX5_goOnFrom_55 (lv_at hl 1 rfl) ?_
            refine ald_20 hx hb hE hG t_b36 (by omega) dX5_goOnFrom_57 (fun j38 x37 h39 h40 => ?_)
            obtain rfl : j38 = v5_21.toInt.toNat := by omega
            have hk41 : g10 83 v5_21.toInt.toNat = g 83 v5_21.toInt.toNat := hf11 83 v5_21.toInt.toNat (by decide) (by decide)
            refine lv_iload_n hx hb dX5_goOnFrom_58 rfl (lv_at hl 3 rfl) ?_
            refine cI (va_runS (As := [.int x37, .int x3]) (rest := []) ⟨hx, hb, hml, hown, hA⟩ (k_X5_has l dC dI dA sz X Γ hU g10 x37 x3   (by omega)) ⟨callB_of 2 hA (al_A wd_3_151) rfl rfl rfl (hA _ wd_1_5) (hA _ wd_3_149) (by decide +kernel) ⟨Nat.le_of_ble_eq_true rfl, Nat.le_of_ble_eq_true rfl⟩, hA _ wd_3_150⟩ ⟨bl, fun U hU9 hW9 => ⟨rfl, by rw [hU9]; exact hG, hE.go hS hU9 hW9⟩⟩ rfl rfl hl.1 rfl (lv_room (Nat.le_of_ble_eq_true rfl)) dX5_goOnFrom_59 ⟨Nat.zero_le _, Nat.zero_le _⟩) hS (fun x44 u42 H locs w43 hG hS => ?_)
            obtain ⟨eu45, w43⟩ := w43
            rw [eu45] at hG
            have htz9 := tbz_01 x37.toInt x3.toInt
            refine ty_if_eq (tgt := 91) hx hb dX5_goOnFrom_62 (by decide) (fun c46 => ?_) (fun c46 => ?_)
            · skip
              refine lv_aload_n hx hb dX5_goOnFrom_91 rfl (lv_at hl 4 rfl) ?_
              refine lv_iload_n hx hb dX5_goOnFrom_92 rfl (lv_at hl 5 rfl) ?_
              refine lv_iload_n hx hb dX5_goOnFrom_93 rfl (lv_at hl 3 rfl) ?_
              refine lv_iload hx hb dX5_goOnFrom_94 (lv_at hl 1 rfl) ?_
              refine cV (va_runV (C := RX5) (As := [.int p1, .int x3, .int v5_21]) (rest := []) ⟨hx, hb, hml, hown, hA⟩ (k_X5_lengthen l dC dI dA sz X Γ hU g10 h0 t_h0 p1 x3 v5_21   (by omega) (by omega) (by omega) (by omega)) ⟨callB_of 3 hA (al_A wd_3_158) rfl rfl rfl (hA _ wd_1_5) (hA _ wd_3_155) (by decide +kernel) ⟨Nat.le_of_ble_eq_true rfl, Nat.le_of_ble_eq_true rfl⟩, hA _ wd_3_157, hA _ ws_22⟩ ⟨bl, recv_X5 hE hG t_h0, fun U hU9 hW9 => ⟨rfl, by rw [hU9]; exact hG, hE.go hS hU9 hW9⟩⟩ rfl rfl hl.1 rfl (lv_room (Nat.le_of_ble_eq_true rfl)) dX5_goOnFrom_96 ⟨Nat.zero_le _, Nat.zero_le _⟩) hS (fun u47 H locs w48 hG hS => ?_)
              obtain ⟨hf50, hq49⟩ := w48
              have hn51 : g10 83 = (g 83) := by rw [(show g10 83 = g 83 from funext fun j => hf11 83 j (by decide) (by decide))]
              rw [hn51] at hq49
              have hn52 : g10 84 = ((dd_go (g 7 0).toNat (fun x y => ((g 83) x).toNat.testBit y) p1.toInt.toNat (lo9 p1.toInt.toNat) (g 84) (g 85) v5_21.toInt.toNat).1) := by rw [ha0]
              rw [hn52] at hq49
              have hn53 : g10 7 0 = g 7 0 := by rw [hf11 7 0 (by decide) (by decide)]
              try rw [hn53] at hq49
              obtain ⟨x54, h55⟩ : ∃ y : Int32, y = v5_21 + Int32.ofInt (1) := ⟨_, rfl⟩
              try have h56 : x54.toInt = v5_21.toInt + (1) := ty_inc h55 (by decide) (by omega) (by omega)
              refine lv_iinc (v := x54) (lv' := [(5, .int x54), (6, .int x26), (4, .int x7), (3, .int x3), (0, .ref h0), (1, .int p1), (2, .int p2)]) hx hb dX5_goOnFrom_99 hl (k := 1) rfl h55.symm (by decide) rfl (fun ls hl => ?_)
              refine lv_goto (tgt := 21) hx hb dX5_goOnFrom_102 (by decide) ?_
              exact ih_21 x54 u47 _ _ ls (by omega) (by omega) (fun c j h84 h85 => by rw [hf50 c j h84, hf11 c j h84 h85]) (by rw [show x54.toInt.toNat = v5_21.toInt.toNat + 1 by omega, dd_go_y ⟨by omega, by rw [← ha0]; unfold dp_N; omega⟩]; show u47 84 = dd_le _ _ _ _ _ _ _; rw [hq49, show x3.toInt.toNat = lo9 p1.toInt.toNat by omega]) (by rw [show x54.toInt.toNat = v5_21.toInt.toNat + 1 by omega, dd_go_y ⟨by omega, by rw [← ha0]; unfold dp_N; omega⟩]; show u47 85 = (if _ then _ else _); rw [if_neg (fun q => absurd (hs0_ (j := lo9 p1.toInt.toNat) (show tbz (g 83 v5_21.toInt.toNat) (x3.toInt) = 0 by rw [show g 83 v5_21.toInt.toNat = x37.toInt by omega]; omega) (by omega)) (by rw [q]; decide))]; rw [(show u47 85 = g10 85 from funext fun j => hf50 85 j (by decide))]; exact ha1) hG hS (lv_sub hl [0, 2, 3, 4, 5, 6] rfl)
            · skip
              refine lv_aload_n hx hb dX5_goOnFrom_65 rfl (lv_at hl 4 rfl) ?_
              refine get_X5_4 hx hb hA hown hE hG t_h0 wd_1_111 dX5_goOnFrom_66 (fun b57 (t_b57 : ty Γ b57 22) => ?_)
              refine lv_iload_n hx hb dX5_goOnFrom_69 rfl (lv_at hl 5 rfl) ?_
              refine lv_aload_n hx hb dX5_goOnFrom_70 rfl (lv_at hl 4 rfl) ?_
              refine get_X5_4 hx hb hA hown hE hG t_h0 wd_1_111 dX5_goOnFrom_71 (fun b58 (t_b58 : ty Γ b58 22) => ?_)
              refine lv_iload_n hx hb dX5_goOnFrom_74 rfl (lv_at hl 5 rfl) ?_
              refine ald_22 hx hb hE hG t_b58 (by omega) dX5_goOnFrom_75 (fun j60 x59 h61 h62 => ?_)
              obtain rfl : j60 = p1.toInt.toNat := by omega
              refine lv_iload hx hb dX5_goOnFrom_76 (lv_at hl 0 rfl) ?_
              refine lv_iload_n hx hb dX5_goOnFrom_78 rfl (lv_at hl 3 rfl) ?_
              refine va_gets hx hb hES.2.2.2.1 hS hown (hA _ wd_3_152) (fun _ h => h) dX5_goOnFrom_79 ?_
              refine lv_iload hx hb dX5_goOnFrom_82 (lv_at hl 1 rfl) ?_
              refine va_ti hx hb hES.2.2.2.2 hS (i := v5_21) (ty_ix (by omega)) rfl dX5_goOnFrom_84 ?_
              refine lv_topi (fun x63 h64 => ?_)
              replace h64 : x63.toInt = dp_D v5_21.toInt.toNat := dW_ix h64 (by omega)
              refine ty_imul hx hb dX5_goOnFrom_85 (fun x65 h66 => ?_)
              have h67 := mulD h66 h64 (by omega)
              have h68 := mulDr x3.toInt v5_21.toInt.toNat (by omega)
              refine ty_iadd hx hb dX5_goOnFrom_86 (fun x69 h70 => ?_)
              try have h71 : x69.toInt = x26.toInt + x65.toInt := ty_add h70 (by omega) (by omega)
              refine va_mmin hx hb (hml.trans hl.1.symm) hown (hA _ wd_3_154) (hA _ wd_2_239) (hA _ wd_1_14) (hA _ wd_3_0) (Nat.le_of_ble_eq_true rfl) (Nat.le_of_ble_eq_true rfl) (Nat.zero_le _) (Nat.zero_le _) dX5_goOnFrom_87 ?_
              refine lv_topi (fun x72 h73 => ?_)
              have h73 : x72.toInt = if x69.toInt < x59.toInt then x69.toInt else x59.toInt := by rw [h73]; simp only [ty_lt32]; split <;> rfl
              refine ast_22 hx hb hE hG hS hU t_b57 (by omega) dX5_goOnFrom_90 (fun H locs hG hS => ?_)
              refine lv_aload_n hx hb dX5_goOnFrom_91 rfl (lv_at hl 4 rfl) ?_
              refine lv_iload_n hx hb dX5_goOnFrom_92 rfl (lv_at hl 5 rfl) ?_
              refine lv_iload_n hx hb dX5_goOnFrom_93 rfl (lv_at hl 3 rfl) ?_
              refine lv_iload hx hb dX5_goOnFrom_94 (lv_at hl 1 rfl) ?_
              have e74 : (gs g10 85 (p1.toInt.toNat) x72.toInt) 7 0 = g10 7 0 := by rw [gs_c _ _ _ _ (by decide)]
              have e75 : (gs g10 85 (p1.toInt.toNat) x72.toInt) 83 v5_21.toInt.toNat = g10 83 v5_21.toInt.toNat := by rw [gs_c _ _ _ _ (by decide)]
              refine cV (va_runV (C := RX5) (As := [.int p1, .int x3, .int v5_21]) (rest := []) ⟨hx, hb, hml, hown, hA⟩ (k_X5_lengthen l dC dI dA sz X Γ hU (gs g10 85 (p1.toInt.toNat) x72.toInt) h0 t_h0 p1 x3 v5_21   (by omega) (by omega) (by omega) (by rw [show (gs g10 85 (p1.toInt.toNat) x72.toInt) 84 = g10 84 from funext fun j => by rw [gs_c _ _ _ _ (by decide)]]; omega)) ⟨callB_of 3 hA (al_A wd_3_158) rfl rfl rfl (hA _ wd_1_5) (hA _ wd_3_155) (by decide +kernel) ⟨Nat.le_of_ble_eq_true rfl, Nat.le_of_ble_eq_true rfl⟩, hA _ wd_3_157, hA _ ws_22⟩ ⟨bl, recv_X5 hE hG t_h0, fun U hU9 hW9 => ⟨rfl, by rw [hU9]; exact hG, hE.go hS hU9 hW9⟩⟩ rfl rfl hl.1 rfl (lv_room (Nat.le_of_ble_eq_true rfl)) dX5_goOnFrom_96 ⟨Nat.zero_le _, Nat.zero_le _⟩) hS (fun u76 H locs w77 hG hS => ?_)
              obtain ⟨hf79, hq78⟩ := w77
              have hn80 : (gs g10 85 (p1.toInt.toNat) x72.toInt) 83 = (g 83) := by rw [gs_r _ _ _ (by decide), (show g10 83 = g 83 from funext fun j => hf11 83 j (by decide) (by decide))]
              rw [hn80] at hq78
              have hn81 : (gs g10 85 (p1.toInt.toNat) x72.toInt) 84 = ((dd_go (g 7 0).toNat (fun x y => ((g 83) x).toNat.testBit y) p1.toInt.toNat (lo9 p1.toInt.toNat) (g 84) (g 85) v5_21.toInt.toNat).1) := by rw [gs_r _ _ _ (by decide), ha0]
              rw [hn81] at hq78
              have hn82 : (gs g10 85 (p1.toInt.toNat) x72.toInt) 7 0 = g 7 0 := by rw [gs_c _ _ _ _ (by decide), hf11 7 0 (by decide) (by decide)]
              try rw [hn82] at hq78
              obtain ⟨x83, h84⟩ : ∃ y : Int32, y = v5_21 + Int32.ofInt (1) := ⟨_, rfl⟩
              try have h85 : x83.toInt = v5_21.toInt + (1) := ty_inc h84 (by decide) (by omega) (by omega)
              refine lv_iinc (v := x83) (lv' := [(5, .int x83), (6, .int x26), (4, .int x7), (3, .int x3), (0, .ref h0), (1, .int p1), (2, .int p2)]) hx hb dX5_goOnFrom_99 hl (k := 1) rfl h84.symm (by decide) rfl (fun ls hl => ?_)
              refine lv_goto (tgt := 21) hx hb dX5_goOnFrom_102 (by decide) ?_
              exact ih_21 x83 u76 _ _ ls (by omega) (by omega) (fun c j h84 h85 => by rw [hf79 c j h84, gs_c _ _ _ _ h85, hf11 c j h84 h85]) (by rw [show x83.toInt.toNat = v5_21.toInt.toNat + 1 by omega, dd_go_y ⟨by omega, by rw [← ha0]; unfold dp_N; omega⟩]; show u76 84 = dd_le _ _ _ _ _ _ _; rw [hq78, show x3.toInt.toNat = lo9 p1.toInt.toNat by omega]) (by rw [show x83.toInt.toNat = v5_21.toInt.toNat + 1 by omega, dd_go_y ⟨by omega, by rw [← ha0]; unfold dp_N; omega⟩]; show u76 85 = (if _ then _ else _); rw [if_pos (hs1_ (j := lo9 p1.toInt.toNat) (show tbz (g 83 v5_21.toInt.toNat) (x3.toInt) ≠ 0 by rw [show g 83 v5_21.toInt.toNat = x37.toInt by omega]; omega) (by omega))]; rw [(show u76 85 = (gs g10 85 (p1.toInt.toNat) x72.toInt) 85 from funext fun j => hf79 85 j (by decide)), pz_gs, ha1]; refine pz_upc rfl ?_; rw [← ha0, ← ha1, show ((lo9 p1.toInt.toNat : Nat) : Int) = x3.toInt by omega]; omega) hG hS (lv_sub hl [0, 2, 3, 4, 5, 6] rfl)
    exact L_21 ((65 - x3.toInt) + 1).toNat x3 g _ _ ls (by omega) (by omega) (fun c j _ _ => rfl) (by rw [dd_go_0 _ (by omega)]) (by rw [dd_go_0 _ (by omega)]) hG hS (lv_sub hl [0, 1, 2, 3, 4, 5] rfl)
  · skip
    exact W.vret hx hb hr (fun t ht hW => ⟨⟨g, rfl, ⟨(fun c j h84 h85 => by rfl), (by rw [if_pos (by omega)]), (by rw [if_pos (by omega)])⟩, ok1 ht hG⟩, hS.F ht⟩) hS.2.2 dX5_goOnFrom_17

set_option maxHeartbeats 4000000 in
set_option maxRecDepth 100000 in
/-- WeekBank$RingSearch.firstWay:  -/
theorem k_X5_firstWay (l : Launch) (dC : Nat → ClassId) (dI : Nat → Nat → Nat) (dA : Nat → ClassId) (sz : Nat) (X : va_W) (Γ : ty_G) (hU : Un Γ) (g : gh) (h0 : Nat) (t_h0 : ty Γ h0 8) (p1 : Int32) (hf : 1 ≤ p1.toInt ∧ p1.toInt ≤ 511) (hQ : ∀ q : Nat, q ≤ p1.toInt.toNat → g 85 q = dp_N ∨ (0 ≤ g 85 q ∧ g 85 q ≤ 888888888)) (hW : ∀ q : Nat, q < p1.toInt.toNat → q ≠ 0 → g 86 q = dp_N ∨ (0 ≤ g 86 q ∧ g 86 q ≤ 888888888)) : Met l yX5_firstWay (.code yX5_firstWay cX5_firstWay 6 (Option.some Jvm.ClassFile.FieldType.int) :: AL) ({ frames := 1, cells := 0, slots := 0, locals := 13 }) (PCx dC dI dA sz X Γ g [.ref h0, .int p1]) (va_Qi (fun (r : Int32) (u : gh) => u = g ∧ ((r.toInt = dd_fw (g 85) (g 86) p1.toInt.toNat))) (okb dC dI dA sz X Γ) (ty_A sz)) 0 0 (ty_A sz) := by
  refine Met.ofW (cc := cX5_firstWay) (maxL := 6) (ret := (Option.some Jvm.ClassFile.FieldType.int)) (by decide) rfl ?_
  intro p e s m args below meth c s₁ B hml hv
  obtain ⟨rfl, hG, hE⟩ := hv
  have hx := B.exec
  have hb := B.bytes
  have hr := B.returns
  have hts := atoms_spec B.pre
  have hA : ∀ w ∈ AL, w.before _ s = true := fun w h => hts w (List.mem_cons_of_mem _ h)
  have hown : s.vm.findClass RX5 = some m.cls := findClass_of_methodNamed B.named
  have hlocks := B.notSynchronized
  have hS : va_S (ty_A sz) s.heap s.heap [] := va_S.rf
  have hl := lv_entry ([.ref h0, .int p1]) (n := 6) (Nat.le_of_ble_eq_true rfl)
  rw [lg_entry_eq]
  generalize (lg_sl ([.ref h0, .int p1]) ++ List.replicate (6 - (lg_sl ([.ref h0, .int p1])).length) Slot.unset).toArray = ls at hl ⊢
  have hl : lv_has ls 6 [(0, .ref h0), (1, .int p1)] := hl
  refine lv_iload_n hx hb dX5_firstWay_0 rfl (lv_at hl 1 rfl) ?_
  refine lv_iload_n hx hb dX5_firstWay_1 rfl (lv_at hl 1 rfl) ?_
  refine ty_iconst hx hb (1) dX5_firstWay_2 (by decide) (fun x1 h2 => ?_)
  refine ty_isub hx hb dX5_firstWay_3 (fun x3 h4 => ?_)
  try have h5 : x3.toInt = p1.toInt - x1.toInt := ty_sub h4 (by omega) (by omega)
  refine ty_iand hx hb dX5_firstWay_4 (fun x6 h7 => ?_)
  have hoo9 := and_n (a := p1.toInt.toNat) (b := p1.toInt.toNat - 1) h7 (by omega) (by omega)
  have hol9 : p1.toInt.toNat &&& (p1.toInt.toNat - 1) ≤ p1.toInt.toNat - 1 := Nat.and_le_right
  refine lv_istore_n (lv' := [(2, .int x6), (0, .ref h0), (1, .int p1)]) hx hb dX5_firstWay_5 rfl hl (by decide) rfl (fun ls hl => ?_)
  refine lv_aload_n hx hb dX5_firstWay_6 rfl (lv_at hl 1 rfl) ?_
  refine get_X5_4 hx hb hA hown hE hG t_h0 wd_1_111 dX5_firstWay_7 (fun b8 (t_b8 : ty Γ b8 22) => ?_)
  refine lv_iload_n hx hb dX5_firstWay_10 rfl (lv_at hl 2 rfl) ?_
  refine ald_22 hx hb hE hG t_b8 (by omega) dX5_firstWay_11 (fun j10 x9 h11 h12 => ?_)
  obtain rfl : j10 = p1.toInt.toNat := by omega
  refine lv_istore_n (lv' := [(3, .int x9), (2, .int x6), (0, .ref h0), (1, .int p1)]) hx hb dX5_firstWay_12 rfl hl (by decide) rfl (fun ls hl => ?_)
  refine lv_iload_n hx hb dX5_firstWay_13 rfl (lv_at hl 1 rfl) ?_
  refine lv_istore (lv' := [(4, .int x6), (3, .int x9), (2, .int x6), (0, .ref h0), (1, .int p1)]) hx hb dX5_firstWay_14 hl (by decide) rfl (fun ls hl => ?_)
  have L_16 : ∀ (n : Nat) (v4_16 : Int32) (v3_16 : Int32) (H : Heap) (locs : List Loc) (ls : Array Slot), (v4_16.toInt : Int) < n → 0 ≤ v4_16.toInt ∧ v4_16.toInt ≤ p1.toInt - 1 → (∃ k : Nat, v4_16.toInt.toNat < k ∧ fw_f (g 85) (g 86) p1.toInt.toNat (p1.toInt.toNat &&& (p1.toInt.toNat - 1)) k v4_16.toInt.toNat v3_16.toInt = dd_fw (g 85) (g 86) p1.toInt.toNat) → ty_ok (dC, dI) vwCl Γ (TP dA Γ g) sz X H → va_S (ty_A sz) s.heap H locs → lv_has ls 6 [(4, .int v4_16), (3, .int v3_16), (2, .int x6), (0, .ref h0), (1, .int p1)] → W p l e (headSpec (.code yX5_firstWay cX5_firstWay 6 (Option.some Jvm.ClassFile.FieldType.int) :: AL) ({ frames := 1, cells := 0, slots := 0, locals := 13 })).room s m ([.ref h0, .int p1] : List Value).toArray below meth c H locs 0 0 (MQ below (va_Qi (fun (r : Int32) (u : gh) => u = g ∧ ((r.toInt = dd_fw (g 85) (g 86) p1.toInt.toNat))) (okb dC dI dA sz X Γ) (ty_A sz)) ([.ref h0, .int p1] : List Value).toArray s 0 0 (ty_A sz)) (F0 m 16 ls []) := by
    intro n
    induction n with
    | zero => intro v4_16 v3_16 H locs ls hm hi0 hq0 hG hS hl; exfalso; omega
    | succ n ih_16 =>
      intro v4_16 v3_16 H locs ls hm hi0 hq0 hG hS hl
      refine lv_iload hx hb dX5_firstWay_16 (lv_at hl 0 rfl) ?_
      refine ty_if_le (tgt := 79) hx hb dX5_firstWay_18 (by decide) (fun c14 => ?_) (fun c14 => ?_)
      · skip
        refine lv_iload_n hx hb dX5_firstWay_79 rfl (lv_at hl 1 rfl) ?_
        exact W.iret (v := v3_16) hx hb hr (fun t ht hW => ⟨⟨v3_16, g, rfl, ⟨rfl, (by obtain ⟨k9, h1, h2⟩ := hq0; rw [show v4_16.toInt.toNat = 0 by omega, fw_end] at h2; exact h2)⟩, ok1 ht hG⟩, hS.F ht⟩) hS.2.2 dX5_firstWay_80
      · skip
        refine lv_aload_n hx hb dX5_firstWay_21 rfl (lv_at hl 3 rfl) ?_
        refine get_X5_4 hx hb hA hown hE hG t_h0 wd_1_111 dX5_firstWay_22 (fun b15 (t_b15 : ty Γ b15 22) => ?_)
        refine lv_iload_n hx hb dX5_firstWay_25 rfl (lv_at hl 4 rfl) ?_
        refine lv_iload hx hb dX5_firstWay_26 (lv_at hl 0 rfl) ?_
        refine ty_iconst hx hb (-1) dX5_firstWay_28 (by decide) (fun x16 h17 => ?_)
        refine ty_ixor hx hb dX5_firstWay_29 (fun x18 h19 => ?_)
        refine ty_iand hx hb dX5_firstWay_30 (fun x20 h21 => ?_)
        have hsd9 := sd_c h19 h21 (by omega) (by omega) (by omega)
        have hsl9 := sd_lt (s := p1.toInt.toNat) (r := v4_16.toInt.toNat) (by omega)
        have hq9 := hQ (sd p1.toInt.toNat v4_16.toInt.toNat) (sd_le_)
        have hw9 := hW v4_16.toInt.toNat (by omega) (by omega)
        unfold dp_N at hq9 hw9
        refine ald_22 hx hb hE hG t_b15 (by omega) dX5_firstWay_31 (fun j23 x22 h24 h25 => ?_)
        obtain rfl : j23 = x20.toInt.toNat := by omega
        rw [show x20.toInt.toNat = (sd p1.toInt.toNat v4_16.toInt.toNat) by omega] at h25
        refine lv_istore (lv' := [(5, .int x22), (4, .int v4_16), (3, .int v3_16), (2, .int x6), (0, .ref h0), (1, .int p1)]) hx hb dX5_firstWay_32 hl (by decide) rfl (fun ls hl => ?_)
        refine lv_iload hx hb dX5_firstWay_34 (lv_at hl 0 rfl) ?_
        refine ty_ldc hx hb (2147483647) hown (hA _ wd_3_135) dX5_firstWay_36 (by decide) (fun x26 h27 => ?_)
        refine ty_icmp_eq (tgt := 68) hx hb dX5_firstWay_38 (by decide) (fun c28 => ?_) (fun c28 => ?_)
        · skip
          refine lv_iload hx hb dX5_firstWay_68 (lv_at hl 1 rfl) ?_
          refine ty_iconst hx hb (1) dX5_firstWay_70 (by decide) (fun x29 h30 => ?_)
          refine ty_isub hx hb dX5_firstWay_71 (fun x31 h32 => ?_)
          try have h33 : x31.toInt = v4_16.toInt - x29.toInt := ty_sub h32 (by omega) (by omega)
          refine lv_iload_n hx hb dX5_firstWay_72 rfl (lv_at hl 3 rfl) ?_
          refine ty_iand hx hb dX5_firstWay_73 (fun x34 h35 => ?_)
          have han9 := and_n (a := v4_16.toInt.toNat - 1) (b := (p1.toInt.toNat &&& (p1.toInt.toNat - 1))) h35 (by omega) (by omega)
          have hal9 : (v4_16.toInt.toNat - 1) &&& (p1.toInt.toNat &&& (p1.toInt.toNat - 1)) ≤ v4_16.toInt.toNat - 1 := Nat.and_le_left
          refine lv_istore (lv' := [(4, .int x34), (5, .int x22), (3, .int v3_16), (2, .int x6), (0, .ref h0), (1, .int p1)]) hx hb dX5_firstWay_74 hl (by decide) rfl (fun ls hl => ?_)
          refine lv_goto (tgt := 16) hx hb dX5_firstWay_76 (by decide) ?_
          exact ih_16 x34 v3_16 _ _ ls (by omega) (by omega) (by obtain ⟨k9, h1, h2⟩ := hq0; obtain ⟨k8, rfl⟩ : ∃ k8, k9 = k8 + 1 := ⟨k9 - 1, by omega⟩; exact ⟨k8, by omega, by rw [← h2, fw_go (r := v4_16.toInt.toNat) (v := v3_16.toInt) (v' := v3_16.toInt) (by omega) (by rw [if_neg (by unfold dp_N; omega)]), show x34.toInt.toNat = ((v4_16.toInt.toNat - 1) &&& (p1.toInt.toNat &&& (p1.toInt.toNat - 1))) by omega]⟩) hG hS (lv_sub hl [0, 2, 3, 4, 5] rfl)
        · skip
          refine lv_aload_n hx hb dX5_firstWay_41 rfl (lv_at hl 4 rfl) ?_
          refine get_X5_5 hx hb hA hown hE hG t_h0 wd_1_112 dX5_firstWay_42 (fun b36 (t_b36 : ty Γ b36 27) => ?_)
          refine lv_iload hx hb dX5_firstWay_45 (lv_at hl 1 rfl) ?_
          refine ald_27 hx hb hE hG t_b36 (by omega) dX5_firstWay_47 (fun j38 x37 h39 h40 => ?_)
          obtain rfl : j38 = v4_16.toInt.toNat := by omega
          refine ty_ldc hx hb (2147483647) hown (hA _ wd_3_135) dX5_firstWay_48 (by decide) (fun x41 h42 => ?_)
          refine ty_icmp_eq (tgt := 68) hx hb dX5_firstWay_50 (by decide) (fun c43 => ?_) (fun c43 => ?_)
          · skip
            refine lv_iload hx hb dX5_firstWay_68 (lv_at hl 1 rfl) ?_
            refine ty_iconst hx hb (1) dX5_firstWay_70 (by decide) (fun x44 h45 => ?_)
            refine ty_isub hx hb dX5_firstWay_71 (fun x46 h47 => ?_)
            try have h48 : x46.toInt = v4_16.toInt - x44.toInt := ty_sub h47 (by omega) (by omega)
            refine lv_iload_n hx hb dX5_firstWay_72 rfl (lv_at hl 3 rfl) ?_
            refine ty_iand hx hb dX5_firstWay_73 (fun x49 h50 => ?_)
            have han9 := and_n (a := v4_16.toInt.toNat - 1) (b := (p1.toInt.toNat &&& (p1.toInt.toNat - 1))) h50 (by omega) (by omega)
            have hal9 : (v4_16.toInt.toNat - 1) &&& (p1.toInt.toNat &&& (p1.toInt.toNat - 1)) ≤ v4_16.toInt.toNat - 1 := Nat.and_le_left
            refine lv_istore (lv' := [(4, .int x49), (5, .int x22), (3, .int v3_16), (2, .int x6), (0, .ref h0), (1, .int p1)]) hx hb dX5_firstWay_74 hl (by decide) rfl (fun ls hl => ?_)
            refine lv_goto (tgt := 16) hx hb dX5_firstWay_76 (by decide) ?_
            exact ih_16 x49 v3_16 _ _ ls (by omega) (by omega) (by obtain ⟨k9, h1, h2⟩ := hq0; obtain ⟨k8, rfl⟩ : ∃ k8, k9 = k8 + 1 := ⟨k9 - 1, by omega⟩; exact ⟨k8, by omega, by rw [← h2, fw_go (r := v4_16.toInt.toNat) (v := v3_16.toInt) (v' := v3_16.toInt) (by omega) (by rw [if_neg (by unfold dp_N; omega)]), show x49.toInt.toNat = ((v4_16.toInt.toNat - 1) &&& (p1.toInt.toNat &&& (p1.toInt.toNat - 1))) by omega]⟩) hG hS (lv_sub hl [0, 2, 3, 4, 5] rfl)
          · skip
            refine lv_iload_n hx hb dX5_firstWay_53 rfl (lv_at hl 2 rfl) ?_
            refine lv_iload hx hb dX5_firstWay_54 (lv_at hl 0 rfl) ?_
            refine lv_aload_n hx hb dX5_firstWay_56 rfl (lv_at hl 4 rfl) ?_
            refine get_X5_5 hx hb hA hown hE hG t_h0 wd_1_112 dX5_firstWay_57 (fun b51 (t_b51 : ty Γ b51 27) => ?_)
            refine lv_iload hx hb dX5_firstWay_60 (lv_at hl 1 rfl) ?_
            refine ald_27 hx hb hE hG t_b51 (by omega) dX5_firstWay_62 (fun j53 x52 h54 h55 => ?_)
            obtain rfl : j53 = v4_16.toInt.toNat := by omega
            refine ty_iadd hx hb dX5_firstWay_63 (fun x56 h57 => ?_)
            try have h58 : x56.toInt = x22.toInt + x52.toInt := ty_add h57 (by omega) (by omega)
            refine va_mmin hx hb (hml.trans hl.1.symm) hown (hA _ wd_3_154) (hA _ wd_2_239) (hA _ wd_1_14) (hA _ wd_3_0) (Nat.le_of_ble_eq_true rfl) (Nat.le_of_ble_eq_true rfl) (Nat.zero_le _) (Nat.zero_le _) dX5_firstWay_64 ?_
            refine lv_topi (fun x59 h60 => ?_)
            have h60 : x59.toInt = if x56.toInt < v3_16.toInt then x56.toInt else v3_16.toInt := by rw [h60]; simp only [ty_lt32]; split <;> rfl
            refine lv_istore_n (lv' := [(3, .int x59), (5, .int x22), (4, .int v4_16), (2, .int x6), (0, .ref h0), (1, .int p1)]) hx hb dX5_firstWay_67 rfl hl (by decide) rfl (fun ls hl => ?_)
            refine lv_iload hx hb dX5_firstWay_68 (lv_at hl 2 rfl) ?_
            refine ty_iconst hx hb (1) dX5_firstWay_70 (by decide) (fun x61 h62 => ?_)
            refine ty_isub hx hb dX5_firstWay_71 (fun x63 h64 => ?_)
            try have h65 : x63.toInt = v4_16.toInt - x61.toInt := ty_sub h64 (by omega) (by omega)
            refine lv_iload_n hx hb dX5_firstWay_72 rfl (lv_at hl 3 rfl) ?_
            refine ty_iand hx hb dX5_firstWay_73 (fun x66 h67 => ?_)
            have han9 := and_n (a := v4_16.toInt.toNat - 1) (b := (p1.toInt.toNat &&& (p1.toInt.toNat - 1))) h67 (by omega) (by omega)
            have hal9 : (v4_16.toInt.toNat - 1) &&& (p1.toInt.toNat &&& (p1.toInt.toNat - 1)) ≤ v4_16.toInt.toNat - 1 := Nat.and_le_left
            refine lv_istore (lv' := [(4, .int x66), (3, .int x59), (5, .int x22), (2, .int x6), (0, .ref h0), (1, .int p1)]) hx hb dX5_firstWay_74 hl (by decide) rfl (fun ls hl => ?_)
            refine lv_goto (tgt := 16) hx hb dX5_firstWay_76 (by decide) ?_
            exact ih_16 x66 x59 _ _ ls (by omega) (by omega) (by obtain ⟨k9, h1, h2⟩ := hq0; obtain ⟨k8, rfl⟩ : ∃ k8, k9 = k8 + 1 := ⟨k9 - 1, by omega⟩; exact ⟨k8, by omega, by rw [← h2, fw_go (r := v4_16.toInt.toNat) (v := v3_16.toInt) (v' := x59.toInt) (by omega) (by rw [if_pos ⟨by unfold dp_N; omega, by unfold dp_N; omega⟩]; omega), show x66.toInt.toNat = ((v4_16.toInt.toNat - 1) &&& (p1.toInt.toNat &&& (p1.toInt.toNat - 1))) by omega]⟩) hG hS (lv_sub hl [0, 1, 3, 4, 5] rfl)
  exact L_16 ((x6.toInt) + 1).toNat x6 x9 _ _ ls (by omega) (by omega) (⟨512, by omega, by unfold dd_fw; rw [show x6.toInt.toNat = (p1.toInt.toNat &&& (p1.toInt.toNat - 1)) by omega, show x9.toInt = g 85 p1.toInt.toNat by omega]⟩) hG hS (lv_sub hl [0, 1, 2, 3, 4] rfl)

set_option maxHeartbeats 4000000 in
set_option maxRecDepth 100000 in
/-- WeekBank$RingSearch.sumWorth:  -/
theorem k_X5_sumWorth (l : Launch) (dC : Nat → ClassId) (dI : Nat → Nat → Nat) (dA : Nat → ClassId) (sz : Nat) (X : va_W) (Γ : ty_G) (hU : Un Γ) (g : gh) (h0 : Nat) (t_h0 : ty Γ h0 8) (p1 : Int32) (hs : 0 ≤ g 7 0 ∧ g 7 0 ≤ 9) (hM : ∀ j : Nat, (j : Int) < g 7 0 → 0 ≤ g 46 (0 + j)) (hf : 0 ≤ p1.toInt ∧ p1.toInt ≤ 511) (h64 : ∀ i : Nat, (i : Int) < g 7 0 → 0 ≤ g 64 (g 46 (0 + i)).toNat ∧ g 64 (g 46 (0 + i)).toNat ≤ 29997) : Met l yX5_sumWorth (.code yX5_sumWorth cX5_sumWorth 4 (Option.some Jvm.ClassFile.FieldType.int) :: AL) ({ frames := 1, cells := 0, slots := 0, locals := 21 }) (PCx dC dI dA sz X Γ g [.ref h0, .int p1]) (va_Qi (fun (r : Int32) (u : gh) => u = g ∧ ((0 ≤ r.toInt ∧ r.toInt ≤ 269973) ∧ (r.toInt = ms (fun i => (g 64) ((g 46) (0 + i)).toNat) p1.toInt.toNat (g 7 0).toNat))) (okb dC dI dA sz X Γ) (ty_A sz)) 0 0 (ty_A sz) := by
  refine Met.ofW (cc := cX5_sumWorth) (maxL := 4) (ret := (Option.some Jvm.ClassFile.FieldType.int)) (by decide) rfl ?_
  intro p e s m args below meth c s₁ B hml hv
  obtain ⟨rfl, hG, hE⟩ := hv
  have hx := B.exec
  have hb := B.bytes
  have hr := B.returns
  have hts := atoms_spec B.pre
  have hA : ∀ w ∈ AL, w.before _ s = true := fun w h => hts w (List.mem_cons_of_mem _ h)
  have hown : s.vm.findClass RX5 = some m.cls := findClass_of_methodNamed B.named
  have hlocks := B.notSynchronized
  have hS : va_S (ty_A sz) s.heap s.heap [] := va_S.rf
  have hl := lv_entry ([.ref h0, .int p1]) (n := 4) (Nat.le_of_ble_eq_true rfl)
  rw [lg_entry_eq]
  generalize (lg_sl ([.ref h0, .int p1]) ++ List.replicate (4 - (lg_sl ([.ref h0, .int p1])).length) Slot.unset).toArray = ls at hl ⊢
  have hl : lv_has ls 4 [(0, .ref h0), (1, .int p1)] := hl
  refine ty_iconst hx hb (0) dX5_sumWorth_0 (by decide) (fun x1 h2 => ?_)
  refine lv_istore_n (lv' := [(2, .int x1), (0, .ref h0), (1, .int p1)]) hx hb dX5_sumWorth_1 rfl hl (by decide) rfl (fun ls hl => ?_)
  refine ty_iconst hx hb (0) dX5_sumWorth_2 (by decide) (fun x3 h4 => ?_)
  refine lv_istore_n (lv' := [(3, .int x3), (2, .int x1), (0, .ref h0), (1, .int p1)]) hx hb dX5_sumWorth_3 rfl hl (by decide) rfl (fun ls hl => ?_)
  have L_4 : ∀ (n : Nat) (v3_4 : Int32) (v2_4 : Int32) (H : Heap) (locs : List Loc) (ls : Array Slot), (g 7 0 - v3_4.toInt : Int) < n → 0 ≤ v3_4.toInt ∧ v3_4.toInt ≤ g 7 0 → 0 ≤ v2_4.toInt ∧ v2_4.toInt ≤ 29997 * v3_4.toInt → (v2_4.toInt = ms (fun i => (g 64) ((g 46) (0 + i)).toNat) p1.toInt.toNat v3_4.toInt.toNat) → ty_ok (dC, dI) vwCl Γ (TP dA Γ g) sz X H → va_S (ty_A sz) s.heap H locs → lv_has ls 4 [(3, .int v3_4), (2, .int v2_4), (0, .ref h0), (1, .int p1)] → W p l e (headSpec (.code yX5_sumWorth cX5_sumWorth 4 (Option.some Jvm.ClassFile.FieldType.int) :: AL) ({ frames := 1, cells := 0, slots := 0, locals := 21 })).room s m ([.ref h0, .int p1] : List Value).toArray below meth c H locs 0 0 (MQ below (va_Qi (fun (r : Int32) (u : gh) => u = g ∧ ((0 ≤ r.toInt ∧ r.toInt ≤ 269973) ∧ (r.toInt = ms (fun i => (g 64) ((g 46) (0 + i)).toNat) p1.toInt.toNat (g 7 0).toNat))) (okb dC dI dA sz X Γ) (ty_A sz)) ([.ref h0, .int p1] : List Value).toArray s 0 0 (ty_A sz)) (F0 m 4 ls []) := by
    intro n
    induction n with
    | zero => intro v3_4 v2_4 H locs ls hm hi0 hi1 hq0 hG hS hl; exfalso; omega
    | succ n ih_4 =>
      intro v3_4 v2_4 H locs ls hm hi0 hi1 hq0 hG hS hl
      refine lv_iload_n hx hb dX5_sumWorth_4 rfl (lv_at hl 0 rfl) ?_
      refine lv_aload_n hx hb dX5_sumWorth_5 rfl (lv_at hl 2 rfl) ?_
      refine get_X5_1 hx hb hA hown hE hG t_h0 wd_1_108 dX5_sumWorth_6 (fun x6 h7 => ?_)
      refine ty_icmp_ge (tgt := 38) hx hb dX5_sumWorth_9 (by decide) (fun c9 => ?_) (fun c9 => ?_)
      · skip
        refine lv_iload_n hx hb dX5_sumWorth_38 rfl (lv_at hl 1 rfl) ?_
        exact W.iret (v := v2_4) hx hb hr (fun t ht hW => ⟨⟨v2_4, g, rfl, ⟨rfl, (⟨by omega, by rw [hq0, show v3_4.toInt.toNat = (g 7 0).toNat by omega]⟩)⟩, ok1 ht hG⟩, hS.F ht⟩) hS.2.2 dX5_sumWorth_39
      · skip
        refine lv_iload_n hx hb dX5_sumWorth_12 rfl (lv_at hl 3 rfl) ?_
        refine lv_iload_n hx hb dX5_sumWorth_13 rfl (lv_at hl 0 rfl) ?_
        refine cI (va_runS (As := [.int p1, .int v3_4]) (rest := []) ⟨hx, hb, hml, hown, hA⟩ (k_X5_has l dC dI dA sz X Γ hU g p1 v3_4   (by omega)) ⟨callB_of 2 hA (al_A wd_3_151) rfl rfl rfl (hA _ wd_1_5) (hA _ wd_3_149) (by decide +kernel) ⟨Nat.le_of_ble_eq_true rfl, Nat.le_of_ble_eq_true rfl⟩, hA _ wd_3_150⟩ ⟨bl, fun U hU9 hW9 => ⟨rfl, by rw [hU9]; exact hG, hE.go hS hU9 hW9⟩⟩ rfl rfl hl.1 rfl (lv_room (Nat.le_of_ble_eq_true rfl)) dX5_sumWorth_14 ⟨Nat.zero_le _, Nat.zero_le _⟩) hS (fun x12 u10 H locs w11 hG hS => ?_)
        obtain ⟨eu13, w11⟩ := w11
        rw [eu13] at hG
        have htz9 := tbz_01 p1.toInt v3_4.toInt
        refine ty_if_eq (tgt := 32) hx hb dX5_sumWorth_17 (by decide) (fun c14 => ?_) (fun c14 => ?_)
        · skip
          obtain ⟨x15, h16⟩ : ∃ y : Int32, y = v3_4 + Int32.ofInt (1) := ⟨_, rfl⟩
          try have h17 : x15.toInt = v3_4.toInt + (1) := ty_inc h16 (by decide) (by omega) (by omega)
          refine lv_iinc (v := x15) (lv' := [(3, .int x15), (2, .int v2_4), (0, .ref h0), (1, .int p1)]) hx hb dX5_sumWorth_32 hl (k := 0) rfl h16.symm (by decide) rfl (fun ls hl => ?_)
          refine lv_goto (tgt := 4) hx hb dX5_sumWorth_35 (by decide) ?_
          exact ih_4 x15 v2_4 _ _ ls (by omega) (by omega) (by omega) (by rw [show x15.toInt.toNat = v3_4.toInt.toNat + 1 by omega]; show _ = ms (fun i => (g 64) ((g 46) (0 + i)).toNat) p1.toInt.toNat v3_4.toInt.toNat + (if p1.toInt.toNat.testBit v3_4.toInt.toNat = true then (g 64) ((g 46) (0 + v3_4.toInt.toNat)).toNat else 0); rw [if_neg (by rw [hs0_ (i := v3_4.toInt) (show tbz p1.toInt v3_4.toInt = 0 by omega) rfl]; decide)]; omega) hG hS (lv_sub hl [0, 1, 2, 3] rfl)
        · skip
          refine lv_iload_n hx hb dX5_sumWorth_20 rfl (lv_at hl 1 rfl) ?_
          refine lv_aload_n hx hb dX5_sumWorth_21 rfl (lv_at hl 2 rfl) ?_
          refine get_X5_0 hx hb hA hown hE hG t_h0 wd_1_107 dX5_sumWorth_22 (fun b18 (t_b18 : ty Γ b18 19) => ?_)
          refine lv_iload_n hx hb dX5_sumWorth_25 rfl (lv_at hl 0 rfl) ?_
          refine ald_19 hx hb hE hG t_b18 (by omega) dX5_sumWorth_26 (fun j20 r19 h21 n_r19 t_r19 => ?_)
          obtain rfl : j20 = v3_4.toInt.toNat := by omega
          clear h21
          have hm23 := hM v3_4.toInt.toNat (by omega)
          have hw9 := h64 v3_4.toInt.toNat (by omega)
          obtain ⟨b24, h25⟩ := Option.ne_none_iff_exists'.mp (fun h9 => absurd (n_r19 h9) (by omega))
          obtain ⟨t_b24, p_b24⟩ := t_r19 b24 h25
          clear t_r19 n_r19
          subst h25
          have hl : lv_has ls 4 [(3, .int v3_4), (2, .int v2_4), (0, .ref h0), (1, .int p1)] := hl
          refine get_X2_5 hx hb hA hown hE hG t_b24 wd_3_31 dX5_sumWorth_27 (fun x26 h27 => ?_)
          refine ty_iadd hx hb dX5_sumWorth_30 (fun x29 h30 => ?_)
          try have h31 : x29.toInt = v2_4.toInt + x26.toInt := ty_add h30 (by omega) (by omega)
          refine lv_istore_n (lv' := [(2, .int x29), (3, .int v3_4), (0, .ref h0), (1, .int p1)]) hx hb dX5_sumWorth_31 rfl hl (by decide) rfl (fun ls hl => ?_)
          obtain ⟨x32, h33⟩ : ∃ y : Int32, y = v3_4 + Int32.ofInt (1) := ⟨_, rfl⟩
          try have h34 : x32.toInt = v3_4.toInt + (1) := ty_inc h33 (by decide) (by omega) (by omega)
          refine lv_iinc (v := x32) (lv' := [(3, .int x32), (2, .int x29), (0, .ref h0), (1, .int p1)]) hx hb dX5_sumWorth_32 hl (k := 1) rfl h33.symm (by decide) rfl (fun ls hl => ?_)
          refine lv_goto (tgt := 4) hx hb dX5_sumWorth_35 (by decide) ?_
          exact ih_4 x32 x29 _ _ ls (by omega) (by omega) (by omega) (by rw [show x32.toInt.toNat = v3_4.toInt.toNat + 1 by omega]; show _ = ms (fun i => (g 64) ((g 46) (0 + i)).toNat) p1.toInt.toNat v3_4.toInt.toNat + (if p1.toInt.toNat.testBit v3_4.toInt.toNat = true then (g 64) ((g 46) (0 + v3_4.toInt.toNat)).toNat else 0); rw [if_pos (hs1_ (i := v3_4.toInt) (show tbz p1.toInt v3_4.toInt ≠ 0 by omega) rfl)]; omega) hG hS (lv_sub hl [0, 1, 2, 3] rfl)
  exact L_4 ((g 7 0 - x3.toInt) + 1).toNat x3 x1 _ _ ls (by omega) (by omega) (by omega) (by rw [show x3.toInt.toNat = 0 by omega]; show _ = (0 : Int); omega) hG hS (lv_sub hl [0, 1, 2, 3] rfl)

set_option maxHeartbeats 4000000 in
set_option maxRecDepth 100000 in
/-- WeekBank$RingSearch.wholeWay:  -/
theorem k_X5_wholeWay (l : Launch) (dC : Nat → ClassId) (dI : Nat → Nat → Nat) (dA : Nat → ClassId) (sz : Nat) (X : va_W) (Γ : ty_G) (hU : Un Γ) (g : gh) (h0 : Nat) (t_h0 : ty Γ h0 8) (p1 : Int32) (hs : 0 ≤ g 7 0 ∧ g 7 0 ≤ 9) (hf : 0 ≤ p1.toInt ∧ p1.toInt ≤ 511) (h86 : 0 ≤ g 86 p1.toInt.toNat ∧ g 86 p1.toInt.toNat ≤ 888888888) : Met l yX5_wholeWay (.code yX5_wholeWay cX5_wholeWay 4 (Option.some Jvm.ClassFile.FieldType.int) :: AL) ({ frames := 1, cells := 0, slots := 0, locals := 21 }) (PCx dC dI dA sz X Γ g [.ref h0, .int p1]) (va_Qi (fun (r : Int32) (u : gh) => u = g ∧ ((r.toInt = g 86 p1.toInt.toNat + hc_f p1.toInt.toNat (g 7 0).toNat))) (okb dC dI dA sz X Γ) (ty_A sz)) 0 0 (ty_A sz) := by
  refine Met.ofW (cc := cX5_wholeWay) (maxL := 4) (ret := (Option.some Jvm.ClassFile.FieldType.int)) (by decide) rfl ?_
  intro p e s m args below meth c s₁ B hml hv
  obtain ⟨rfl, hG, hE⟩ := hv
  have hx := B.exec
  have hb := B.bytes
  have hr := B.returns
  have hts := atoms_spec B.pre
  have hA : ∀ w ∈ AL, w.before _ s = true := fun w h => hts w (List.mem_cons_of_mem _ h)
  have hown : s.vm.findClass RX5 = some m.cls := findClass_of_methodNamed B.named
  have hlocks := B.notSynchronized
  have hS : va_S (ty_A sz) s.heap s.heap [] := va_S.rf
  have hES := hE.2.1.2.2.2.2.2.2
  have hl := lv_entry ([.ref h0, .int p1]) (n := 4) (Nat.le_of_ble_eq_true rfl)
  rw [lg_entry_eq]
  generalize (lg_sl ([.ref h0, .int p1]) ++ List.replicate (4 - (lg_sl ([.ref h0, .int p1])).length) Slot.unset).toArray = ls at hl ⊢
  have hl : lv_has ls 4 [(0, .ref h0), (1, .int p1)] := hl
  refine lv_aload_n hx hb dX5_wholeWay_0 rfl (lv_at hl 0 rfl) ?_
  refine get_X5_5 hx hb hA hown hE hG t_h0 wd_1_112 dX5_wholeWay_1 (fun b1 (t_b1 : ty Γ b1 27) => ?_)
  refine lv_iload_n hx hb dX5_wholeWay_4 rfl (lv_at hl 1 rfl) ?_
  refine ald_27 hx hb hE hG t_b1 (by omega) dX5_wholeWay_5 (fun j3 x2 h4 h5 => ?_)
  obtain rfl : j3 = p1.toInt.toNat := by omega
  refine lv_istore_n (lv' := [(2, .int x2), (0, .ref h0), (1, .int p1)]) hx hb dX5_wholeWay_6 rfl hl (by decide) rfl (fun ls hl => ?_)
  refine ty_iconst hx hb (0) dX5_wholeWay_7 (by decide) (fun x6 h7 => ?_)
  refine lv_istore_n (lv' := [(3, .int x6), (2, .int x2), (0, .ref h0), (1, .int p1)]) hx hb dX5_wholeWay_8 rfl hl (by decide) rfl (fun ls hl => ?_)
  have L_9 : ∀ (n : Nat) (v3_9 : Int32) (v2_9 : Int32) (H : Heap) (locs : List Loc) (ls : Array Slot), (g 7 0 - v3_9.toInt : Int) < n → 0 ≤ v3_9.toInt ∧ v3_9.toInt ≤ g 7 0 → (v2_9.toInt = g 86 p1.toInt.toNat + hc_f p1.toInt.toNat v3_9.toInt.toNat) → ty_ok (dC, dI) vwCl Γ (TP dA Γ g) sz X H → va_S (ty_A sz) s.heap H locs → lv_has ls 4 [(3, .int v3_9), (2, .int v2_9), (0, .ref h0), (1, .int p1)] → W p l e (headSpec (.code yX5_wholeWay cX5_wholeWay 4 (Option.some Jvm.ClassFile.FieldType.int) :: AL) ({ frames := 1, cells := 0, slots := 0, locals := 21 })).room s m ([.ref h0, .int p1] : List Value).toArray below meth c H locs 0 0 (MQ below (va_Qi (fun (r : Int32) (u : gh) => u = g ∧ ((r.toInt = g 86 p1.toInt.toNat + hc_f p1.toInt.toNat (g 7 0).toNat))) (okb dC dI dA sz X Γ) (ty_A sz)) ([.ref h0, .int p1] : List Value).toArray s 0 0 (ty_A sz)) (F0 m 9 ls []) := by
    intro n
    induction n with
    | zero => intro v3_9 v2_9 H locs ls hm hi0 hq0 hG hS hl; exfalso; omega
    | succ n ih_9 =>
      intro v3_9 v2_9 H locs ls hm hi0 hq0 hG hS hl
      refine lv_iload_n hx hb dX5_wholeWay_9 rfl (lv_at hl 0 rfl) ?_
      refine lv_aload_n hx hb dX5_wholeWay_10 rfl (lv_at hl 2 rfl) ?_
      refine get_X5_1 hx hb hA hown hE hG t_h0 wd_1_108 dX5_wholeWay_11 (fun x9 h10 => ?_)
      refine ty_icmp_ge (tgt := 42) hx hb dX5_wholeWay_14 (by decide) (fun c12 => ?_) (fun c12 => ?_)
      · skip
        refine lv_iload_n hx hb dX5_wholeWay_42 rfl (lv_at hl 1 rfl) ?_
        exact W.iret (v := v2_9) hx hb hr (fun t ht hW => ⟨⟨v2_9, g, rfl, ⟨rfl, (by rw [hq0, show v3_9.toInt.toNat = (g 7 0).toNat by omega])⟩, ok1 ht hG⟩, hS.F ht⟩) hS.2.2 dX5_wholeWay_43
      · skip
        refine lv_iload_n hx hb dX5_wholeWay_17 rfl (lv_at hl 3 rfl) ?_
        refine lv_iload_n hx hb dX5_wholeWay_18 rfl (lv_at hl 0 rfl) ?_
        refine cI (va_runS (As := [.int p1, .int v3_9]) (rest := []) ⟨hx, hb, hml, hown, hA⟩ (k_X5_has l dC dI dA sz X Γ hU g p1 v3_9   (by omega)) ⟨callB_of 2 hA (al_A wd_3_151) rfl rfl rfl (hA _ wd_1_5) (hA _ wd_3_149) (by decide +kernel) ⟨Nat.le_of_ble_eq_true rfl, Nat.le_of_ble_eq_true rfl⟩, hA _ wd_3_150⟩ ⟨bl, fun U hU9 hW9 => ⟨rfl, by rw [hU9]; exact hG, hE.go hS hU9 hW9⟩⟩ rfl rfl hl.1 rfl (lv_room (Nat.le_of_ble_eq_true rfl)) dX5_wholeWay_19 ⟨Nat.zero_le _, Nat.zero_le _⟩) hS (fun x15 u13 H locs w14 hG hS => ?_)
        obtain ⟨eu16, w14⟩ := w14
        rw [eu16] at hG
        have htz9 := tbz_01 p1.toInt v3_9.toInt
        refine ty_if_ne (tgt := 36) hx hb dX5_wholeWay_22 (by decide) (fun c17 => ?_) (fun c17 => ?_)
        · skip
          obtain ⟨x18, h19⟩ : ∃ y : Int32, y = v3_9 + Int32.ofInt (1) := ⟨_, rfl⟩
          try have h20 : x18.toInt = v3_9.toInt + (1) := ty_inc h19 (by decide) (by omega) (by omega)
          refine lv_iinc (v := x18) (lv' := [(3, .int x18), (2, .int v2_9), (0, .ref h0), (1, .int p1)]) hx hb dX5_wholeWay_36 hl (k := 0) rfl h19.symm (by decide) rfl (fun ls hl => ?_)
          refine lv_goto (tgt := 9) hx hb dX5_wholeWay_39 (by decide) ?_
          exact ih_9 x18 v2_9 _ _ ls (by omega) (by omega) (by rw [show x18.toInt.toNat = v3_9.toInt.toNat + 1 by omega]; show _ = g 86 p1.toInt.toNat + (hc_f p1.toInt.toNat v3_9.toInt.toNat + (if _ then _ else _)); rw [if_pos (hs1_ (i := v3_9.toInt) (show tbz p1.toInt v3_9.toInt ≠ 0 by omega) rfl)]; omega) hG hS (lv_sub hl [0, 1, 2, 3] rfl)
        · skip
          have hhs9 : hc_f p1.toInt.toNat (v3_9.toInt.toNat + 1) = hc_f p1.toInt.toNat v3_9.toInt.toNat + 9 * dp_D v3_9.toInt.toNat := by show hc_f p1.toInt.toNat v3_9.toInt.toNat + (if _ then _ else _) = _; rw [if_neg (by rw [hs0_ (i := v3_9.toInt) (show tbz p1.toInt v3_9.toInt = 0 by omega) rfl]; decide)]
          have hhc9 := hc_le p1.toInt.toNat v3_9.toInt.toNat (by omega)
          have hhc8 := hc_le p1.toInt.toNat (v3_9.toInt.toNat + 1) (by omega)
          refine lv_iload_n hx hb dX5_wholeWay_25 rfl (lv_at hl 1 rfl) ?_
          refine ty_bipush hx hb (9) dX5_wholeWay_26 (by decide) (fun x21 h22 => ?_)
          refine va_gets hx hb hES.2.2.2.1 hS hown (hA _ wd_3_152) (fun _ h => h) dX5_wholeWay_28 ?_
          refine lv_iload_n hx hb dX5_wholeWay_31 rfl (lv_at hl 0 rfl) ?_
          refine va_ti hx hb hES.2.2.2.2 hS (i := v3_9) (ty_ix (by omega)) rfl dX5_wholeWay_32 ?_
          refine lv_topi (fun x23 h24 => ?_)
          replace h24 : x23.toInt = dp_D v3_9.toInt.toNat := dW_ix h24 (by omega)
          refine ty_imul hx hb dX5_wholeWay_33 (fun x25 h26 => ?_)
          have h27 := mulD h26 h24 (by omega)
          have h28 := mulDr x21.toInt v3_9.toInt.toNat (by omega)
          rw [show x21.toInt = 9 by omega] at h27 h28
          refine ty_iadd hx hb dX5_wholeWay_34 (fun x29 h30 => ?_)
          try have h31 : x29.toInt = v2_9.toInt + x25.toInt := ty_add h30 (by omega) (by omega)
          refine lv_istore_n (lv' := [(2, .int x29), (3, .int v3_9), (0, .ref h0), (1, .int p1)]) hx hb dX5_wholeWay_35 rfl hl (by decide) rfl (fun ls hl => ?_)
          obtain ⟨x32, h33⟩ : ∃ y : Int32, y = v3_9 + Int32.ofInt (1) := ⟨_, rfl⟩
          try have h34 : x32.toInt = v3_9.toInt + (1) := ty_inc h33 (by decide) (by omega) (by omega)
          refine lv_iinc (v := x32) (lv' := [(3, .int x32), (2, .int x29), (0, .ref h0), (1, .int p1)]) hx hb dX5_wholeWay_36 hl (k := 1) rfl h33.symm (by decide) rfl (fun ls hl => ?_)
          refine lv_goto (tgt := 9) hx hb dX5_wholeWay_39 (by decide) ?_
          exact ih_9 x32 x29 _ _ ls (by omega) (by omega) (by rw [show x32.toInt.toNat = v3_9.toInt.toNat + 1 by omega]; show _ = g 86 p1.toInt.toNat + (hc_f p1.toInt.toNat v3_9.toInt.toNat + (if _ then _ else _)); rw [if_neg (by rw [hs0_ (i := v3_9.toInt) (show tbz p1.toInt v3_9.toInt = 0 by omega) rfl]; decide)]; omega) hG hS (lv_sub hl [0, 1, 2, 3] rfl)
  exact L_9 ((g 7 0 - x6.toInt) + 1).toNat x6 x2 _ _ ls (by omega) (by omega) (by rw [show x6.toInt.toNat = 0 by omega]; show _ = g 86 p1.toInt.toNat + (0 : Int); omega) hG hS (lv_sub hl [0, 1, 2, 3] rfl)

set_option maxHeartbeats 4000000 in
set_option maxRecDepth 100000 in
/-- WeekBank$RingSearch.isBetter:  -/
theorem k_X5_isBetter (l : Launch) (dC : Nat → ClassId) (dI : Nat → Nat → Nat) (dA : Nat → ClassId) (sz : Nat) (X : va_W) (Γ : ty_G) (hU : Un Γ) (g : gh) (h0 : Nat) (t_h0 : ty Γ h0 8) (p1 : Int32) (hs : 0 ≤ g 7 0 ∧ g 7 0 ≤ 9) (hM : ∀ j : Nat, (j : Int) < g 7 0 → 0 ≤ g 46 (0 + j)) (hf : 0 ≤ p1.toInt ∧ p1.toInt ≤ 511) (h64 : ∀ i : Nat, (i : Int) < g 7 0 → 0 ≤ g 64 (g 46 (0 + i)).toNat ∧ g 64 (g 46 (0 + i)).toNat ≤ 29997) (h86 : 0 ≤ g 86 p1.toInt.toNat ∧ g 86 p1.toInt.toNat ≤ 888888888) (hb8 : 0 ≤ g 8 0 ∧ g 8 0 ≤ 511) (hb86 : 0 ≤ g 86 (g 8 0).toNat ∧ g 86 (g 8 0).toNat ≤ 888888888) : Met l yX5_isBetter (.code yX5_isBetter cX5_isBetter 4 (Option.some Jvm.ClassFile.FieldType.boolean) :: AL) ({ frames := 2, cells := 0, slots := 0, locals := 44 }) (PCx dC dI dA sz X Γ g [.ref h0, .int p1]) (va_Qi (fun (r : Int32) (u : gh) => u = g ∧ ((r.toInt = (if bt_b (g 86) (fun i => (g 64) ((g 46) (0 + i)).toNat) (g 7 0).toNat p1.toInt.toNat (g 8 0).toNat = true then 1 else 0)))) (okb dC dI dA sz X Γ) (ty_A sz)) 0 0 (ty_A sz) := by
  refine Met.ofW (cc := cX5_isBetter) (maxL := 4) (ret := (Option.some Jvm.ClassFile.FieldType.boolean)) (by decide) rfl ?_
  intro p e s m args below meth c s₁ B hml hv
  obtain ⟨rfl, hG, hE⟩ := hv
  have hx := B.exec
  have hb := B.bytes
  have hr := B.returns
  have hts := atoms_spec B.pre
  have hA : ∀ w ∈ AL, w.before _ s = true := fun w h => hts w (List.mem_cons_of_mem _ h)
  have hown : s.vm.findClass RX5 = some m.cls := findClass_of_methodNamed B.named
  have hlocks := B.notSynchronized
  have hS : va_S (ty_A sz) s.heap s.heap [] := va_S.rf
  have hl := lv_entry ([.ref h0, .int p1]) (n := 4) (Nat.le_of_ble_eq_true rfl)
  rw [lg_entry_eq]
  generalize (lg_sl ([.ref h0, .int p1]) ++ List.replicate (4 - (lg_sl ([.ref h0, .int p1])).length) Slot.unset).toArray = ls at hl ⊢
  have hl : lv_has ls 4 [(0, .ref h0), (1, .int p1)] := hl
  refine lv_iload_n hx hb dX5_isBetter_0 rfl (lv_at hl 1 rfl) ?_
  refine cI (va_runS (As := [.int p1]) (rest := []) ⟨hx, hb, hml, hown, hA⟩ (k_bitCount l dC dI dA sz X Γ hU g p1   (by omega)) ⟨callB_of 1 hA (al_A wd_3_145) rfl rfl rfl (hA _ wd_1_17) (hA _ wd_3_143) (by decide +kernel) ⟨Nat.le_of_ble_eq_true rfl, Nat.le_of_ble_eq_true rfl⟩, hA _ wd_3_144⟩ ⟨bl, fun U hU9 hW9 => ⟨rfl, by rw [hU9]; exact hG, hE.go hS hU9 hW9⟩⟩ rfl rfl hl.1 rfl (lv_room (Nat.le_of_ble_eq_true rfl)) dX5_isBetter_1 ⟨Nat.zero_le _, Nat.zero_le _⟩) hS (fun x3 u1 H locs w2 hG hS => ?_)
  obtain ⟨eu4, w2⟩ := w2
  rw [eu4] at hG
  have hbr9 := bcz_rg p1.toInt.toNat (by omega)
  refine lv_aload_n hx hb dX5_isBetter_4 rfl (lv_at hl 0 rfl) ?_
  refine get_X5_6 hx hb hA hown hE hG t_h0 wd_1_113 dX5_isBetter_5 (fun x5 h6 => ?_)
  refine cI (va_runS (As := [.int x5]) (rest := [.int x3]) ⟨hx, hb, hml, hown, hA⟩ (k_bitCount l dC dI dA sz X Γ hU g x5   (by omega)) ⟨callB_of 1 hA (al_A wd_3_145) rfl rfl rfl (hA _ wd_1_17) (hA _ wd_3_143) (by decide +kernel) ⟨Nat.le_of_ble_eq_true rfl, Nat.le_of_ble_eq_true rfl⟩, hA _ wd_3_144⟩ ⟨bl, fun U hU9 hW9 => ⟨rfl, by rw [hU9]; exact hG, hE.go hS hU9 hW9⟩⟩ rfl rfl hl.1 rfl (lv_room (Nat.le_of_ble_eq_true rfl)) dX5_isBetter_8 ⟨Nat.zero_le _, Nat.zero_le _⟩) hS (fun x10 u8 H locs w9 hG hS => ?_)
  obtain ⟨eu11, w9⟩ := w9
  rw [eu11] at hG
  have hbr9 := bcz_rg x5.toInt.toNat (by omega)
  rw [show x5.toInt.toNat = (g 8 0).toNat by omega] at w9 hbr9
  refine ty_isub hx hb dX5_isBetter_11 (fun x12 h13 => ?_)
  try have h14 : x12.toInt = x3.toInt - x10.toInt := ty_sub h13 (by omega) (by omega)
  refine lv_istore_n (lv' := [(2, .int x12), (0, .ref h0), (1, .int p1)]) hx hb dX5_isBetter_12 rfl hl (by decide) rfl (fun ls hl => ?_)
  refine lv_iload_n hx hb dX5_isBetter_13 rfl (lv_at hl 0 rfl) ?_
  refine ty_if_eq (tgt := 27) hx hb dX5_isBetter_14 (by decide) (fun c15 => ?_) (fun c15 => ?_)
  · skip
    refine lv_aload_n hx hb dX5_isBetter_27 rfl (lv_at hl 1 rfl) ?_
    refine lv_iload_n hx hb dX5_isBetter_28 rfl (lv_at hl 2 rfl) ?_
    refine cI (va_runV (C := RX5) (As := [.int p1]) (rest := []) ⟨hx, hb, hml, hown, hA⟩ (k_X5_sumWorth l dC dI dA sz X Γ hU g h0 t_h0 p1   (by omega) (hM) (by omega) (h64)) ⟨callB_of 1 hA (al_A wd_3_170) rfl rfl rfl (hA _ wd_1_5) (hA _ wd_3_167) (by decide +kernel) ⟨Nat.le_of_ble_eq_true rfl, Nat.le_of_ble_eq_true rfl⟩, hA _ wd_3_169, hA _ ws_25⟩ ⟨bl, recv_X5 hE hG t_h0, fun U hU9 hW9 => ⟨rfl, by rw [hU9]; exact hG, hE.go hS hU9 hW9⟩⟩ rfl rfl hl.1 rfl (lv_room (Nat.le_of_ble_eq_true rfl)) dX5_isBetter_29 ⟨Nat.zero_le _, Nat.zero_le _⟩) hS (fun x18 u16 H locs w17 hG hS => ?_)
    obtain ⟨eu19, w17⟩ := w17
    rw [eu19] at hG
    refine lv_aload_n hx hb dX5_isBetter_32 rfl (lv_at hl 1 rfl) ?_
    refine lv_aload_n hx hb dX5_isBetter_33 rfl (lv_at hl 1 rfl) ?_
    refine get_X5_6 hx hb hA hown hE hG t_h0 wd_1_113 dX5_isBetter_34 (fun x20 h21 => ?_)
    refine cI (va_runV (C := RX5) (As := [.int x20]) (rest := [.int x18]) ⟨hx, hb, hml, hown, hA⟩ (k_X5_sumWorth l dC dI dA sz X Γ hU g h0 t_h0 x20   (by omega) (hM) (by omega) (h64)) ⟨callB_of 1 hA (al_A wd_3_170) rfl rfl rfl (hA _ wd_1_5) (hA _ wd_3_167) (by decide +kernel) ⟨Nat.le_of_ble_eq_true rfl, Nat.le_of_ble_eq_true rfl⟩, hA _ wd_3_169, hA _ ws_25⟩ ⟨bl, recv_X5 hE hG t_h0, fun U hU9 hW9 => ⟨rfl, by rw [hU9]; exact hG, hE.go hS hU9 hW9⟩⟩ rfl rfl hl.1 rfl (lv_room (Nat.le_of_ble_eq_true rfl)) dX5_isBetter_37 ⟨Nat.zero_le _, Nat.zero_le _⟩) hS (fun x25 u23 H locs w24 hG hS => ?_)
    obtain ⟨eu26, w24⟩ := w24
    rw [eu26] at hG
    rw [show x20.toInt.toNat = (g 8 0).toNat by omega] at w24
    refine ty_isub hx hb dX5_isBetter_40 (fun x27 h28 => ?_)
    try have h29 : x27.toInt = x18.toInt - x25.toInt := ty_sub h28 (by omega) (by omega)
    refine lv_istore_n (lv' := [(3, .int x27), (2, .int x12), (0, .ref h0), (1, .int p1)]) hx hb dX5_isBetter_41 rfl hl (by decide) rfl (fun ls hl => ?_)
    refine lv_iload_n hx hb dX5_isBetter_42 rfl (lv_at hl 0 rfl) ?_
    refine ty_if_eq (tgt := 56) hx hb dX5_isBetter_43 (by decide) (fun c30 => ?_) (fun c30 => ?_)
    · skip
      refine lv_aload_n hx hb dX5_isBetter_56 rfl (lv_at hl 2 rfl) ?_
      refine lv_iload_n hx hb dX5_isBetter_57 rfl (lv_at hl 3 rfl) ?_
      refine cI (va_runV (C := RX5) (As := [.int p1]) (rest := []) ⟨hx, hb, hml, hown, hA⟩ (k_X5_wholeWay l dC dI dA sz X Γ hU g h0 t_h0 p1   (by omega) (by omega) (by omega)) ⟨callB_of 1 hA (al_A wd_3_174) rfl rfl rfl (hA _ wd_1_5) (hA _ wd_3_171) (by decide +kernel) ⟨Nat.le_of_ble_eq_true rfl, Nat.le_of_ble_eq_true rfl⟩, hA _ wd_3_173, hA _ ws_26⟩ ⟨bl, recv_X5 hE hG t_h0, fun U hU9 hW9 => ⟨rfl, by rw [hU9]; exact hG, hE.go hS hU9 hW9⟩⟩ rfl rfl hl.1 rfl (lv_room (Nat.le_of_ble_eq_true rfl)) dX5_isBetter_58 ⟨Nat.zero_le _, Nat.zero_le _⟩) hS (fun x33 u31 H locs w32 hG hS => ?_)
      obtain ⟨eu34, w32⟩ := w32
      rw [eu34] at hG
      refine lv_aload_n hx hb dX5_isBetter_61 rfl (lv_at hl 2 rfl) ?_
      refine lv_aload_n hx hb dX5_isBetter_62 rfl (lv_at hl 2 rfl) ?_
      refine get_X5_6 hx hb hA hown hE hG t_h0 wd_1_113 dX5_isBetter_63 (fun x35 h36 => ?_)
      refine cI (va_runV (C := RX5) (As := [.int x35]) (rest := [.int x33]) ⟨hx, hb, hml, hown, hA⟩ (k_X5_wholeWay l dC dI dA sz X Γ hU g h0 t_h0 x35   (by omega) (by omega) (by rw [show x35.toInt.toNat = (g 8 0).toNat by omega]; exact hb86)) ⟨callB_of 1 hA (al_A wd_3_174) rfl rfl rfl (hA _ wd_1_5) (hA _ wd_3_171) (by decide +kernel) ⟨Nat.le_of_ble_eq_true rfl, Nat.le_of_ble_eq_true rfl⟩, hA _ wd_3_173, hA _ ws_26⟩ ⟨bl, recv_X5 hE hG t_h0, fun U hU9 hW9 => ⟨rfl, by rw [hU9]; exact hG, hE.go hS hU9 hW9⟩⟩ rfl rfl hl.1 rfl (lv_room (Nat.le_of_ble_eq_true rfl)) dX5_isBetter_66 ⟨Nat.zero_le _, Nat.zero_le _⟩) hS (fun x40 u38 H locs w39 hG hS => ?_)
      obtain ⟨eu41, w39⟩ := w39
      rw [eu41] at hG
      rw [show x35.toInt.toNat = (g 8 0).toNat by omega] at w39
      refine ty_icmp_ge (tgt := 76) hx hb dX5_isBetter_69 (by decide) (fun c42 => ?_) (fun c42 => ?_)
      · skip
        refine ty_iconst hx hb (0) dX5_isBetter_76 (by decide) (fun x43 h44 => ?_)
        exact W.zret (v := x43) hx hb hr (ty_nb (by omega)).1 (fun t ht hW => ⟨⟨x43, g, rfl, ⟨rfl, (by rw [if_neg (show ¬ bt_b (g 86) (fun i => (g 64) ((g 46) (0 + i)).toNat) (g 7 0).toNat p1.toInt.toNat (g 8 0).toNat = true from fun q => absurd (of_decide_eq_true (p := bcz (g 8 0).toNat < bcz p1.toInt.toNat ∨ (bcz (g 8 0).toNat = bcz p1.toInt.toNat ∧ (ms (fun i => (g 64) ((g 46) (0 + i)).toNat)  (g 8 0).toNat (g 7 0).toNat < ms (fun i => (g 64) ((g 46) (0 + i)).toNat)  p1.toInt.toNat (g 7 0).toNat ∨ (ms (fun i => (g 64) ((g 46) (0 + i)).toNat)  (g 8 0).toNat (g 7 0).toNat = ms (fun i => (g 64) ((g 46) (0 + i)).toNat)  p1.toInt.toNat (g 7 0).toNat ∧ g 86 p1.toInt.toNat + hc_f p1.toInt.toNat (g 7 0).toNat < g 86 (g 8 0).toNat + hc_f (g 8 0).toNat (g 7 0).toNat)))) q) (by omega))]; omega)⟩, ok1 ht hG⟩, hS.F ht⟩) hS.2.2 dX5_isBetter_77
      · skip
        refine ty_iconst hx hb (1) dX5_isBetter_72 (by decide) (fun x45 h46 => ?_)
        refine lv_goto (tgt := 77) hx hb dX5_isBetter_73 (by decide) ?_
        exact W.zret (v := x45) hx hb hr (ty_nb (by omega)).1 (fun t ht hW => ⟨⟨x45, g, rfl, ⟨rfl, (by rw [if_pos (show bt_b (g 86) (fun i => (g 64) ((g 46) (0 + i)).toNat) (g 7 0).toNat p1.toInt.toNat (g 8 0).toNat = true from decide_eq_true (show bcz (g 8 0).toNat < bcz p1.toInt.toNat ∨ (bcz (g 8 0).toNat = bcz p1.toInt.toNat ∧ (ms (fun i => (g 64) ((g 46) (0 + i)).toNat)  (g 8 0).toNat (g 7 0).toNat < ms (fun i => (g 64) ((g 46) (0 + i)).toNat)  p1.toInt.toNat (g 7 0).toNat ∨ (ms (fun i => (g 64) ((g 46) (0 + i)).toNat)  (g 8 0).toNat (g 7 0).toNat = ms (fun i => (g 64) ((g 46) (0 + i)).toNat)  p1.toInt.toNat (g 7 0).toNat ∧ g 86 p1.toInt.toNat + hc_f p1.toInt.toNat (g 7 0).toNat < g 86 (g 8 0).toNat + hc_f (g 8 0).toNat (g 7 0).toNat))) by omega))]; omega)⟩, ok1 ht hG⟩, hS.F ht⟩) hS.2.2 dX5_isBetter_77
    · skip
      refine lv_iload_n hx hb dX5_isBetter_46 rfl (lv_at hl 0 rfl) ?_
      refine ty_if_le (tgt := 54) hx hb dX5_isBetter_47 (by decide) (fun c47 => ?_) (fun c47 => ?_)
      · skip
        refine ty_iconst hx hb (0) dX5_isBetter_54 (by decide) (fun x48 h49 => ?_)
        exact W.zret (v := x48) hx hb hr (ty_nb (by omega)).1 (fun t ht hW => ⟨⟨x48, g, rfl, ⟨rfl, (by rw [if_neg (show ¬ bt_b (g 86) (fun i => (g 64) ((g 46) (0 + i)).toNat) (g 7 0).toNat p1.toInt.toNat (g 8 0).toNat = true from fun q => absurd (of_decide_eq_true (p := bcz (g 8 0).toNat < bcz p1.toInt.toNat ∨ (bcz (g 8 0).toNat = bcz p1.toInt.toNat ∧ (ms (fun i => (g 64) ((g 46) (0 + i)).toNat)  (g 8 0).toNat (g 7 0).toNat < ms (fun i => (g 64) ((g 46) (0 + i)).toNat)  p1.toInt.toNat (g 7 0).toNat ∨ (ms (fun i => (g 64) ((g 46) (0 + i)).toNat)  (g 8 0).toNat (g 7 0).toNat = ms (fun i => (g 64) ((g 46) (0 + i)).toNat)  p1.toInt.toNat (g 7 0).toNat ∧ g 86 p1.toInt.toNat + hc_f p1.toInt.toNat (g 7 0).toNat < g 86 (g 8 0).toNat + hc_f (g 8 0).toNat (g 7 0).toNat)))) q) (by omega))]; omega)⟩, ok1 ht hG⟩, hS.F ht⟩) hS.2.2 dX5_isBetter_55
      · skip
        refine ty_iconst hx hb (1) dX5_isBetter_50 (by decide) (fun x50 h51 => ?_)
        refine lv_goto (tgt := 55) hx hb dX5_isBetter_51 (by decide) ?_
        exact W.zret (v := x50) hx hb hr (ty_nb (by omega)).1 (fun t ht hW => ⟨⟨x50, g, rfl, ⟨rfl, (by rw [if_pos (show bt_b (g 86) (fun i => (g 64) ((g 46) (0 + i)).toNat) (g 7 0).toNat p1.toInt.toNat (g 8 0).toNat = true from decide_eq_true (show bcz (g 8 0).toNat < bcz p1.toInt.toNat ∨ (bcz (g 8 0).toNat = bcz p1.toInt.toNat ∧ (ms (fun i => (g 64) ((g 46) (0 + i)).toNat)  (g 8 0).toNat (g 7 0).toNat < ms (fun i => (g 64) ((g 46) (0 + i)).toNat)  p1.toInt.toNat (g 7 0).toNat ∨ (ms (fun i => (g 64) ((g 46) (0 + i)).toNat)  (g 8 0).toNat (g 7 0).toNat = ms (fun i => (g 64) ((g 46) (0 + i)).toNat)  p1.toInt.toNat (g 7 0).toNat ∧ g 86 p1.toInt.toNat + hc_f p1.toInt.toNat (g 7 0).toNat < g 86 (g 8 0).toNat + hc_f (g 8 0).toNat (g 7 0).toNat))) by omega))]; omega)⟩, ok1 ht hG⟩, hS.F ht⟩) hS.2.2 dX5_isBetter_55
  · skip
    refine lv_iload_n hx hb dX5_isBetter_17 rfl (lv_at hl 0 rfl) ?_
    refine ty_if_le (tgt := 25) hx hb dX5_isBetter_18 (by decide) (fun c52 => ?_) (fun c52 => ?_)
    · skip
      refine ty_iconst hx hb (0) dX5_isBetter_25 (by decide) (fun x53 h54 => ?_)
      exact W.zret (v := x53) hx hb hr (ty_nb (by omega)).1 (fun t ht hW => ⟨⟨x53, g, rfl, ⟨rfl, (by rw [if_neg (show ¬ bt_b (g 86) (fun i => (g 64) ((g 46) (0 + i)).toNat) (g 7 0).toNat p1.toInt.toNat (g 8 0).toNat = true from fun q => absurd (of_decide_eq_true (p := bcz (g 8 0).toNat < bcz p1.toInt.toNat ∨ (bcz (g 8 0).toNat = bcz p1.toInt.toNat ∧ (ms (fun i => (g 64) ((g 46) (0 + i)).toNat)  (g 8 0).toNat (g 7 0).toNat < ms (fun i => (g 64) ((g 46) (0 + i)).toNat)  p1.toInt.toNat (g 7 0).toNat ∨ (ms (fun i => (g 64) ((g 46) (0 + i)).toNat)  (g 8 0).toNat (g 7 0).toNat = ms (fun i => (g 64) ((g 46) (0 + i)).toNat)  p1.toInt.toNat (g 7 0).toNat ∧ g 86 p1.toInt.toNat + hc_f p1.toInt.toNat (g 7 0).toNat < g 86 (g 8 0).toNat + hc_f (g 8 0).toNat (g 7 0).toNat)))) q) (by omega))]; omega)⟩, ok1 ht hG⟩, hS.F ht⟩) hS.2.2 dX5_isBetter_26
    · skip
      refine ty_iconst hx hb (1) dX5_isBetter_21 (by decide) (fun x55 h56 => ?_)
      refine lv_goto (tgt := 26) hx hb dX5_isBetter_22 (by decide) ?_
      exact W.zret (v := x55) hx hb hr (ty_nb (by omega)).1 (fun t ht hW => ⟨⟨x55, g, rfl, ⟨rfl, (by rw [if_pos (show bt_b (g 86) (fun i => (g 64) ((g 46) (0 + i)).toNat) (g 7 0).toNat p1.toInt.toNat (g 8 0).toNat = true from decide_eq_true (show bcz (g 8 0).toNat < bcz p1.toInt.toNat ∨ (bcz (g 8 0).toNat = bcz p1.toInt.toNat ∧ (ms (fun i => (g 64) ((g 46) (0 + i)).toNat)  (g 8 0).toNat (g 7 0).toNat < ms (fun i => (g 64) ((g 46) (0 + i)).toNat)  p1.toInt.toNat (g 7 0).toNat ∨ (ms (fun i => (g 64) ((g 46) (0 + i)).toNat)  (g 8 0).toNat (g 7 0).toNat = ms (fun i => (g 64) ((g 46) (0 + i)).toNat)  p1.toInt.toNat (g 7 0).toNat ∧ g 86 p1.toInt.toNat + hc_f p1.toInt.toNat (g 7 0).toNat < g 86 (g 8 0).toNat + hc_f (g 8 0).toNat (g 7 0).toNat))) by omega))]; omega)⟩, ok1 ht hG⟩, hS.F ht⟩) hS.2.2 dX5_isBetter_26
