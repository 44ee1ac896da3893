set_option maxHeartbeats 40000000 in
set_option maxRecDepth 100000 in
/-- the law's case 16 -/
theorem law_c16 {p : Program} {e : Env} {s : State} {m : MethodId} {below : List Frame} {meth : Method} {c : Code} (l : Launch) (hl9 : l.stackTraces = false) {b L : Nat} {xs : Nat → Int32} (hLN : L ≤ 3072) (hx : p.tables.exec = Jvm.exec) (hb : c.code = code) (hr : meth.sig.returnType = ret) (hml : c.maxLocals = 7) (hown : s.vm.findClass R_law = some m.cls) (hA : ∀ w ∈ AL, w.before #[Value.ref b] s = true) (hXs : va_X b L xs s s.heap) (hbl : b < s.heap.size) (hlocks : meth.locks = false) {dC : Nat → ClassId} {dI : Nat → Nat → Nat} {dA : Nat → ClassId} {sz : Nat} (hE : en dC dI dA sz s) (hsz : sz = s.heap.size) (hbA : ¬ ty_A sz b) (X : va_W) (q1 q12 q25 : Nat) (n : Nat) (ih : LJ p l e s m below meth c b dC dI dA sz X q1 q12 q25 n) (i : Int32) (Γ : ty_G) (g : gh) (kc ks : Nat) (H : Heap) (locs : List Loc) (ls : Array Slot) (hm : (3073 - i.toInt : Int) < (n + 1 : Nat)) (hi0 : 0 ≤ i.toInt ∧ i.toInt ≤ 3072) (hi1 : g 1 0 = g 33 0 ∧ 0 ≤ g 1 0 ∧ g 1 0 ≤ 6) (hi2 : g 2 0 = g 34 0 ∧ 0 ≤ g 2 0 ∧ g 2 0 ≤ 10) (hi3 : g 3 0 = g 35 0 ∧ 0 ≤ g 3 0 ∧ g 3 0 ≤ 200) (hi4 : 0 ≤ g 5 0 ∧ g 5 0 ≤ 52) (hi5 : 0 ≤ g 4 0 ∧ g 4 0 ≤ i.toInt) (hi6 : 0 ≤ g 6 0 ∧ g 6 0 ≤ 300) (hi7 : 0 ≤ g 7 0 ∧ g 7 0 ≤ g 36 0 ∧ g 36 0 ≤ 9) (hi8 : g 101 0 = g 1 0) (hi9 : g 104 0 = g 2 0) (hi10 : g 112 0 = g 5 0) (hi11 : g 111 0 = g 4 0) (hi12 : g 114 0 = g 6 0) (hi13 : 0 ≤ g 126 0 ∧ g 126 0 ≤ 200) (hi14 : 0 ≤ g 122 0 ∧ g 122 0 ≤ 30) (hIJ : IJ g) (hU : Un Γ) (t_q1 : ty Γ q1 1) (t_q12 : ty Γ q12 30) (t_q25 : ty Γ q25 25) (hkc : kc ≤ 300 + i.toInt.toNat) (hks : ks ≤ 30000 + 28 * i.toInt.toNat) (hG : ty_ok (dC, dI) vwCl Γ (TP dA Γ g) sz X H) (hS : va_S (ty_A sz) s.heap H locs) (hl : lv_has ls 7 [(4, .int i), (3, .ref q25), (2, .ref q12), (1, .ref q1), (0, .ref b)]) (hiL : i.toInt + 6 ≤ (L : Int)) : W p l e room_1 s m #[Value.ref b] below meth c H locs kc ks (lw_Z below #[Value.ref b] s) (F0 m 768 ls []) := by
  refine lv_aload_n hx hb dL_law_768 rfl (lv_at hl 3 rfl) ?_
  refine lv_aload_n hx hb dL_law_769 rfl (lv_at hl 4 rfl) ?_
  refine lv_iload hx hb dL_law_770 (lv_at hl 0 rfl) ?_
  refine ty_iconst hx hb (1) dL_law_772 (by decide) (fun x873 h874 => ?_)
  refine ty_iadd hx hb dL_law_773 (fun x875 h876 => ?_)
  have h877 := lw_ix (k := 1) h874 h876 hi0 hiL hLN (by decide)
  refine va_sld hx hb hXs hbl hbA hS (i := x875) (ty_ix h877.2) dL_law_774 ?_
  refine W.eq (g2 := F0 m 775 ls [.int (xs (i.toInt.toNat + 1)), .ref q1]) (by rw [lw_xs (xs := xs) h877.1 hi0.1]) ?_
  clear h877 h876 h874
  refine lv_topi (fun x878 s879 => ?_)
  refine cI (va_runV (C := RX8) (As := [.int x878]) (rest := []) ⟨hx, hb, hml, hown, hA⟩ (k_X8_weeks l dC dI dA sz X Γ hU g q1 t_q1 x878   (by first | with_reducible assumption | omega) (by first | with_reducible assumption | omega)) ⟨callB_of 1 hA (al_A wd_3_220) rfl rfl rfl (hA _ wd_1_1) (hA _ wd_3_217) (by decide +kernel) ⟨Nat.le_of_ble_eq_true rfl, Nat.le_of_ble_eq_true rfl⟩, hA _ wd_3_218, hA _ wd_3_219⟩ ⟨bl, recv_X8 hE hG t_q1, fun U hU9 hW9 => ⟨rfl, by rw [hU9]; exact hG, hE.go hS hU9 hW9⟩⟩ rfl rfl hl.1 rfl (lv_room (Nat.le_of_ble_eq_true rfl)) dL_law_775 ⟨(Nat.le_trans (show kc + 0 ≤ 300000 by omega) (Nat.le_of_ble_eq_true rfl)), (Nat.le_trans (show ks + 0 ≤ 300000 by omega) (Nat.le_of_ble_eq_true rfl))⟩) hS (fun x882 u880 H locs w881 hG hS => ?_)
  obtain ⟨hf883, w881⟩ := w881
  have hj884 : IJ u880 := IJ_cg (hf883 126 0 (by decide)) (fun j => hf883 132 j (by decide)) (fun j => hf883 134 j (by decide)) (by (repeat (first | with_reducible assumption | (refine IJ_c (by decide) (by decide) (by decide) ?_) | (refine IJ_take (by omega) (by omega) ?_) | (refine IJ_how (by omega) ?_) | (refine IJ_by (by omega) ?_))))
  replace w881 := or2 w881.1 w881.2 (by exact Classical.em _)
  rcases w881 with w881 | w881
  · skip
    refine lv_aload_n hx hb dL_law_778 rfl (lv_at hl 2 rfl) ?_
    refine lv_aload_n hx hb dL_law_779 rfl (lv_at hl 4 rfl) ?_
    refine lv_iload hx hb dL_law_780 (lv_at hl 0 rfl) ?_
    refine ty_iconst hx hb (1) dL_law_782 (by decide) (fun x885 h886 => ?_)
    refine ty_iadd hx hb dL_law_783 (fun x887 h888 => ?_)
    have h889 := lw_ix (k := 1) h886 h888 hi0 hiL hLN (by decide)
    refine va_sld hx hb hXs hbl hbA hS (i := x887) (ty_ix h889.2) dL_law_784 ?_
    refine W.eq (g2 := F0 m 785 ls [.int (xs (i.toInt.toNat + 1)), .ref q12, .int x882]) (by rw [lw_xs (xs := xs) h889.1 hi0.1]) ?_
    clear h889 h888 h886
    refine W.eq (g2 := F0 m 785 ls [.int x878, .ref q12, .int x882]) (by rw [s879]) ?_
    have hk890 : u880 126 0 = g 126 0 := hf883 126 0 (by decide)
    have hk891 : u880 112 0 = g 112 0 := hf883 112 0 (by decide)
    refine cI (va_runV (C := RX9) (As := [.int x878]) (rest := [.int x882]) ⟨hx, hb, hml, hown, hA⟩ (k_X9_weeks l dC dI dA sz X Γ hU u880 q12 t_q12 x878   (by first | with_reducible assumption | omega) (by first | with_reducible assumption | omega) (by (repeat (first | with_reducible assumption | (refine IJ_c (by decide) (by decide) (by decide) ?_) | (refine IJ_take (by omega) (by omega) ?_) | (refine IJ_how (by omega) ?_) | (refine IJ_by (by omega) ?_))))) ⟨callB_of 1 hA (al_A wd_5_193) rfl rfl rfl (hA _ wd_1_7) (hA _ wd_5_190) (by decide +kernel) ⟨Nat.le_of_ble_eq_true rfl, Nat.le_of_ble_eq_true rfl⟩, hA _ wd_5_191, hA _ wd_5_192⟩ ⟨bl, recv_X9 hE hG t_q12, fun U hU9 hW9 => ⟨rfl, by rw [hU9]; exact hG, hE.go hS hU9 hW9⟩⟩ rfl rfl hl.1 rfl (lv_room (Nat.le_of_ble_eq_true rfl)) dL_law_785 ⟨(Nat.le_trans (show kc + 0 ≤ 300000 by omega) (Nat.le_of_ble_eq_true rfl)), (Nat.le_trans (show ks + 0 ≤ 300000 by omega) (Nat.le_of_ble_eq_true rfl))⟩) hS (fun x894 u892 H locs w893 hG hS => ?_)
    obtain ⟨hf896, w893, hq895⟩ := w893
    replace w893 := or2 w893.1 w893.2 (by exact Classical.em _)
    rcases w893 with w893 | w893
    · skip
      refine ty_icmp_eq (tgt := 1047) hx hb dL_law_788 (by decide) (fun c897 => ?_) (fun c897 => ?_)
      · skip
        obtain ⟨x898, h899⟩ : ∃ y : Int32, y = i + Int32.ofInt (6) := ⟨_, rfl⟩
        try have h900 : x898.toInt = i.toInt + (6) := ty_inc h899 (by decide) (by omega) (by omega)
        refine lv_iinc (v := x898) (lv' := [(4, .int x898), (3, .ref q25), (2, .ref q12), (1, .ref q1), (0, .ref b)]) hx hb dL_law_1047 hl (k := 0) rfl h899.symm (by decide) rfl (fun ls hl => ?_)
        refine lv_goto (tgt := 23) hx hb dL_law_1050 (by decide) ?_
        have hk901 : u892 4 0 = u880 4 0 := hf896 4 0 (by decide) (by decide) (by decide)
        have hk902 : u880 4 0 = g 4 0 := hf883 4 0 (by decide)
        have hk903 : u892 5 0 = u880 5 0 := hf896 5 0 (by decide) (by decide) (by decide)
        exact ih x898 Γ u892 (kc) (ks) _ _ ls (by omega) (by omega) (by rw [hf896 1 0 (by decide) (by decide) (by decide), hf883 1 0 (by decide), hf896 33 0 (by decide) (by decide) (by decide), hf883 33 0 (by decide)]; exact hi1) (by rw [hf896 2 0 (by decide) (by decide) (by decide), hf883 2 0 (by decide), hf896 34 0 (by decide) (by decide) (by decide), hf883 34 0 (by decide)]; exact hi2) (by rw [hf896 3 0 (by decide) (by decide) (by decide), hf883 3 0 (by decide), hf896 35 0 (by decide) (by decide) (by decide), hf883 35 0 (by decide)]; exact hi3) (by omega) (by omega) (by rw [hf896 6 0 (by decide) (by decide) (by decide), hf883 6 0 (by decide)]; exact hi6) (by rw [hf896 7 0 (by decide) (by decide) (by decide), hf883 7 0 (by decide), hf896 36 0 (by decide) (by decide) (by decide), hf883 36 0 (by decide)]; exact hi7) (by rw [hf896 101 0 (by decide) (by decide) (by decide), hf883 101 0 (by decide), hf896 1 0 (by decide) (by decide) (by decide), hf883 1 0 (by decide)]; exact hi8) (by rw [hf896 104 0 (by decide) (by decide) (by decide), hf883 104 0 (by decide), hf896 2 0 (by decide) (by decide) (by decide), hf883 2 0 (by decide)]; exact hi9) (by omega) (by rw [hf896 111 0 (by decide) (by decide) (by decide), hf883 111 0 (by decide), hf896 4 0 (by decide) (by decide) (by decide), hf883 4 0 (by decide)]; exact hi11) (by rw [hf896 114 0 (by decide) (by decide) (by decide), hf883 114 0 (by decide), hf896 6 0 (by decide) (by decide) (by decide), hf883 6 0 (by decide)]; exact hi12) (by rw [hf896 126 0 (by decide) (by decide) (by decide), hf883 126 0 (by decide)]; exact hi13) (by rw [hf896 122 0 (by decide) (by decide) (by decide), hf883 122 0 (by decide)]; exact hi14) (by (repeat (first | with_reducible assumption | (refine IJ_c (by decide) (by decide) (by decide) ?_) | (refine IJ_take (by omega) (by omega) ?_) | (refine IJ_how (by omega) ?_) | (refine IJ_by (by omega) ?_)))) hU t_q1 t_q12 t_q25 (by omega) (by omega) hG hS (lv_sub hl [0, 1, 2, 3, 4] rfl)
      · exfalso; omega
    · exfalso; omega
  · skip
    refine lv_aload_n hx hb dL_law_778 rfl (lv_at hl 2 rfl) ?_
    refine lv_aload_n hx hb dL_law_779 rfl (lv_at hl 4 rfl) ?_
    refine lv_iload hx hb dL_law_780 (lv_at hl 0 rfl) ?_
    refine ty_iconst hx hb (1) dL_law_782 (by decide) (fun x904 h905 => ?_)
    refine ty_iadd hx hb dL_law_783 (fun x906 h907 => ?_)
    have h908 := lw_ix (k := 1) h905 h907 hi0 hiL hLN (by decide)
    refine va_sld hx hb hXs hbl hbA hS (i := x906) (ty_ix h908.2) dL_law_784 ?_
    refine W.eq (g2 := F0 m 785 ls [.int (xs (i.toInt.toNat + 1)), .ref q12, .int x882]) (by rw [lw_xs (xs := xs) h908.1 hi0.1]) ?_
    clear h908 h907 h905
    refine W.eq (g2 := F0 m 785 ls [.int x878, .ref q12, .int x882]) (by rw [s879]) ?_
    have hk909 : u880 126 0 = g 126 0 := hf883 126 0 (by decide)
    have hk910 : u880 112 0 = g 112 0 := hf883 112 0 (by decide)
    refine cI (va_runV (C := RX9) (As := [.int x878]) (rest := [.int x882]) ⟨hx, hb, hml, hown, hA⟩ (k_X9_weeks l dC dI dA sz X Γ hU u880 q12 t_q12 x878   (by first | with_reducible assumption | omega) (by first | with_reducible assumption | omega) (by (repeat (first | with_reducible assumption | (refine IJ_c (by decide) (by decide) (by decide) ?_) | (refine IJ_take (by omega) (by omega) ?_) | (refine IJ_how (by omega) ?_) | (refine IJ_by (by omega) ?_))))) ⟨callB_of 1 hA (al_A wd_5_193) rfl rfl rfl (hA _ wd_1_7) (hA _ wd_5_190) (by decide +kernel) ⟨Nat.le_of_ble_eq_true rfl, Nat.le_of_ble_eq_true rfl⟩, hA _ wd_5_191, hA _ wd_5_192⟩ ⟨bl, recv_X9 hE hG t_q12, fun U hU9 hW9 => ⟨rfl, by rw [hU9]; exact hG, hE.go hS hU9 hW9⟩⟩ rfl rfl hl.1 rfl (lv_room (Nat.le_of_ble_eq_true rfl)) dL_law_785 ⟨(Nat.le_trans (show kc + 0 ≤ 300000 by omega) (Nat.le_of_ble_eq_true rfl)), (Nat.le_trans (show ks + 0 ≤ 300000 by omega) (Nat.le_of_ble_eq_true rfl))⟩) hS (fun x913 u911 H locs w912 hG hS => ?_)
    obtain ⟨hf915, w912, hq914⟩ := w912
    replace w912 := or2 w912.1 w912.2 (by exact Classical.em _)
    rcases w912 with w912 | w912
    · exfalso; omega
    · skip
      refine ty_icmp_eq (tgt := 1047) hx hb dL_law_788 (by decide) (fun c916 => ?_) (fun c916 => ?_)
      · skip
        obtain ⟨x917, h918⟩ : ∃ y : Int32, y = i + Int32.ofInt (6) := ⟨_, rfl⟩
        try have h919 : x917.toInt = i.toInt + (6) := ty_inc h918 (by decide) (by omega) (by omega)
        refine lv_iinc (v := x917) (lv' := [(4, .int x917), (3, .ref q25), (2, .ref q12), (1, .ref q1), (0, .ref b)]) hx hb dL_law_1047 hl (k := 0) rfl h918.symm (by decide) rfl (fun ls hl => ?_)
        refine lv_goto (tgt := 23) hx hb dL_law_1050 (by decide) ?_
        have hk920 : u911 4 0 = u880 4 0 := hf915 4 0 (by decide) (by decide) (by decide)
        have hk921 : u880 4 0 = g 4 0 := hf883 4 0 (by decide)
        have hk922 : u911 5 0 = u880 5 0 := hf915 5 0 (by decide) (by decide) (by decide)
        exact ih x917 Γ u911 (kc) (ks) _ _ ls (by omega) (by omega) (by rw [hf915 1 0 (by decide) (by decide) (by decide), hf883 1 0 (by decide), hf915 33 0 (by decide) (by decide) (by decide), hf883 33 0 (by decide)]; exact hi1) (by rw [hf915 2 0 (by decide) (by decide) (by decide), hf883 2 0 (by decide), hf915 34 0 (by decide) (by decide) (by decide), hf883 34 0 (by decide)]; exact hi2) (by rw [hf915 3 0 (by decide) (by decide) (by decide), hf883 3 0 (by decide), hf915 35 0 (by decide) (by decide) (by decide), hf883 35 0 (by decide)]; exact hi3) (by omega) (by omega) (by rw [hf915 6 0 (by decide) (by decide) (by decide), hf883 6 0 (by decide)]; exact hi6) (by rw [hf915 7 0 (by decide) (by decide) (by decide), hf883 7 0 (by decide), hf915 36 0 (by decide) (by decide) (by decide), hf883 36 0 (by decide)]; exact hi7) (by rw [hf915 101 0 (by decide) (by decide) (by decide), hf883 101 0 (by decide), hf915 1 0 (by decide) (by decide) (by decide), hf883 1 0 (by decide)]; exact hi8) (by rw [hf915 104 0 (by decide) (by decide) (by decide), hf883 104 0 (by decide), hf915 2 0 (by decide) (by decide) (by decide), hf883 2 0 (by decide)]; exact hi9) (by omega) (by rw [hf915 111 0 (by decide) (by decide) (by decide), hf883 111 0 (by decide), hf915 4 0 (by decide) (by decide) (by decide), hf883 4 0 (by decide)]; exact hi11) (by rw [hf915 114 0 (by decide) (by decide) (by decide), hf883 114 0 (by decide), hf915 6 0 (by decide) (by decide) (by decide), hf883 6 0 (by decide)]; exact hi12) (by rw [hf915 126 0 (by decide) (by decide) (by decide), hf883 126 0 (by decide)]; exact hi13) (by rw [hf915 122 0 (by decide) (by decide) (by decide), hf883 122 0 (by decide)]; exact hi14) (by (repeat (first | with_reducible assumption | (refine IJ_c (by decide) (by decide) (by decide) ?_) | (refine IJ_take (by omega) (by omega) ?_) | (refine IJ_how (by omega) ?_) | (refine IJ_by (by omega) ?_)))) hU t_q1 t_q12 t_q25 (by omega) (by omega) hG hS (lv_sub hl [0, 1, 2, 3, 4] rfl)
      · exfalso; omega
set_option maxHeartbeats 40000000 in
set_option maxRecDepth 100000 in
/-- the law's case 17 -/
theorem law_c17 {p : Program} {e : Env} {s : State} {m : MethodId} {below : List Frame} {meth : Method} {c : Code} (l : Launch) (hl9 : l.stackTraces = false) {b L : Nat} {xs : Nat → Int32} (hLN : L ≤ 3072) (hx : p.tables.exec = Jvm.exec) (hb : c.code = code) (hr : meth.sig.returnType = ret) (hml : c.maxLocals = 7) (hown : s.vm.findClass R_law = some m.cls) (hA : ∀ w ∈ AL, w.before #[Value.ref b] s = true) (hXs : va_X b L xs s s.heap) (hbl : b < s.heap.size) (hlocks : meth.locks = false) {dC : Nat → ClassId} {dI : Nat → Nat → Nat} {dA : Nat → ClassId} {sz : Nat} (hE : en dC dI dA sz s) (hsz : sz = s.heap.size) (hbA : ¬ ty_A sz b) (X : va_W) (q1 q12 q25 : Nat) (n : Nat) (ih : LJ p l e s m below meth c b dC dI dA sz X q1 q12 q25 n) (i : Int32) (Γ : ty_G) (g : gh) (kc ks : Nat) (H : Heap) (locs : List Loc) (ls : Array Slot) (hm : (3073 - i.toInt : Int) < (n + 1 : Nat)) (hi0 : 0 ≤ i.toInt ∧ i.toInt ≤ 3072) (hi1 : g 1 0 = g 33 0 ∧ 0 ≤ g 1 0 ∧ g 1 0 ≤ 6) (hi2 : g 2 0 = g 34 0 ∧ 0 ≤ g 2 0 ∧ g 2 0 ≤ 10) (hi3 : g 3 0 = g 35 0 ∧ 0 ≤ g 3 0 ∧ g 3 0 ≤ 200) (hi4 : 0 ≤ g 5 0 ∧ g 5 0 ≤ 52) (hi5 : 0 ≤ g 4 0 ∧ g 4 0 ≤ i.toInt) (hi6 : 0 ≤ g 6 0 ∧ g 6 0 ≤ 300) (hi7 : 0 ≤ g 7 0 ∧ g 7 0 ≤ g 36 0 ∧ g 36 0 ≤ 9) (hi8 : g 101 0 = g 1 0) (hi9 : g 104 0 = g 2 0) (hi10 : g 112 0 = g 5 0) (hi11 : g 111 0 = g 4 0) (hi12 : g 114 0 = g 6 0) (hi13 : 0 ≤ g 126 0 ∧ g 126 0 ≤ 200) (hi14 : 0 ≤ g 122 0 ∧ g 122 0 ≤ 30) (hIJ : IJ g) (hU : Un Γ) (t_q1 : ty Γ q1 1) (t_q12 : ty Γ q12 30) (t_q25 : ty Γ q25 25) (hkc : kc ≤ 300 + i.toInt.toNat) (hks : ks ≤ 30000 + 28 * i.toInt.toNat) (hG : ty_ok (dC, dI) vwCl Γ (TP dA Γ g) sz X H) (hS : va_S (ty_A sz) s.heap H locs) (hl : lv_has ls 7 [(4, .int i), (3, .ref q25), (2, .ref q12), (1, .ref q1), (0, .ref b)]) (hiL : i.toInt + 6 ≤ (L : Int)) : W p l e room_1 s m #[Value.ref b] below meth c H locs kc ks (lw_Z below #[Value.ref b] s) (F0 m 793 ls []) := by
  refine lv_aload_n hx hb dL_law_793 rfl (lv_at hl 3 rfl) ?_
  refine cI (va_runV (C := RX8) (As := []) (rest := []) ⟨hx, hb, hml, hown, hA⟩ (k_X8_year l dC dI dA sz X Γ hU g q1 t_q1   (by first | with_reducible assumption | omega) (by first | with_reducible assumption | omega) (by first | with_reducible assumption | omega)) ⟨callB_of 0 hA (al_A wd_3_228) rfl rfl rfl (hA _ wd_1_1) (hA _ wd_3_225) (by decide +kernel) ⟨Nat.le_of_ble_eq_true rfl, Nat.le_of_ble_eq_true rfl⟩, hA _ wd_3_226, hA _ wd_3_227⟩ ⟨bl, recv_X8 hE hG t_q1, fun U hU9 hW9 => ⟨rfl, by rw [hU9]; exact hG, hE.go hS hU9 hW9⟩⟩ rfl rfl hl.1 rfl (lv_room (Nat.le_of_ble_eq_true rfl)) dL_law_794 ⟨(Nat.le_trans (show kc + 0 ≤ 300000 by omega) (Nat.le_of_ble_eq_true rfl)), (Nat.le_trans (show ks + 0 ≤ 300000 by omega) (Nat.le_of_ble_eq_true rfl))⟩) hS (fun x925 u923 H locs w924 hG hS => ?_)
  obtain ⟨hf926, w924⟩ := w924
  have hj927 : IJ u923 := IJ_cg (hf926 126 0 (by decide) (by decide)) (fun j => hf926 132 j (by decide) (by decide)) (fun j => hf926 134 j (by decide) (by decide)) (by (repeat (first | with_reducible assumption | (refine IJ_c (by decide) (by decide) (by decide) ?_) | (refine IJ_take (by omega) (by omega) ?_) | (refine IJ_how (by omega) ?_) | (refine IJ_by (by omega) ?_))))
  refine lv_pop hx hb dL_law_797 rfl ?_
  refine lv_aload_n hx hb dL_law_798 rfl (lv_at hl 2 rfl) ?_
  have hk928 : u923 126 0 = g 126 0 := hf926 126 0 (by decide) (by decide)
  have hk929 : u923 111 0 = g 111 0 := hf926 111 0 (by decide) (by decide)
  refine cI (va_runV (C := RX9) (As := []) (rest := []) ⟨hx, hb, hml, hown, hA⟩ (k_X9_year l dC dI dA sz X Γ hU u923 q12 t_q12   (by first | with_reducible assumption | omega) (by (repeat (first | with_reducible assumption | (refine IJ_c (by decide) (by decide) (by decide) ?_) | (refine IJ_take (by omega) (by omega) ?_) | (refine IJ_how (by omega) ?_) | (refine IJ_by (by omega) ?_)))) (by first | with_reducible assumption | omega)) ⟨callB_of 0 hA (al_A wd_5_201) rfl rfl rfl (hA _ wd_1_7) (hA _ wd_5_198) (by decide +kernel) ⟨Nat.le_of_ble_eq_true rfl, Nat.le_of_ble_eq_true rfl⟩, hA _ wd_5_199, hA _ wd_5_200⟩ ⟨bl, recv_X9 hE hG t_q12, fun U hU9 hW9 => ⟨rfl, by rw [hU9]; exact hG, hE.go hS hU9 hW9⟩⟩ rfl rfl hl.1 rfl (lv_room (Nat.le_of_ble_eq_true rfl)) dL_law_799 ⟨(Nat.le_trans (show kc + 0 ≤ 300000 by omega) (Nat.le_of_ble_eq_true rfl)), (Nat.le_trans (show ks + 0 ≤ 300000 by omega) (Nat.le_of_ble_eq_true rfl))⟩) hS (fun x932 u930 H locs w931 hG hS => ?_)
  obtain ⟨hf934, w931, hq933⟩ := w931
  refine lv_pop hx hb dL_law_802 rfl ?_
  refine lv_goto (tgt := 1047) hx hb dL_law_803 (by decide) ?_
  obtain ⟨x935, h936⟩ : ∃ y : Int32, y = i + Int32.ofInt (6) := ⟨_, rfl⟩
  try have h937 : x935.toInt = i.toInt + (6) := ty_inc h936 (by decide) (by omega) (by omega)
  refine lv_iinc (v := x935) (lv' := [(4, .int x935), (3, .ref q25), (2, .ref q12), (1, .ref q1), (0, .ref b)]) hx hb dL_law_1047 hl (k := 0) rfl h936.symm (by decide) rfl (fun ls hl => ?_)
  refine lv_goto (tgt := 23) hx hb dL_law_1050 (by decide) ?_
  have hk938 : u930 4 0 = u923 4 0 := hf934 4 0 (by decide) (by decide) (by decide) (by decide) (by decide)
  have hk939 : u930 5 0 = u923 5 0 := hf934 5 0 (by decide) (by decide) (by decide) (by decide) (by decide)
  exact ih x935 Γ u930 (kc) (ks) _ _ ls (by omega) (by omega) (by rw [hf934 1 0 (by decide) (by decide) (by decide) (by decide) (by decide), hf926 1 0 (by decide) (by decide), hf934 33 0 (by decide) (by decide) (by decide) (by decide) (by decide), hf926 33 0 (by decide) (by decide)]; exact hi1) (by rw [hf934 2 0 (by decide) (by decide) (by decide) (by decide) (by decide), hf926 2 0 (by decide) (by decide), hf934 34 0 (by decide) (by decide) (by decide) (by decide) (by decide), hf926 34 0 (by decide) (by decide)]; exact hi2) (by rw [hf934 3 0 (by decide) (by decide) (by decide) (by decide) (by decide), hf926 3 0 (by decide) (by decide), hf934 35 0 (by decide) (by decide) (by decide) (by decide) (by decide), hf926 35 0 (by decide) (by decide)]; exact hi3) (by omega) (by omega) (by rw [hf934 6 0 (by decide) (by decide) (by decide) (by decide) (by decide), hf926 6 0 (by decide) (by decide)]; exact hi6) (by rw [hf934 7 0 (by decide) (by decide) (by decide) (by decide) (by decide), hf926 7 0 (by decide) (by decide), hf934 36 0 (by decide) (by decide) (by decide) (by decide) (by decide), hf926 36 0 (by decide) (by decide)]; exact hi7) (by rw [hf934 101 0 (by decide) (by decide) (by decide) (by decide) (by decide), hf926 101 0 (by decide) (by decide), hf934 1 0 (by decide) (by decide) (by decide) (by decide) (by decide), hf926 1 0 (by decide) (by decide)]; exact hi8) (by rw [hf934 104 0 (by decide) (by decide) (by decide) (by decide) (by decide), hf926 104 0 (by decide) (by decide), hf934 2 0 (by decide) (by decide) (by decide) (by decide) (by decide), hf926 2 0 (by decide) (by decide)]; exact hi9) (by omega) (by omega) (by rw [hf934 114 0 (by decide) (by decide) (by decide) (by decide) (by decide), hf926 114 0 (by decide) (by decide), hf934 6 0 (by decide) (by decide) (by decide) (by decide) (by decide), hf926 6 0 (by decide) (by decide)]; exact hi12) (by rw [hf934 126 0 (by decide) (by decide) (by decide) (by decide) (by decide), hf926 126 0 (by decide) (by decide)]; exact hi13) (by rw [hf934 122 0 (by decide) (by decide) (by decide) (by decide) (by decide), hf926 122 0 (by decide) (by decide)]; exact hi14) (by (repeat (first | with_reducible assumption | (refine IJ_c (by decide) (by decide) (by decide) ?_) | (refine IJ_take (by omega) (by omega) ?_) | (refine IJ_how (by omega) ?_) | (refine IJ_by (by omega) ?_)))) hU t_q1 t_q12 t_q25 (by omega) (by omega) hG hS (lv_sub hl [0, 1, 2, 3, 4] rfl)
set_option maxHeartbeats 40000000 in
set_option maxRecDepth 100000 in
/-- the law's case 18 -/
theorem law_c18 {p : Program} {e : Env} {s : State} {m : MethodId} {below : List Frame} {meth : Method} {c : Code} (l : Launch) (hl9 : l.stackTraces = false) {b L : Nat} {xs : Nat → Int32} (hLN : L ≤ 3072) (hx : p.tables.exec = Jvm.exec) (hb : c.code = code) (hr : meth.sig.returnType = ret) (hml : c.maxLocals = 7) (hown : s.vm.findClass R_law = some m.cls) (hA : ∀ w ∈ AL, w.before #[Value.ref b] s = true) (hXs : va_X b L xs s s.heap) (hbl : b < s.heap.size) (hlocks : meth.locks = false) {dC : Nat → ClassId} {dI : Nat → Nat → Nat} {dA : Nat → ClassId} {sz : Nat} (hE : en dC dI dA sz s) (hsz : sz = s.heap.size) (hbA : ¬ ty_A sz b) (X : va_W) (q1 q12 q25 : Nat) (n : Nat) (ih : LJ p l e s m below meth c b dC dI dA sz X q1 q12 q25 n) (i : Int32) (Γ : ty_G) (g : gh) (kc ks : Nat) (H : Heap) (locs : List Loc) (ls : Array Slot) (hm : (3073 - i.toInt : Int) < (n + 1 : Nat)) (hi0 : 0 ≤ i.toInt ∧ i.toInt ≤ 3072) (hi1 : g 1 0 = g 33 0 ∧ 0 ≤ g 1 0 ∧ g 1 0 ≤ 6) (hi2 : g 2 0 = g 34 0 ∧ 0 ≤ g 2 0 ∧ g 2 0 ≤ 10) (hi3 : g 3 0 = g 35 0 ∧ 0 ≤ g 3 0 ∧ g 3 0 ≤ 200) (hi4 : 0 ≤ g 5 0 ∧ g 5 0 ≤ 52) (hi5 : 0 ≤ g 4 0 ∧ g 4 0 ≤ i.toInt) (hi6 : 0 ≤ g 6 0 ∧ g 6 0 ≤ 300) (hi7 : 0 ≤ g 7 0 ∧ g 7 0 ≤ g 36 0 ∧ g 36 0 ≤ 9) (hi8 : g 101 0 = g 1 0) (hi9 : g 104 0 = g 2 0) (hi10 : g 112 0 = g 5 0) (hi11 : g 111 0 = g 4 0) (hi12 : g 114 0 = g 6 0) (hi13 : 0 ≤ g 126 0 ∧ g 126 0 ≤ 200) (hi14 : 0 ≤ g 122 0 ∧ g 122 0 ≤ 30) (hIJ : IJ g) (hU : Un Γ) (t_q1 : ty Γ q1 1) (t_q12 : ty Γ q12 30) (t_q25 : ty Γ q25 25) (hkc : kc ≤ 300 + i.toInt.toNat) (hks : ks ≤ 30000 + 28 * i.toInt.toNat) (hG : ty_ok (dC, dI) vwCl Γ (TP dA Γ g) sz X H) (hS : va_S (ty_A sz) s.heap H locs) (hl : lv_has ls 7 [(4, .int i), (3, .ref q25), (2, .ref q12), (1, .ref q1), (0, .ref b)]) (hiL : i.toInt + 6 ≤ (L : Int)) : W p l e room_1 s m #[Value.ref b] below meth c H locs kc ks (lw_Z below #[Value.ref b] s) (F0 m 806 ls []) := by
  refine lv_aload_n hx hb dL_law_806 rfl (lv_at hl 3 rfl) ?_
  refine lv_aload_n hx hb dL_law_807 rfl (lv_at hl 4 rfl) ?_
  refine lv_iload hx hb dL_law_808 (lv_at hl 0 rfl) ?_
  refine ty_iconst hx hb (1) dL_law_810 (by decide) (fun x940 h941 => ?_)
  refine ty_iadd hx hb dL_law_811 (fun x942 h943 => ?_)
  have h944 := lw_ix (k := 1) h941 h943 hi0 hiL hLN (by decide)
  refine va_sld hx hb hXs hbl hbA hS (i := x942) (ty_ix h944.2) dL_law_812 ?_
  refine W.eq (g2 := F0 m 813 ls [.int (xs (i.toInt.toNat + 1)), .ref q1]) (by rw [lw_xs (xs := xs) h944.1 hi0.1]) ?_
  clear h944 h943 h941
  refine lv_topi (fun x945 s946 => ?_)
  refine lv_aload_n hx hb dL_law_813 rfl (lv_at hl 4 rfl) ?_
  refine lv_iload hx hb dL_law_814 (lv_at hl 0 rfl) ?_
  refine ty_iconst hx hb (2) dL_law_816 (by decide) (fun x947 h948 => ?_)
  refine ty_iadd hx hb dL_law_817 (fun x949 h950 => ?_)
  have h951 := lw_ix (k := 2) h948 h950 hi0 hiL hLN (by decide)
  refine va_sld hx hb hXs hbl hbA hS (i := x949) (ty_ix h951.2) dL_law_818 ?_
  refine W.eq (g2 := F0 m 819 ls [.int (xs (i.toInt.toNat + 2)), .int x945, .ref q1]) (by rw [lw_xs (xs := xs) h951.1 hi0.1]) ?_
  clear h951 h950 h948
  refine lv_topi (fun x952 s953 => ?_)
  refine lv_aload_n hx hb dL_law_819 rfl (lv_at hl 4 rfl) ?_
  refine lv_iload hx hb dL_law_820 (lv_at hl 0 rfl) ?_
  refine ty_iconst hx hb (3) dL_law_822 (by decide) (fun x954 h955 => ?_)
  refine ty_iadd hx hb dL_law_823 (fun x956 h957 => ?_)
  have h958 := lw_ix (k := 3) h955 h957 hi0 hiL hLN (by decide)
  refine va_sld hx hb hXs hbl hbA hS (i := x956) (ty_ix h958.2) dL_law_824 ?_
  refine W.eq (g2 := F0 m 825 ls [.int (xs (i.toInt.toNat + 3)), .int x952, .int x945, .ref q1]) (by rw [lw_xs (xs := xs) h958.1 hi0.1]) ?_
  clear h958 h957 h955
  refine lv_topi (fun x959 s960 => ?_)
  refine ty_if_eq (tgt := 832) hx hb dL_law_825 (by decide) (fun c961 => ?_) (fun c961 => ?_)
  · skip
    refine ty_iconst hx hb (0) dL_law_832 (by decide) (fun x962 h963 => ?_)
    refine cI (va_runV (C := RX8) (As := [.int x945, .int x952, .int x962]) (rest := []) ⟨hx, hb, hml, hown, hA⟩ (k_X8_dies l dC dI dA sz X Γ hU g q1 t_q1 x945 x952 x962   (by first | with_reducible assumption | omega) (by first | with_reducible assumption | omega) (by first | with_reducible assumption | omega)) ⟨callB_of 3 hA (al_A wd_3_236) rfl rfl rfl (hA _ wd_1_1) (hA _ wd_3_233) (by decide +kernel) ⟨Nat.le_of_ble_eq_true rfl, Nat.le_of_ble_eq_true rfl⟩, hA _ wd_3_234, hA _ wd_3_235⟩ ⟨bl, recv_X8 hE hG t_q1, fun U hU9 hW9 => ⟨rfl, by rw [hU9]; exact hG, hE.go hS hU9 hW9⟩⟩ rfl rfl hl.1 rfl (lv_room (Nat.le_of_ble_eq_true rfl)) dL_law_833 ⟨(Nat.le_trans (show kc + 0 ≤ 300000 by omega) (Nat.le_of_ble_eq_true rfl)), (Nat.le_trans (show ks + 0 ≤ 300000 by omega) (Nat.le_of_ble_eq_true rfl))⟩) hS (fun x966 u964 H locs w965 hG hS => ?_)
    have eu967 := w965
    rw [eu967] at hG
    refine lv_pop hx hb dL_law_836 rfl ?_
    refine lv_aload_n hx hb dL_law_837 rfl (lv_at hl 2 rfl) ?_
    refine lv_aload_n hx hb dL_law_838 rfl (lv_at hl 4 rfl) ?_
    refine lv_iload hx hb dL_law_839 (lv_at hl 0 rfl) ?_
    refine ty_iconst hx hb (1) dL_law_841 (by decide) (fun x968 h969 => ?_)
    refine ty_iadd hx hb dL_law_842 (fun x970 h971 => ?_)
    have h972 := lw_ix (k := 1) h969 h971 hi0 hiL hLN (by decide)
    refine va_sld hx hb hXs hbl hbA hS (i := x970) (ty_ix h972.2) dL_law_843 ?_
    refine W.eq (g2 := F0 m 844 ls [.int (xs (i.toInt.toNat + 1)), .ref q12]) (by rw [lw_xs (xs := xs) h972.1 hi0.1]) ?_
    clear h972 h971 h969
    refine W.eq (g2 := F0 m 844 ls [.int x945, .ref q12]) (by rw [s946]) ?_
    refine lv_aload_n hx hb dL_law_844 rfl (lv_at hl 4 rfl) ?_
    refine lv_iload hx hb dL_law_845 (lv_at hl 0 rfl) ?_
    refine ty_iconst hx hb (2) dL_law_847 (by decide) (fun x973 h974 => ?_)
    refine ty_iadd hx hb dL_law_848 (fun x975 h976 => ?_)
    have h977 := lw_ix (k := 2) h974 h976 hi0 hiL hLN (by decide)
    refine va_sld hx hb hXs hbl hbA hS (i := x975) (ty_ix h977.2) dL_law_849 ?_
    refine W.eq (g2 := F0 m 850 ls [.int (xs (i.toInt.toNat + 2)), .int x945, .ref q12]) (by rw [lw_xs (xs := xs) h977.1 hi0.1]) ?_
    clear h977 h976 h974
    refine W.eq (g2 := F0 m 850 ls [.int x952, .int x945, .ref q12]) (by rw [s953]) ?_
    refine lv_aload_n hx hb dL_law_850 rfl (lv_at hl 4 rfl) ?_
    refine lv_iload hx hb dL_law_851 (lv_at hl 0 rfl) ?_
    refine ty_iconst hx hb (3) dL_law_853 (by decide) (fun x978 h979 => ?_)
    refine ty_iadd hx hb dL_law_854 (fun x980 h981 => ?_)
    have h982 := lw_ix (k := 3) h979 h981 hi0 hiL hLN (by decide)
    refine va_sld hx hb hXs hbl hbA hS (i := x980) (ty_ix h982.2) dL_law_855 ?_
    refine W.eq (g2 := F0 m 856 ls [.int (xs (i.toInt.toNat + 3)), .int x952, .int x945, .ref q12]) (by rw [lw_xs (xs := xs) h982.1 hi0.1]) ?_
    clear h982 h981 h979
    refine W.eq (g2 := F0 m 856 ls [.int x959, .int x952, .int x945, .ref q12]) (by rw [s960]) ?_
    refine ty_if_eq (tgt := 863) hx hb dL_law_856 (by decide) (fun c983 => ?_) (fun c983 => ?_)
    · skip
      refine ty_iconst hx hb (0) dL_law_863 (by decide) (fun x984 h985 => ?_)
      refine cI (va_runV (C := RX9) (As := [.int x945, .int x952, .int x984]) (rest := []) ⟨hx, hb, hml, hown, hA⟩ (k_X9_dies l dC dI dA sz X Γ hU g q12 t_q12 x945 x952 x984   (by first | with_reducible assumption | omega) (by first | with_reducible assumption | omega) (by first | with_reducible assumption | omega) (by (repeat (first | with_reducible assumption | (refine IJ_c (by decide) (by decide) (by decide) ?_) | (refine IJ_take (by omega) (by omega) ?_) | (refine IJ_how (by omega) ?_) | (refine IJ_by (by omega) ?_))))) ⟨callB_of 3 hA (al_A wd_5_205) rfl rfl rfl (hA _ wd_1_7) (hA _ wd_5_202) (by decide +kernel) ⟨Nat.le_of_ble_eq_true rfl, Nat.le_of_ble_eq_true rfl⟩, hA _ wd_5_203, hA _ wd_5_204⟩ ⟨bl, recv_X9 hE hG t_q12, fun U hU9 hW9 => ⟨rfl, by rw [hU9]; exact hG, hE.go hS hU9 hW9⟩⟩ rfl rfl hl.1 rfl (lv_room (Nat.le_of_ble_eq_true rfl)) dL_law_864 ⟨(Nat.le_trans (show kc + 0 ≤ 300000 by omega) (Nat.le_of_ble_eq_true rfl)), (Nat.le_trans (show ks + 0 ≤ 300000 by omega) (Nat.le_of_ble_eq_true rfl))⟩) hS (fun x988 u986 H locs w987 hG hS => ?_)
      obtain ⟨hf990, hq989⟩ := w987
      refine lv_pop hx hb dL_law_867 rfl ?_
      refine lv_goto (tgt := 1047) hx hb dL_law_868 (by decide) ?_
      obtain ⟨x991, h992⟩ : ∃ y : Int32, y = i + Int32.ofInt (6) := ⟨_, rfl⟩
      try have h993 : x991.toInt = i.toInt + (6) := ty_inc h992 (by decide) (by omega) (by omega)
      refine lv_iinc (v := x991) (lv' := [(4, .int x991), (3, .ref q25), (2, .ref q12), (1, .ref q1), (0, .ref b)]) hx hb dL_law_1047 hl (k := 0) rfl h992.symm (by decide) rfl (fun ls hl => ?_)
      refine lv_goto (tgt := 23) hx hb dL_law_1050 (by decide) ?_
      have hk994 : u986 4 0 = g 4 0 := hf990 4 0 (by decide) (by decide) (by decide) (by decide) (by decide) (by decide)
      exact ih x991 Γ u986 (kc) (ks) _ _ ls (by omega) (by omega) (by rw [hf990 1 0 (by decide) (by decide) (by decide) (by decide) (by decide) (by decide), hf990 33 0 (by decide) (by decide) (by decide) (by decide) (by decide) (by decide)]; exact hi1) (by rw [hf990 2 0 (by decide) (by decide) (by decide) (by decide) (by decide) (by decide), hf990 34 0 (by decide) (by decide) (by decide) (by decide) (by decide) (by decide)]; exact hi2) (by rw [hf990 3 0 (by decide) (by decide) (by decide) (by decide) (by decide) (by decide), hf990 35 0 (by decide) (by decide) (by decide) (by decide) (by decide) (by decide)]; exact hi3) (by rw [hf990 5 0 (by decide) (by decide) (by decide) (by decide) (by decide) (by decide)]; exact hi4) (by omega) (by rw [hf990 6 0 (by decide) (by decide) (by decide) (by decide) (by decide) (by decide)]; exact hi6) (by rw [hf990 7 0 (by decide) (by decide) (by decide) (by decide) (by decide) (by decide), hf990 36 0 (by decide) (by decide) (by decide) (by decide) (by decide) (by decide)]; exact hi7) (by rw [hf990 101 0 (by decide) (by decide) (by decide) (by decide) (by decide) (by decide), hf990 1 0 (by decide) (by decide) (by decide) (by decide) (by decide) (by decide)]; exact hi8) (by rw [hf990 104 0 (by decide) (by decide) (by decide) (by decide) (by decide) (by decide), hf990 2 0 (by decide) (by decide) (by decide) (by decide) (by decide) (by decide)]; exact hi9) (by rw [hf990 112 0 (by decide) (by decide) (by decide) (by decide) (by decide) (by decide), hf990 5 0 (by decide) (by decide) (by decide) (by decide) (by decide) (by decide)]; exact hi10) (by rw [hf990 111 0 (by decide) (by decide) (by decide) (by decide) (by decide) (by decide), hf990 4 0 (by decide) (by decide) (by decide) (by decide) (by decide) (by decide)]; exact hi11) (by rw [hf990 114 0 (by decide) (by decide) (by decide) (by decide) (by decide) (by decide), hf990 6 0 (by decide) (by decide) (by decide) (by decide) (by decide) (by decide)]; exact hi12) (by rw [hf990 126 0 (by decide) (by decide) (by decide) (by decide) (by decide) (by decide)]; exact hi13) (by rw [hf990 122 0 (by decide) (by decide) (by decide) (by decide) (by decide) (by decide)]; exact hi14) (by (repeat (first | with_reducible assumption | (refine IJ_c (by decide) (by decide) (by decide) ?_) | (refine IJ_take (by omega) (by omega) ?_) | (refine IJ_how (by omega) ?_) | (refine IJ_by (by omega) ?_)))) hU t_q1 t_q12 t_q25 (by omega) (by omega) hG hS (lv_sub hl [0, 1, 2, 3, 4] rfl)
    · exfalso; omega
  · skip
    refine ty_iconst hx hb (1) dL_law_828 (by decide) (fun x995 h996 => ?_)
    refine lv_goto (tgt := 833) hx hb dL_law_829 (by decide) ?_
    refine cI (va_runV (C := RX8) (As := [.int x945, .int x952, .int x995]) (rest := []) ⟨hx, hb, hml, hown, hA⟩ (k_X8_dies l dC dI dA sz X Γ hU g q1 t_q1 x945 x952 x995   (by first | with_reducible assumption | omega) (by first | with_reducible assumption | omega) (by first | with_reducible assumption | omega)) ⟨callB_of 3 hA (al_A wd_3_236) rfl rfl rfl (hA _ wd_1_1) (hA _ wd_3_233) (by decide +kernel) ⟨Nat.le_of_ble_eq_true rfl, Nat.le_of_ble_eq_true rfl⟩, hA _ wd_3_234, hA _ wd_3_235⟩ ⟨bl, recv_X8 hE hG t_q1, fun U hU9 hW9 => ⟨rfl, by rw [hU9]; exact hG, hE.go hS hU9 hW9⟩⟩ rfl rfl hl.1 rfl (lv_room (Nat.le_of_ble_eq_true rfl)) dL_law_833 ⟨(Nat.le_trans (show kc + 0 ≤ 300000 by omega) (Nat.le_of_ble_eq_true rfl)), (Nat.le_trans (show ks + 0 ≤ 300000 by omega) (Nat.le_of_ble_eq_true rfl))⟩) hS (fun x999 u997 H locs w998 hG hS => ?_)
    have eu1000 := w998
    rw [eu1000] at hG
    refine lv_pop hx hb dL_law_836 rfl ?_
    refine lv_aload_n hx hb dL_law_837 rfl (lv_at hl 2 rfl) ?_
    refine lv_aload_n hx hb dL_law_838 rfl (lv_at hl 4 rfl) ?_
    refine lv_iload hx hb dL_law_839 (lv_at hl 0 rfl) ?_
    refine ty_iconst hx hb (1) dL_law_841 (by decide) (fun x1001 h1002 => ?_)
    refine ty_iadd hx hb dL_law_842 (fun x1003 h1004 => ?_)
    have h1005 := lw_ix (k := 1) h1002 h1004 hi0 hiL hLN (by decide)
    refine va_sld hx hb hXs hbl hbA hS (i := x1003) (ty_ix h1005.2) dL_law_843 ?_
    refine W.eq (g2 := F0 m 844 ls [.int (xs (i.toInt.toNat + 1)), .ref q12]) (by rw [lw_xs (xs := xs) h1005.1 hi0.1]) ?_
    clear h1005 h1004 h1002
    refine W.eq (g2 := F0 m 844 ls [.int x945, .ref q12]) (by rw [s946]) ?_
    refine lv_aload_n hx hb dL_law_844 rfl (lv_at hl 4 rfl) ?_
    refine lv_iload hx hb dL_law_845 (lv_at hl 0 rfl) ?_
    refine ty_iconst hx hb (2) dL_law_847 (by decide) (fun x1006 h1007 => ?_)
    refine ty_iadd hx hb dL_law_848 (fun x1008 h1009 => ?_)
    have h1010 := lw_ix (k := 2) h1007 h1009 hi0 hiL hLN (by decide)
    refine va_sld hx hb hXs hbl hbA hS (i := x1008) (ty_ix h1010.2) dL_law_849 ?_
    refine W.eq (g2 := F0 m 850 ls [.int (xs (i.toInt.toNat + 2)), .int x945, .ref q12]) (by rw [lw_xs (xs := xs) h1010.1 hi0.1]) ?_
    clear h1010 h1009 h1007
    refine W.eq (g2 := F0 m 850 ls [.int x952, .int x945, .ref q12]) (by rw [s953]) ?_
    refine lv_aload_n hx hb dL_law_850 rfl (lv_at hl 4 rfl) ?_
    refine lv_iload hx hb dL_law_851 (lv_at hl 0 rfl) ?_
    refine ty_iconst hx hb (3) dL_law_853 (by decide) (fun x1011 h1012 => ?_)
    refine ty_iadd hx hb dL_law_854 (fun x1013 h1014 => ?_)
    have h1015 := lw_ix (k := 3) h1012 h1014 hi0 hiL hLN (by decide)
    refine va_sld hx hb hXs hbl hbA hS (i := x1013) (ty_ix h1015.2) dL_law_855 ?_
    refine W.eq (g2 := F0 m 856 ls [.int (xs (i.toInt.toNat + 3)), .int x952, .int x945, .ref q12]) (by rw [lw_xs (xs := xs) h1015.1 hi0.1]) ?_
    clear h1015 h1014 h1012
    refine W.eq (g2 := F0 m 856 ls [.int x959, .int x952, .int x945, .ref q12]) (by rw [s960]) ?_
    refine ty_if_eq (tgt := 863) hx hb dL_law_856 (by decide) (fun c1016 => ?_) (fun c1016 => ?_)
    · skip
      refine ty_iconst hx hb (0) dL_law_863 (by decide) (fun x1017 h1018 => ?_)
      refine cI (va_runV (C := RX9) (As := [.int x945, .int x952, .int x1017]) (rest := []) ⟨hx, hb, hml, hown, hA⟩ (k_X9_dies l dC dI dA sz X Γ hU g q12 t_q12 x945 x952 x1017   (by first | with_reducible assumption | omega) (by first | with_reducible assumption | omega) (by first | with_reducible assumption | omega) (by (repeat (first | with_reducible assumption | (refine IJ_c (by decide) (by decide) (by decide) ?_) | (refine IJ_take (by omega) (by omega) ?_) | (refine IJ_how (by omega) ?_) | (refine IJ_by (by omega) ?_))))) ⟨callB_of 3 hA (al_A wd_5_205) rfl rfl rfl (hA _ wd_1_7) (hA _ wd_5_202) (by decide +kernel) ⟨Nat.le_of_ble_eq_true rfl, Nat.le_of_ble_eq_true rfl⟩, hA _ wd_5_203, hA _ wd_5_204⟩ ⟨bl, recv_X9 hE hG t_q12, fun U hU9 hW9 => ⟨rfl, by rw [hU9]; exact hG, hE.go hS hU9 hW9⟩⟩ rfl rfl hl.1 rfl (lv_room (Nat.le_of_ble_eq_true rfl)) dL_law_864 ⟨(Nat.le_trans (show kc + 0 ≤ 300000 by omega) (Nat.le_of_ble_eq_true rfl)), (Nat.le_trans (show ks + 0 ≤ 300000 by omega) (Nat.le_of_ble_eq_true rfl))⟩) hS (fun x1021 u1019 H locs w1020 hG hS => ?_)
      obtain ⟨hf1023, hq1022⟩ := w1020
      refine lv_pop hx hb dL_law_867 rfl ?_
      refine lv_goto (tgt := 1047) hx hb dL_law_868 (by decide) ?_
      obtain ⟨x1024, h1025⟩ : ∃ y : Int32, y = i + Int32.ofInt (6) := ⟨_, rfl⟩
      try have h1026 : x1024.toInt = i.toInt + (6) := ty_inc h1025 (by decide) (by omega) (by omega)
      refine lv_iinc (v := x1024) (lv' := [(4, .int x1024), (3, .ref q25), (2, .ref q12), (1, .ref q1), (0, .ref b)]) hx hb dL_law_1047 hl (k := 0) rfl h1025.symm (by decide) rfl (fun ls hl => ?_)
      refine lv_goto (tgt := 23) hx hb dL_law_1050 (by decide) ?_
      have hk1027 : u1019 4 0 = g 4 0 := hf1023 4 0 (by decide) (by decide) (by decide) (by decide) (by decide) (by decide)
      exact ih x1024 Γ u1019 (kc) (ks) _ _ ls (by omega) (by omega) (by rw [hf1023 1 0 (by decide) (by decide) (by decide) (by decide) (by decide) (by decide), hf1023 33 0 (by decide) (by decide) (by decide) (by decide) (by decide) (by decide)]; exact hi1) (by rw [hf1023 2 0 (by decide) (by decide) (by decide) (by decide) (by decide) (by decide), hf1023 34 0 (by decide) (by decide) (by decide) (by decide) (by decide) (by decide)]; exact hi2) (by rw [hf1023 3 0 (by decide) (by decide) (by decide) (by decide) (by decide) (by decide), hf1023 35 0 (by decide) (by decide) (by decide) (by decide) (by decide) (by decide)]; exact hi3) (by rw [hf1023 5 0 (by decide) (by decide) (by decide) (by decide) (by decide) (by decide)]; exact hi4) (by omega) (by rw [hf1023 6 0 (by decide) (by decide) (by decide) (by decide) (by decide) (by decide)]; exact hi6) (by rw [hf1023 7 0 (by decide) (by decide) (by decide) (by decide) (by decide) (by decide), hf1023 36 0 (by decide) (by decide) (by decide) (by decide) (by decide) (by decide)]; exact hi7) (by rw [hf1023 101 0 (by decide) (by decide) (by decide) (by decide) (by decide) (by decide), hf1023 1 0 (by decide) (by decide) (by decide) (by decide) (by decide) (by decide)]; exact hi8) (by rw [hf1023 104 0 (by decide) (by decide) (by decide) (by decide) (by decide) (by decide), hf1023 2 0 (by decide) (by decide) (by decide) (by decide) (by decide) (by decide)]; exact hi9) (by rw [hf1023 112 0 (by decide) (by decide) (by decide) (by decide) (by decide) (by decide), hf1023 5 0 (by decide) (by decide) (by decide) (by decide) (by decide) (by decide)]; exact hi10) (by rw [hf1023 111 0 (by decide) (by decide) (by decide) (by decide) (by decide) (by decide), hf1023 4 0 (by decide) (by decide) (by decide) (by decide) (by decide) (by decide)]; exact hi11) (by rw [hf1023 114 0 (by decide) (by decide) (by decide) (by decide) (by decide) (by decide), hf1023 6 0 (by decide) (by decide) (by decide) (by decide) (by decide) (by decide)]; exact hi12) (by rw [hf1023 126 0 (by decide) (by decide) (by decide) (by decide) (by decide) (by decide)]; exact hi13) (by rw [hf1023 122 0 (by decide) (by decide) (by decide) (by decide) (by decide) (by decide)]; exact hi14) (by (repeat (first | with_reducible assumption | (refine IJ_c (by decide) (by decide) (by decide) ?_) | (refine IJ_take (by omega) (by omega) ?_) | (refine IJ_how (by omega) ?_) | (refine IJ_by (by omega) ?_)))) hU t_q1 t_q12 t_q25 (by omega) (by omega) hG hS (lv_sub hl [0, 1, 2, 3, 4] rfl)
    · skip
      refine ty_iconst hx hb (1) dL_law_859 (by decide) (fun x1028 h1029 => ?_)
      refine lv_goto (tgt := 864) hx hb dL_law_860 (by decide) ?_
      refine cI (va_runV (C := RX9) (As := [.int x945, .int x952, .int x1028]) (rest := []) ⟨hx, hb, hml, hown, hA⟩ (k_X9_dies l dC dI dA sz X Γ hU g q12 t_q12 x945 x952 x1028   (by first | with_reducible assumption | omega) (by first | with_reducible assumption | omega) (by first | with_reducible assumption | omega) (by (repeat (first | with_reducible assumption | (refine IJ_c (by decide) (by decide) (by decide) ?_) | (refine IJ_take (by omega) (by omega) ?_) | (refine IJ_how (by omega) ?_) | (refine IJ_by (by omega) ?_))))) ⟨callB_of 3 hA (al_A wd_5_205) rfl rfl rfl (hA _ wd_1_7) (hA _ wd_5_202) (by decide +kernel) ⟨Nat.le_of_ble_eq_true rfl, Nat.le_of_ble_eq_true rfl⟩, hA _ wd_5_203, hA _ wd_5_204⟩ ⟨bl, recv_X9 hE hG t_q12, fun U hU9 hW9 => ⟨rfl, by rw [hU9]; exact hG, hE.go hS hU9 hW9⟩⟩ rfl rfl hl.1 rfl (lv_room (Nat.le_of_ble_eq_true rfl)) dL_law_864 ⟨(Nat.le_trans (show kc + 0 ≤ 300000 by omega) (Nat.le_of_ble_eq_true rfl)), (Nat.le_trans (show ks + 0 ≤ 300000 by omega) (Nat.le_of_ble_eq_true rfl))⟩) hS (fun x1032 u1030 H locs w1031 hG hS => ?_)
      obtain ⟨hf1034, hq1033⟩ := w1031
      refine lv_pop hx hb dL_law_867 rfl ?_
      refine lv_goto (tgt := 1047) hx hb dL_law_868 (by decide) ?_
      obtain ⟨x1035, h1036⟩ : ∃ y : Int32, y = i + Int32.ofInt (6) := ⟨_, rfl⟩
      try have h1037 : x1035.toInt = i.toInt + (6) := ty_inc h1036 (by decide) (by omega) (by omega)
      refine lv_iinc (v := x1035) (lv' := [(4, .int x1035), (3, .ref q25), (2, .ref q12), (1, .ref q1), (0, .ref b)]) hx hb dL_law_1047 hl (k := 0) rfl h1036.symm (by decide) rfl (fun ls hl => ?_)
      refine lv_goto (tgt := 23) hx hb dL_law_1050 (by decide) ?_
      have hk1038 : u1030 4 0 = g 4 0 := hf1034 4 0 (by decide) (by decide) (by decide) (by decide) (by decide) (by decide)
      exact ih x1035 Γ u1030 (kc) (ks) _ _ ls (by omega) (by omega) (by rw [hf1034 1 0 (by decide) (by decide) (by decide) (by decide) (by decide) (by decide), hf1034 33 0 (by decide) (by decide) (by decide) (by decide) (by decide) (by decide)]; exact hi1) (by rw [hf1034 2 0 (by decide) (by decide) (by decide) (by decide) (by decide) (by decide), hf1034 34 0 (by decide) (by decide) (by decide) (by decide) (by decide) (by decide)]; exact hi2) (by rw [hf1034 3 0 (by decide) (by decide) (by decide) (by decide) (by decide) (by decide), hf1034 35 0 (by decide) (by decide) (by decide) (by decide) (by decide) (by decide)]; exact hi3) (by rw [hf1034 5 0 (by decide) (by decide) (by decide) (by decide) (by decide) (by decide)]; exact hi4) (by omega) (by rw [hf1034 6 0 (by decide) (by decide) (by decide) (by decide) (by decide) (by decide)]; exact hi6) (by rw [hf1034 7 0 (by decide) (by decide) (by decide) (by decide) (by decide) (by decide), hf1034 36 0 (by decide) (by decide) (by decide) (by decide) (by decide) (by decide)]; exact hi7) (by rw [hf1034 101 0 (by decide) (by decide) (by decide) (by decide) (by decide) (by decide), hf1034 1 0 (by decide) (by decide) (by decide) (by decide) (by decide) (by decide)]; exact hi8) (by rw [hf1034 104 0 (by decide) (by decide) (by decide) (by decide) (by decide) (by decide), hf1034 2 0 (by decide) (by decide) (by decide) (by decide) (by decide) (by decide)]; exact hi9) (by rw [hf1034 112 0 (by decide) (by decide) (by decide) (by decide) (by decide) (by decide), hf1034 5 0 (by decide) (by decide) (by decide) (by decide) (by decide) (by decide)]; exact hi10) (by rw [hf1034 111 0 (by decide) (by decide) (by decide) (by decide) (by decide) (by decide), hf1034 4 0 (by decide) (by decide) (by decide) (by decide) (by decide) (by decide)]; exact hi11) (by rw [hf1034 114 0 (by decide) (by decide) (by decide) (by decide) (by decide) (by decide), hf1034 6 0 (by decide) (by decide) (by decide) (by decide) (by decide) (by decide)]; exact hi12) (by rw [hf1034 126 0 (by decide) (by decide) (by decide) (by decide) (by decide) (by decide)]; exact hi13) (by rw [hf1034 122 0 (by decide) (by decide) (by decide) (by decide) (by decide) (by decide)]; exact hi14) (by (repeat (first | with_reducible assumption | (refine IJ_c (by decide) (by decide) (by decide) ?_) | (refine IJ_take (by omega) (by omega) ?_) | (refine IJ_how (by omega) ?_) | (refine IJ_by (by omega) ?_)))) hU t_q1 t_q12 t_q25 (by omega) (by omega) hG hS (lv_sub hl [0, 1, 2, 3, 4] rfl)
set_option maxHeartbeats 40000000 in
set_option maxRecDepth 100000 in
/-- the law's case 19 -/
theorem law_c19 {p : Program} {e : Env} {s : State} {m : MethodId} {below : List Frame} {meth : Method} {c : Code} (l : Launch) (hl9 : l.stackTraces = false) {b L : Nat} {xs : Nat → Int32} (hLN : L ≤ 3072) (hx : p.tables.exec = Jvm.exec) (hb : c.code = code) (hr : meth.sig.returnType = ret) (hml : c.maxLocals = 7) (hown : s.vm.findClass R_law = some m.cls) (hA : ∀ w ∈ AL, w.before #[Value.ref b] s = true) (hXs : va_X b L xs s s.heap) (hbl : b < s.heap.size) (hlocks : meth.locks = false) {dC : Nat → ClassId} {dI : Nat → Nat → Nat} {dA : Nat → ClassId} {sz : Nat} (hE : en dC dI dA sz s) (hsz : sz = s.heap.size) (hbA : ¬ ty_A sz b) (X : va_W) (q1 q12 q25 : Nat) (n : Nat) (ih : LJ p l e s m below meth c b dC dI dA sz X q1 q12 q25 n) (i : Int32) (Γ : ty_G) (g : gh) (kc ks : Nat) (H : Heap) (locs : List Loc) (ls : Array Slot) (hm : (3073 - i.toInt : Int) < (n + 1 : Nat)) (hi0 : 0 ≤ i.toInt ∧ i.toInt ≤ 3072) (hi1 : g 1 0 = g 33 0 ∧ 0 ≤ g 1 0 ∧ g 1 0 ≤ 6) (hi2 : g 2 0 = g 34 0 ∧ 0 ≤ g 2 0 ∧ g 2 0 ≤ 10) (hi3 : g 3 0 = g 35 0 ∧ 0 ≤ g 3 0 ∧ g 3 0 ≤ 200) (hi4 : 0 ≤ g 5 0 ∧ g 5 0 ≤ 52) (hi5 : 0 ≤ g 4 0 ∧ g 4 0 ≤ i.toInt) (hi6 : 0 ≤ g 6 0 ∧ g 6 0 ≤ 300) (hi7 : 0 ≤ g 7 0 ∧ g 7 0 ≤ g 36 0 ∧ g 36 0 ≤ 9) (hi8 : g 101 0 = g 1 0) (hi9 : g 104 0 = g 2 0) (hi10 : g 112 0 = g 5 0) (hi11 : g 111 0 = g 4 0) (hi12 : g 114 0 = g 6 0) (hi13 : 0 ≤ g 126 0 ∧ g 126 0 ≤ 200) (hi14 : 0 ≤ g 122 0 ∧ g 122 0 ≤ 30) (hIJ : IJ g) (hU : Un Γ) (t_q1 : ty Γ q1 1) (t_q12 : ty Γ q12 30) (t_q25 : ty Γ q25 25) (hkc : kc ≤ 300 + i.toInt.toNat) (hks : ks ≤ 30000 + 28 * i.toInt.toNat) (hG : ty_ok (dC, dI) vwCl Γ (TP dA Γ g) sz X H) (hS : va_S (ty_A sz) s.heap H locs) (hl : lv_has ls 7 [(4, .int i), (3, .ref q25), (2, .ref q12), (1, .ref q1), (0, .ref b)]) (hiL : i.toInt + 6 ≤ (L : Int)) : W p l e room_1 s m #[Value.ref b] below meth c H locs kc ks (lw_Z below #[Value.ref b] s) (F0 m 871 ls []) := by
  refine lv_aload_n hx hb dL_law_871 rfl (lv_at hl 3 rfl) ?_
  refine lv_aload_n hx hb dL_law_872 rfl (lv_at hl 4 rfl) ?_
  refine lv_iload hx hb dL_law_873 (lv_at hl 0 rfl) ?_
  refine ty_iconst hx hb (1) dL_law_875 (by decide) (fun x1039 h1040 => ?_)
  refine ty_iadd hx hb dL_law_876 (fun x1041 h1042 => ?_)
  have h1043 := lw_ix (k := 1) h1040 h1042 hi0 hiL hLN (by decide)
  refine va_sld hx hb hXs hbl hbA hS (i := x1041) (ty_ix h1043.2) dL_law_877 ?_
  refine W.eq (g2 := F0 m 878 ls [.int (xs (i.toInt.toNat + 1)), .ref q1]) (by rw [lw_xs (xs := xs) h1043.1 hi0.1]) ?_
  clear h1043 h1042 h1040
  refine lv_topi (fun x1044 s1045 => ?_)
  refine lv_aload_n hx hb dL_law_878 rfl (lv_at hl 4 rfl) ?_
  refine lv_iload hx hb dL_law_879 (lv_at hl 0 rfl) ?_
  refine ty_iconst hx hb (2) dL_law_881 (by decide) (fun x1046 h1047 => ?_)
  refine ty_iadd hx hb dL_law_882 (fun x1048 h1049 => ?_)
  have h1050 := lw_ix (k := 2) h1047 h1049 hi0 hiL hLN (by decide)
  refine va_sld hx hb hXs hbl hbA hS (i := x1048) (ty_ix h1050.2) dL_law_883 ?_
  refine W.eq (g2 := F0 m 884 ls [.int (xs (i.toInt.toNat + 2)), .int x1044, .ref q1]) (by rw [lw_xs (xs := xs) h1050.1 hi0.1]) ?_
  clear h1050 h1049 h1047
  refine lv_topi (fun x1051 s1052 => ?_)
  refine cI (va_runV (C := RX8) (As := [.int x1044, .int x1051]) (rest := []) ⟨hx, hb, hml, hown, hA⟩ (k_X8_fees l dC dI dA sz X Γ hU g q1 t_q1 x1044 x1051   (by first | with_reducible assumption | omega)) ⟨callB_of 2 hA (al_A wd_4_4) rfl rfl rfl (hA _ wd_1_1) (hA _ wd_4_1) (by decide +kernel) ⟨Nat.le_of_ble_eq_true rfl, Nat.le_of_ble_eq_true rfl⟩, hA _ wd_4_2, hA _ wd_4_3⟩ ⟨bl, recv_X8 hE hG t_q1, fun U hU9 hW9 => ⟨rfl, by rw [hU9]; exact hG, hE.go hS hU9 hW9⟩⟩ rfl rfl hl.1 rfl (lv_room (Nat.le_of_ble_eq_true rfl)) dL_law_884 ⟨(Nat.le_trans (show kc + 0 ≤ 300000 by omega) (Nat.le_of_ble_eq_true rfl)), (Nat.le_trans (show ks + 0 ≤ 300000 by omega) (Nat.le_of_ble_eq_true rfl))⟩) hS (fun x1055 u1053 H locs w1054 hG hS => ?_)
  have hf1056 := w1054
  have hj1057 : IJ u1053 := IJ_cg (hf1056 126 0 (by decide) (by decide) (by decide)) (fun j => hf1056 132 j (by decide) (by decide) (by decide)) (fun j => hf1056 134 j (by decide) (by decide) (by decide)) (by (repeat (first | with_reducible assumption | (refine IJ_c (by decide) (by decide) (by decide) ?_) | (refine IJ_take (by omega) (by omega) ?_) | (refine IJ_how (by omega) ?_) | (refine IJ_by (by omega) ?_))))
  refine lv_pop hx hb dL_law_887 rfl ?_
  refine lv_aload_n hx hb dL_law_888 rfl (lv_at hl 2 rfl) ?_
  refine lv_aload_n hx hb dL_law_889 rfl (lv_at hl 4 rfl) ?_
  refine lv_iload hx hb dL_law_890 (lv_at hl 0 rfl) ?_
  refine ty_iconst hx hb (1) dL_law_892 (by decide) (fun x1058 h1059 => ?_)
  refine ty_iadd hx hb dL_law_893 (fun x1060 h1061 => ?_)
  have h1062 := lw_ix (k := 1) h1059 h1061 hi0 hiL hLN (by decide)
  refine va_sld hx hb hXs hbl hbA hS (i := x1060) (ty_ix h1062.2) dL_law_894 ?_
  refine W.eq (g2 := F0 m 895 ls [.int (xs (i.toInt.toNat + 1)), .ref q12]) (by rw [lw_xs (xs := xs) h1062.1 hi0.1]) ?_
  clear h1062 h1061 h1059
  refine W.eq (g2 := F0 m 895 ls [.int x1044, .ref q12]) (by rw [s1045]) ?_
  refine lv_aload_n hx hb dL_law_895 rfl (lv_at hl 4 rfl) ?_
  refine lv_iload hx hb dL_law_896 (lv_at hl 0 rfl) ?_
  refine ty_iconst hx hb (2) dL_law_898 (by decide) (fun x1063 h1064 => ?_)
  refine ty_iadd hx hb dL_law_899 (fun x1065 h1066 => ?_)
  have h1067 := lw_ix (k := 2) h1064 h1066 hi0 hiL hLN (by decide)
  refine va_sld hx hb hXs hbl hbA hS (i := x1065) (ty_ix h1067.2) dL_law_900 ?_
  refine W.eq (g2 := F0 m 901 ls [.int (xs (i.toInt.toNat + 2)), .int x1044, .ref q12]) (by rw [lw_xs (xs := xs) h1067.1 hi0.1]) ?_
  clear h1067 h1066 h1064
  refine W.eq (g2 := F0 m 901 ls [.int x1051, .int x1044, .ref q12]) (by rw [s1052]) ?_
  have hk1068 : u1053 104 0 = g 104 0 := hf1056 104 0 (by decide) (by decide) (by decide)
  refine cI (va_runV (C := RX9) (As := [.int x1044, .int x1051]) (rest := []) ⟨hx, hb, hml, hown, hA⟩ (k_X9_fees l dC dI dA sz X Γ hU u1053 q12 t_q12 x1044 x1051   (by first | with_reducible assumption | omega)) ⟨callB_of 2 hA (al_A wd_5_213) rfl rfl rfl (hA _ wd_1_7) (hA _ wd_5_210) (by decide +kernel) ⟨Nat.le_of_ble_eq_true rfl, Nat.le_of_ble_eq_true rfl⟩, hA _ wd_5_211, hA _ wd_5_212⟩ ⟨bl, recv_X9 hE hG t_q12, fun U hU9 hW9 => ⟨rfl, by rw [hU9]; exact hG, hE.go hS hU9 hW9⟩⟩ rfl rfl hl.1 rfl (lv_room (Nat.le_of_ble_eq_true rfl)) dL_law_901 ⟨(Nat.le_trans (show kc + 0 ≤ 300000 by omega) (Nat.le_of_ble_eq_true rfl)), (Nat.le_trans (show ks + 0 ≤ 300000 by omega) (Nat.le_of_ble_eq_true rfl))⟩) hS (fun x1071 u1069 H locs w1070 hG hS => ?_)
  have hf1072 := w1070
  have hj1073 : IJ u1069 := IJ_cg (hf1072 126 0 (by decide) (by decide)) (fun j => hf1072 132 j (by decide) (by decide)) (fun j => hf1072 134 j (by decide) (by decide)) (by (repeat (first | with_reducible assumption | (refine IJ_c (by decide) (by decide) (by decide) ?_) | (refine IJ_take (by omega) (by omega) ?_) | (refine IJ_how (by omega) ?_) | (refine IJ_by (by omega) ?_))))
  refine lv_pop hx hb dL_law_904 rfl ?_
  refine lv_goto (tgt := 1047) hx hb dL_law_905 (by decide) ?_
  obtain ⟨x1074, h1075⟩ : ∃ y : Int32, y = i + Int32.ofInt (6) := ⟨_, rfl⟩
  try have h1076 : x1074.toInt = i.toInt + (6) := ty_inc h1075 (by decide) (by omega) (by omega)
  refine lv_iinc (v := x1074) (lv' := [(4, .int x1074), (3, .ref q25), (2, .ref q12), (1, .ref q1), (0, .ref b)]) hx hb dL_law_1047 hl (k := 0) rfl h1075.symm (by decide) rfl (fun ls hl => ?_)
  refine lv_goto (tgt := 23) hx hb dL_law_1050 (by decide) ?_
  have hk1077 : u1069 4 0 = u1053 4 0 := hf1072 4 0 (by decide) (by decide)
  have hk1078 : u1053 4 0 = g 4 0 := hf1056 4 0 (by decide) (by decide) (by decide)
  exact ih x1074 Γ u1069 (kc) (ks) _ _ ls (by omega) (by omega) (by rw [hf1072 1 0 (by decide) (by decide), hf1056 1 0 (by decide) (by decide) (by decide), hf1072 33 0 (by decide) (by decide), hf1056 33 0 (by decide) (by decide) (by decide)]; exact hi1) (by rw [hf1072 2 0 (by decide) (by decide), hf1056 2 0 (by decide) (by decide) (by decide), hf1072 34 0 (by decide) (by decide), hf1056 34 0 (by decide) (by decide) (by decide)]; exact hi2) (by rw [hf1072 3 0 (by decide) (by decide), hf1056 3 0 (by decide) (by decide) (by decide), hf1072 35 0 (by decide) (by decide), hf1056 35 0 (by decide) (by decide) (by decide)]; exact hi3) (by rw [hf1072 5 0 (by decide) (by decide), hf1056 5 0 (by decide) (by decide) (by decide)]; exact hi4) (by omega) (by rw [hf1072 6 0 (by decide) (by decide), hf1056 6 0 (by decide) (by decide) (by decide)]; exact hi6) (by rw [hf1072 7 0 (by decide) (by decide), hf1056 7 0 (by decide) (by decide) (by decide), hf1072 36 0 (by decide) (by decide), hf1056 36 0 (by decide) (by decide) (by decide)]; exact hi7) (by rw [hf1072 101 0 (by decide) (by decide), hf1056 101 0 (by decide) (by decide) (by decide), hf1072 1 0 (by decide) (by decide), hf1056 1 0 (by decide) (by decide) (by decide)]; exact hi8) (by rw [hf1072 104 0 (by decide) (by decide), hf1056 104 0 (by decide) (by decide) (by decide), hf1072 2 0 (by decide) (by decide), hf1056 2 0 (by decide) (by decide) (by decide)]; exact hi9) (by rw [hf1072 112 0 (by decide) (by decide), hf1056 112 0 (by decide) (by decide) (by decide), hf1072 5 0 (by decide) (by decide), hf1056 5 0 (by decide) (by decide) (by decide)]; exact hi10) (by rw [hf1072 111 0 (by decide) (by decide), hf1056 111 0 (by decide) (by decide) (by decide), hf1072 4 0 (by decide) (by decide), hf1056 4 0 (by decide) (by decide) (by decide)]; exact hi11) (by rw [hf1072 114 0 (by decide) (by decide), hf1056 114 0 (by decide) (by decide) (by decide), hf1072 6 0 (by decide) (by decide), hf1056 6 0 (by decide) (by decide) (by decide)]; exact hi12) (by rw [hf1072 126 0 (by decide) (by decide), hf1056 126 0 (by decide) (by decide) (by decide)]; exact hi13) (by rw [hf1072 122 0 (by decide) (by decide), hf1056 122 0 (by decide) (by decide) (by decide)]; exact hi14) (by (repeat (first | with_reducible assumption | (refine IJ_c (by decide) (by decide) (by decide) ?_) | (refine IJ_take (by omega) (by omega) ?_) | (refine IJ_how (by omega) ?_) | (refine IJ_by (by omega) ?_)))) hU t_q1 t_q12 t_q25 (by omega) (by omega) hG hS (lv_sub hl [0, 1, 2, 3, 4] rfl)
set_option maxHeartbeats 40000000 in
set_option maxRecDepth 100000 in
/-- the law's case 20 -/
theorem law_c20 {p : Program} {e : Env} {s : State} {m : MethodId} {below : List Frame} {meth : Method} {c : Code} (l : Launch) (hl9 : l.stackTraces = false) {b L : Nat} {xs : Nat → Int32} (hLN : L ≤ 3072) (hx : p.tables.exec = Jvm.exec) (hb : c.code = code) (hr : meth.sig.returnType = ret) (hml : c.maxLocals = 7) (hown : s.vm.findClass R_law = some m.cls) (hA : ∀ w ∈ AL, w.before #[Value.ref b] s = true) (hXs : va_X b L xs s s.heap) (hbl : b < s.heap.size) (hlocks : meth.locks = false) {dC : Nat → ClassId} {dI : Nat → Nat → Nat} {dA : Nat → ClassId} {sz : Nat} (hE : en dC dI dA sz s) (hsz : sz = s.heap.size) (hbA : ¬ ty_A sz b) (X : va_W) (q1 q12 q25 : Nat) (n : Nat) (ih : LJ p l e s m below meth c b dC dI dA sz X q1 q12 q25 n) (i : Int32) (Γ : ty_G) (g : gh) (kc ks : Nat) (H : Heap) (locs : List Loc) (ls : Array Slot) (hm : (3073 - i.toInt : Int) < (n + 1 : Nat)) (hi0 : 0 ≤ i.toInt ∧ i.toInt ≤ 3072) (hi1 : g 1 0 = g 33 0 ∧ 0 ≤ g 1 0 ∧ g 1 0 ≤ 6) (hi2 : g 2 0 = g 34 0 ∧ 0 ≤ g 2 0 ∧ g 2 0 ≤ 10) (hi3 : g 3 0 = g 35 0 ∧ 0 ≤ g 3 0 ∧ g 3 0 ≤ 200) (hi4 : 0 ≤ g 5 0 ∧ g 5 0 ≤ 52) (hi5 : 0 ≤ g 4 0 ∧ g 4 0 ≤ i.toInt) (hi6 : 0 ≤ g 6 0 ∧ g 6 0 ≤ 300) (hi7 : 0 ≤ g 7 0 ∧ g 7 0 ≤ g 36 0 ∧ g 36 0 ≤ 9) (hi8 : g 101 0 = g 1 0) (hi9 : g 104 0 = g 2 0) (hi10 : g 112 0 = g 5 0) (hi11 : g 111 0 = g 4 0) (hi12 : g 114 0 = g 6 0) (hi13 : 0 ≤ g 126 0 ∧ g 126 0 ≤ 200) (hi14 : 0 ≤ g 122 0 ∧ g 122 0 ≤ 30) (hIJ : IJ g) (hU : Un Γ) (t_q1 : ty Γ q1 1) (t_q12 : ty Γ q12 30) (t_q25 : ty Γ q25 25) (hkc : kc ≤ 300 + i.toInt.toNat) (hks : ks ≤ 30000 + 28 * i.toInt.toNat) (hG : ty_ok (dC, dI) vwCl Γ (TP dA Γ g) sz X H) (hS : va_S (ty_A sz) s.heap H locs) (hl : lv_has ls 7 [(4, .int i), (3, .ref q25), (2, .ref q12), (1, .ref q1), (0, .ref b)]) (hiL : i.toInt + 6 ≤ (L : Int)) : W p l e room_1 s m #[Value.ref b] below meth c H locs kc ks (lw_Z below #[Value.ref b] s) (F0 m 908 ls []) := by
  refine lv_aload_n hx hb dL_law_908 rfl (lv_at hl 3 rfl) ?_
  refine lv_aload_n hx hb dL_law_909 rfl (lv_at hl 4 rfl) ?_
  refine lv_iload hx hb dL_law_910 (lv_at hl 0 rfl) ?_
  refine ty_iconst hx hb (1) dL_law_912 (by decide) (fun x1079 h1080 => ?_)
  refine ty_iadd hx hb dL_law_913 (fun x1081 h1082 => ?_)
  have h1083 := lw_ix (k := 1) h1080 h1082 hi0 hiL hLN (by decide)
  refine va_sld hx hb hXs hbl hbA hS (i := x1081) (ty_ix h1083.2) dL_law_914 ?_
  refine W.eq (g2 := F0 m 915 ls [.int (xs (i.toInt.toNat + 1)), .ref q1]) (by rw [lw_xs (xs := xs) h1083.1 hi0.1]) ?_
  clear h1083 h1082 h1080
  refine lv_topi (fun x1084 s1085 => ?_)
  refine lv_aload_n hx hb dL_law_915 rfl (lv_at hl 4 rfl) ?_
  refine lv_iload hx hb dL_law_916 (lv_at hl 0 rfl) ?_
  refine ty_iconst hx hb (2) dL_law_918 (by decide) (fun x1086 h1087 => ?_)
  refine ty_iadd hx hb dL_law_919 (fun x1088 h1089 => ?_)
  have h1090 := lw_ix (k := 2) h1087 h1089 hi0 hiL hLN (by decide)
  refine va_sld hx hb hXs hbl hbA hS (i := x1088) (ty_ix h1090.2) dL_law_920 ?_
  refine W.eq (g2 := F0 m 921 ls [.int (xs (i.toInt.toNat + 2)), .int x1084, .ref q1]) (by rw [lw_xs (xs := xs) h1090.1 hi0.1]) ?_
  clear h1090 h1089 h1087
  refine lv_topi (fun x1091 s1092 => ?_)
  refine cI (va_runV (C := RX8) (As := [.int x1084, .int x1091]) (rest := []) ⟨hx, hb, hml, hown, hA⟩ (k_X8_party l dC dI dA sz X Γ hU g q1 t_q1 x1084 x1091   (by first | with_reducible assumption | omega)) ⟨callB_of 2 hA (al_A wd_4_33) rfl rfl rfl (hA _ wd_1_1) (hA _ wd_4_30) (by decide +kernel) ⟨Nat.le_of_ble_eq_true rfl, Nat.le_of_ble_eq_true rfl⟩, hA _ wd_4_31, hA _ wd_4_32⟩ ⟨bl, recv_X8 hE hG t_q1, fun U hU9 hW9 => ⟨rfl, by rw [hU9]; exact hG, hE.go hS hU9 hW9⟩⟩ rfl rfl hl.1 rfl (lv_room (Nat.le_of_ble_eq_true rfl)) dL_law_921 ⟨(Nat.le_trans (show kc + 0 ≤ 300000 by omega) (Nat.le_of_ble_eq_true rfl)), (Nat.le_trans (show ks + 0 ≤ 300000 by omega) (Nat.le_of_ble_eq_true rfl))⟩) hS (fun x1095 u1093 H locs w1094 hG hS => ?_)
  have eu1096 := w1094
  rw [eu1096] at hG
  refine lv_pop hx hb dL_law_924 rfl ?_
  refine lv_aload_n hx hb dL_law_925 rfl (lv_at hl 2 rfl) ?_
  refine lv_aload_n hx hb dL_law_926 rfl (lv_at hl 4 rfl) ?_
  refine lv_iload hx hb dL_law_927 (lv_at hl 0 rfl) ?_
  refine ty_iconst hx hb (1) dL_law_929 (by decide) (fun x1097 h1098 => ?_)
  refine ty_iadd hx hb dL_law_930 (fun x1099 h1100 => ?_)
  have h1101 := lw_ix (k := 1) h1098 h1100 hi0 hiL hLN (by decide)
  refine va_sld hx hb hXs hbl hbA hS (i := x1099) (ty_ix h1101.2) dL_law_931 ?_
  refine W.eq (g2 := F0 m 932 ls [.int (xs (i.toInt.toNat + 1)), .ref q12]) (by rw [lw_xs (xs := xs) h1101.1 hi0.1]) ?_
  clear h1101 h1100 h1098
  refine W.eq (g2 := F0 m 932 ls [.int x1084, .ref q12]) (by rw [s1085]) ?_
  refine lv_aload_n hx hb dL_law_932 rfl (lv_at hl 4 rfl) ?_
  refine lv_iload hx hb dL_law_933 (lv_at hl 0 rfl) ?_
  refine ty_iconst hx hb (2) dL_law_935 (by decide) (fun x1102 h1103 => ?_)
  refine ty_iadd hx hb dL_law_936 (fun x1104 h1105 => ?_)
  have h1106 := lw_ix (k := 2) h1103 h1105 hi0 hiL hLN (by decide)
  refine va_sld hx hb hXs hbl hbA hS (i := x1104) (ty_ix h1106.2) dL_law_937 ?_
  refine W.eq (g2 := F0 m 938 ls [.int (xs (i.toInt.toNat + 2)), .int x1084, .ref q12]) (by rw [lw_xs (xs := xs) h1106.1 hi0.1]) ?_
  clear h1106 h1105 h1103
  refine W.eq (g2 := F0 m 938 ls [.int x1091, .int x1084, .ref q12]) (by rw [s1092]) ?_
  refine cI (va_runV (C := RX9) (As := [.int x1084, .int x1091]) (rest := []) ⟨hx, hb, hml, hown, hA⟩ (k_X9_party l dC dI dA sz X Γ hU g q12 t_q12 x1084 x1091   (by first | with_reducible assumption | omega) (by first | with_reducible assumption | omega)) ⟨callB_of 2 hA (al_A wd_5_226) rfl rfl rfl (hA _ wd_1_7) (hA _ wd_5_223) (by decide +kernel) ⟨Nat.le_of_ble_eq_true rfl, Nat.le_of_ble_eq_true rfl⟩, hA _ wd_5_224, hA _ wd_5_225⟩ ⟨bl, recv_X9 hE hG t_q12, fun U hU9 hW9 => ⟨rfl, by rw [hU9]; exact hG, hE.go hS hU9 hW9⟩⟩ rfl rfl hl.1 rfl (lv_room (Nat.le_of_ble_eq_true rfl)) dL_law_938 ⟨(Nat.le_trans (show kc + 0 ≤ 300000 by omega) (Nat.le_of_ble_eq_true rfl)), (Nat.le_trans (show ks + 0 ≤ 300000 by omega) (Nat.le_of_ble_eq_true rfl))⟩) hS (fun x1109 u1107 H locs w1108 hG hS => ?_)
  have hf1110 := w1108
  have hj1111 : IJ u1107 := IJ_cg (hf1110 126 0 (by decide)) (fun j => hf1110 132 j (by decide)) (fun j => hf1110 134 j (by decide)) (by (repeat (first | with_reducible assumption | (refine IJ_c (by decide) (by decide) (by decide) ?_) | (refine IJ_take (by omega) (by omega) ?_) | (refine IJ_how (by omega) ?_) | (refine IJ_by (by omega) ?_))))
  refine lv_pop hx hb dL_law_941 rfl ?_
  refine lv_goto (tgt := 1047) hx hb dL_law_942 (by decide) ?_
  obtain ⟨x1112, h1113⟩ : ∃ y : Int32, y = i + Int32.ofInt (6) := ⟨_, rfl⟩
  try have h1114 : x1112.toInt = i.toInt + (6) := ty_inc h1113 (by decide) (by omega) (by omega)
  refine lv_iinc (v := x1112) (lv' := [(4, .int x1112), (3, .ref q25), (2, .ref q12), (1, .ref q1), (0, .ref b)]) hx hb dL_law_1047 hl (k := 0) rfl h1113.symm (by decide) rfl (fun ls hl => ?_)
  refine lv_goto (tgt := 23) hx hb dL_law_1050 (by decide) ?_
  have hk1115 : u1107 4 0 = g 4 0 := hf1110 4 0 (by decide)
  exact ih x1112 Γ u1107 (kc) (ks) _ _ ls (by omega) (by omega) (by rw [hf1110 1 0 (by decide), hf1110 33 0 (by decide)]; exact hi1) (by rw [hf1110 2 0 (by decide), hf1110 34 0 (by decide)]; exact hi2) (by rw [hf1110 3 0 (by decide), hf1110 35 0 (by decide)]; exact hi3) (by rw [hf1110 5 0 (by decide)]; exact hi4) (by omega) (by rw [hf1110 6 0 (by decide)]; exact hi6) (by rw [hf1110 7 0 (by decide), hf1110 36 0 (by decide)]; exact hi7) (by rw [hf1110 101 0 (by decide), hf1110 1 0 (by decide)]; exact hi8) (by rw [hf1110 104 0 (by decide), hf1110 2 0 (by decide)]; exact hi9) (by rw [hf1110 112 0 (by decide), hf1110 5 0 (by decide)]; exact hi10) (by rw [hf1110 111 0 (by decide), hf1110 4 0 (by decide)]; exact hi11) (by rw [hf1110 114 0 (by decide), hf1110 6 0 (by decide)]; exact hi12) (by rw [hf1110 126 0 (by decide)]; exact hi13) (by rw [hf1110 122 0 (by decide)]; exact hi14) (by (repeat (first | with_reducible assumption | (refine IJ_c (by decide) (by decide) (by decide) ?_) | (refine IJ_take (by omega) (by omega) ?_) | (refine IJ_how (by omega) ?_) | (refine IJ_by (by omega) ?_)))) hU t_q1 t_q12 t_q25 (by omega) (by omega) hG hS (lv_sub hl [0, 1, 2, 3, 4] rfl)
set_option maxHeartbeats 40000000 in
set_option maxRecDepth 100000 in
/-- the law's case 21 -/
theorem law_c21 {p : Program} {e : Env} {s : State} {m : MethodId} {below : List Frame} {meth : Method} {c : Code} (l : Launch) (hl9 : l.stackTraces = false) {b L : Nat} {xs : Nat → Int32} (hLN : L ≤ 3072) (hx : p.tables.exec = Jvm.exec) (hb : c.code = code) (hr : meth.sig.returnType = ret) (hml : c.maxLocals = 7) (hown : s.vm.findClass R_law = some m.cls) (hA : ∀ w ∈ AL, w.before #[Value.ref b] s = true) (hXs : va_X b L xs s s.heap) (hbl : b < s.heap.size) (hlocks : meth.locks = false) {dC : Nat → ClassId} {dI : Nat → Nat → Nat} {dA : Nat → ClassId} {sz : Nat} (hE : en dC dI dA sz s) (hsz : sz = s.heap.size) (hbA : ¬ ty_A sz b) (X : va_W) (q1 q12 q25 : Nat) (n : Nat) (ih : LJ p l e s m below meth c b dC dI dA sz X q1 q12 q25 n) (i : Int32) (Γ : ty_G) (g : gh) (kc ks : Nat) (H : Heap) (locs : List Loc) (ls : Array Slot) (hm : (3073 - i.toInt : Int) < (n + 1 : Nat)) (hi0 : 0 ≤ i.toInt ∧ i.toInt ≤ 3072) (hi1 : g 1 0 = g 33 0 ∧ 0 ≤ g 1 0 ∧ g 1 0 ≤ 6) (hi2 : g 2 0 = g 34 0 ∧ 0 ≤ g 2 0 ∧ g 2 0 ≤ 10) (hi3 : g 3 0 = g 35 0 ∧ 0 ≤ g 3 0 ∧ g 3 0 ≤ 200) (hi4 : 0 ≤ g 5 0 ∧ g 5 0 ≤ 52) (hi5 : 0 ≤ g 4 0 ∧ g 4 0 ≤ i.toInt) (hi6 : 0 ≤ g 6 0 ∧ g 6 0 ≤ 300) (hi7 : 0 ≤ g 7 0 ∧ g 7 0 ≤ g 36 0 ∧ g 36 0 ≤ 9) (hi8 : g 101 0 = g 1 0) (hi9 : g 104 0 = g 2 0) (hi10 : g 112 0 = g 5 0) (hi11 : g 111 0 = g 4 0) (hi12 : g 114 0 = g 6 0) (hi13 : 0 ≤ g 126 0 ∧ g 126 0 ≤ 200) (hi14 : 0 ≤ g 122 0 ∧ g 122 0 ≤ 30) (hIJ : IJ g) (hU : Un Γ) (t_q1 : ty Γ q1 1) (t_q12 : ty Γ q12 30) (t_q25 : ty Γ q25 25) (hkc : kc ≤ 300 + i.toInt.toNat) (hks : ks ≤ 30000 + 28 * i.toInt.toNat) (hG : ty_ok (dC, dI) vwCl Γ (TP dA Γ g) sz X H) (hS : va_S (ty_A sz) s.heap H locs) (hl : lv_has ls 7 [(4, .int i), (3, .ref q25), (2, .ref q12), (1, .ref q1), (0, .ref b)]) (hiL : i.toInt + 6 ≤ (L : Int)) : W p l e room_1 s m #[Value.ref b] below meth c H locs kc ks (lw_Z below #[Value.ref b] s) (F0 m 945 ls []) := by
  refine lv_aload_n hx hb dL_law_945 rfl (lv_at hl 3 rfl) ?_
  refine lv_aload_n hx hb dL_law_946 rfl (lv_at hl 4 rfl) ?_
  refine lv_iload hx hb dL_law_947 (lv_at hl 0 rfl) ?_
  refine ty_iconst hx hb (1) dL_law_949 (by decide) (fun x1116 h1117 => ?_)
  refine ty_iadd hx hb dL_law_950 (fun x1118 h1119 => ?_)
  have h1120 := lw_ix (k := 1) h1117 h1119 hi0 hiL hLN (by decide)
  refine va_sld hx hb hXs hbl hbA hS (i := x1118) (ty_ix h1120.2) dL_law_951 ?_
  refine W.eq (g2 := F0 m 952 ls [.int (xs (i.toInt.toNat + 1)), .ref q1]) (by rw [lw_xs (xs := xs) h1120.1 hi0.1]) ?_
  clear h1120 h1119 h1117
  refine lv_topi (fun x1121 s1122 => ?_)
  refine lv_aload_n hx hb dL_law_952 rfl (lv_at hl 4 rfl) ?_
  refine lv_iload hx hb dL_law_953 (lv_at hl 0 rfl) ?_
  refine ty_iconst hx hb (2) dL_law_955 (by decide) (fun x1123 h1124 => ?_)
  refine ty_iadd hx hb dL_law_956 (fun x1125 h1126 => ?_)
  have h1127 := lw_ix (k := 2) h1124 h1126 hi0 hiL hLN (by decide)
  refine va_sld hx hb hXs hbl hbA hS (i := x1125) (ty_ix h1127.2) dL_law_957 ?_
  refine W.eq (g2 := F0 m 958 ls [.int (xs (i.toInt.toNat + 2)), .int x1121, .ref q1]) (by rw [lw_xs (xs := xs) h1127.1 hi0.1]) ?_
  clear h1127 h1126 h1124
  refine lv_topi (fun x1128 s1129 => ?_)
  refine lv_aload_n hx hb dL_law_958 rfl (lv_at hl 1 rfl) ?_
  refine vx_calli (vx_runSX (As := [.ref q1, .int x1121, .int x1128, .ref q25]) (rest := []) ⟨hx, hb, hml, hown, hA⟩ (k_L_of l hl9 dC dI dA sz X Γ hU g q1 t_q1 x1121 x1128 q25 t_q25 (by omega)) (vx_cwSW 4 hA (al_s4 (al wt_4_52 rfl) wd_4_50 wd_4_51 wd_1_0) rfl rfl rfl (by decide +kernel) ⟨Nat.le_of_ble_eq_true rfl, Nat.le_of_ble_eq_true rfl⟩) ⟨bl, fun U hU9 hW9 => ⟨rfl, by rw [hU9]; exact hG, hE.go hS hU9 hW9⟩⟩ rfl rfl hl.1 rfl (lv_room (Nat.le_of_ble_eq_true rfl)) dL_law_959 ⟨(Nat.le_trans (show kc + 1 ≤ 300000 by omega) (Nat.le_of_ble_eq_true rfl)), (Nat.le_trans (show ks + 6 ≤ 300000 by omega) (Nat.le_of_ble_eq_true rfl))⟩) hS (fun _ _ h => h) (fun _ h => h) (fun _ _ h => h) (fun E ce q9 u t H1 locs1 ht _ hp hB _ _ hS hce hcv hcl => hp.elim) (fun x1130 u1131 t9 H locs ht9 _ w1132 hB _ _ hS => ?_)
  have hG : ty_ok (dC, dI) vwCl Γ (TP dA Γ u1131) sz X H := by rw [← ht9]; exact hB
  rw [show u1131 = g from w1132] at hG
  clear hB
  refine lv_istore (lv' := [(5, .int x1130), (4, .int i), (3, .ref q25), (2, .ref q12), (1, .ref q1), (0, .ref b)]) hx hb dL_law_962 hl (by decide) rfl (fun ls hl => ?_)
  refine lv_aload_n hx hb dL_law_964 rfl (lv_at hl 3 rfl) ?_
  refine lv_aload_n hx hb dL_law_965 rfl (lv_at hl 5 rfl) ?_
  refine lv_iload hx hb dL_law_966 (lv_at hl 1 rfl) ?_
  refine ty_iconst hx hb (1) dL_law_968 (by decide) (fun x1133 h1134 => ?_)
  refine ty_iadd hx hb dL_law_969 (fun x1135 h1136 => ?_)
  have h1137 := lw_ix (k := 1) h1134 h1136 hi0 hiL hLN (by decide)
  refine va_sld hx hb hXs hbl hbA hS (i := x1135) (ty_ix h1137.2) dL_law_970 ?_
  refine W.eq (g2 := F0 m 971 ls [.int (xs (i.toInt.toNat + 1)), .ref q12]) (by rw [lw_xs (xs := xs) h1137.1 hi0.1]) ?_
  clear h1137 h1136 h1134
  refine W.eq (g2 := F0 m 971 ls [.int x1121, .ref q12]) (by rw [s1122]) ?_
  refine lv_aload_n hx hb dL_law_971 rfl (lv_at hl 5 rfl) ?_
  refine lv_iload hx hb dL_law_972 (lv_at hl 1 rfl) ?_
  refine ty_iconst hx hb (2) dL_law_974 (by decide) (fun x1138 h1139 => ?_)
  refine ty_iadd hx hb dL_law_975 (fun x1140 h1141 => ?_)
  have h1142 := lw_ix (k := 2) h1139 h1141 hi0 hiL hLN (by decide)
  refine va_sld hx hb hXs hbl hbA hS (i := x1140) (ty_ix h1142.2) dL_law_976 ?_
  refine W.eq (g2 := F0 m 977 ls [.int (xs (i.toInt.toNat + 2)), .int x1121, .ref q12]) (by rw [lw_xs (xs := xs) h1142.1 hi0.1]) ?_
  clear h1142 h1141 h1139
  refine W.eq (g2 := F0 m 977 ls [.int x1128, .int x1121, .ref q12]) (by rw [s1129]) ?_
  refine cI (va_runV (C := RX9) (As := [.int x1121, .int x1128]) (rest := []) ⟨hx, hb, hml, hown, hA⟩ (k_X9_of l dC dI dA sz X Γ hU g q12 t_q12 x1121 x1128   (by first | with_reducible assumption | omega)) ⟨callB_of 2 hA (al_A wd_5_230) rfl rfl rfl (hA _ wd_1_7) (hA _ wd_5_227) (by decide +kernel) ⟨Nat.le_of_ble_eq_true rfl, Nat.le_of_ble_eq_true rfl⟩, hA _ wd_5_228, hA _ wd_5_229⟩ ⟨bl, recv_X9 hE hG t_q12, fun U hU9 hW9 => ⟨rfl, by rw [hU9]; exact hG, hE.go hS hU9 hW9⟩⟩ rfl rfl hl.1 rfl (lv_room (Nat.le_of_ble_eq_true rfl)) dL_law_977 ⟨(Nat.le_trans (show (kc + 1) + 0 ≤ 300000 by omega) (Nat.le_of_ble_eq_true rfl)), (Nat.le_trans (show (ks + 6) + 0 ≤ 300000 by omega) (Nat.le_of_ble_eq_true rfl))⟩) hS (fun x1145 u1143 H locs w1144 hG hS => ?_)
  have hf1146 := w1144
  have hj1147 : IJ u1143 := IJ_cg (hf1146 126 0 (by decide)) (fun j => hf1146 132 j (by decide)) (fun j => hf1146 134 j (by decide)) (by (repeat (first | with_reducible assumption | (refine IJ_c (by decide) (by decide) (by decide) ?_) | (refine IJ_take (by omega) (by omega) ?_) | (refine IJ_how (by omega) ?_) | (refine IJ_by (by omega) ?_))))
  refine lv_istore (lv' := [(6, .int x1145), (5, .int x1130), (4, .int i), (3, .ref q25), (2, .ref q12), (1, .ref q1), (0, .ref b)]) hx hb dL_law_980 hl (by decide) rfl (fun ls hl => ?_)
  refine lv_goto (tgt := 1047) hx hb dL_law_982 (by decide) ?_
  obtain ⟨x1148, h1149⟩ : ∃ y : Int32, y = i + Int32.ofInt (6) := ⟨_, rfl⟩
  try have h1150 : x1148.toInt = i.toInt + (6) := ty_inc h1149 (by decide) (by omega) (by omega)
  refine lv_iinc (v := x1148) (lv' := [(4, .int x1148), (6, .int x1145), (5, .int x1130), (3, .ref q25), (2, .ref q12), (1, .ref q1), (0, .ref b)]) hx hb dL_law_1047 hl (k := 2) rfl h1149.symm (by decide) rfl (fun ls hl => ?_)
  refine lv_goto (tgt := 23) hx hb dL_law_1050 (by decide) ?_
  have hk1151 : u1143 4 0 = g 4 0 := hf1146 4 0 (by decide)
  exact ih x1148 Γ u1143 ((kc + 1)) ((ks + 6)) _ _ ls (by omega) (by omega) (by rw [hf1146 1 0 (by decide), hf1146 33 0 (by decide)]; exact hi1) (by rw [hf1146 2 0 (by decide), hf1146 34 0 (by decide)]; exact hi2) (by rw [hf1146 3 0 (by decide), hf1146 35 0 (by decide)]; exact hi3) (by rw [hf1146 5 0 (by decide)]; exact hi4) (by omega) (by rw [hf1146 6 0 (by decide)]; exact hi6) (by rw [hf1146 7 0 (by decide), hf1146 36 0 (by decide)]; exact hi7) (by rw [hf1146 101 0 (by decide), hf1146 1 0 (by decide)]; exact hi8) (by rw [hf1146 104 0 (by decide), hf1146 2 0 (by decide)]; exact hi9) (by rw [hf1146 112 0 (by decide), hf1146 5 0 (by decide)]; exact hi10) (by rw [hf1146 111 0 (by decide), hf1146 4 0 (by decide)]; exact hi11) (by rw [hf1146 114 0 (by decide), hf1146 6 0 (by decide)]; exact hi12) (by rw [hf1146 126 0 (by decide)]; exact hi13) (by rw [hf1146 122 0 (by decide)]; exact hi14) (by (repeat (first | with_reducible assumption | (refine IJ_c (by decide) (by decide) (by decide) ?_) | (refine IJ_take (by omega) (by omega) ?_) | (refine IJ_how (by omega) ?_) | (refine IJ_by (by omega) ?_)))) hU t_q1 t_q12 t_q25 (by omega) (by omega) hG hS (lv_sub hl [0, 3, 4, 5, 6] rfl)
set_option maxHeartbeats 40000000 in
set_option maxRecDepth 100000 in
/-- the law's case 22 -/
theorem law_c22 {p : Program} {e : Env} {s : State} {m : MethodId} {below : List Frame} {meth : Method} {c : Code} (l : Launch) (hl9 : l.stackTraces = false) {b L : Nat} {xs : Nat → Int32} (hLN : L ≤ 3072) (hx : p.tables.exec = Jvm.exec) (hb : c.code = code) (hr : meth.sig.returnType = ret) (hml : c.maxLocals = 7) (hown : s.vm.findClass R_law = some m.cls) (hA : ∀ w ∈ AL, w.before #[Value.ref b] s = true) (hXs : va_X b L xs s s.heap) (hbl : b < s.heap.size) (hlocks : meth.locks = false) {dC : Nat → ClassId} {dI : Nat → Nat → Nat} {dA : Nat → ClassId} {sz : Nat} (hE : en dC dI dA sz s) (hsz : sz = s.heap.size) (hbA : ¬ ty_A sz b) (X : va_W) (q1 q12 q25 : Nat) (n : Nat) (ih : LJ p l e s m below meth c b dC dI dA sz X q1 q12 q25 n) (i : Int32) (Γ : ty_G) (g : gh) (kc ks : Nat) (H : Heap) (locs : List Loc) (ls : Array Slot) (hm : (3073 - i.toInt : Int) < (n + 1 : Nat)) (hi0 : 0 ≤ i.toInt ∧ i.toInt ≤ 3072) (hi1 : g 1 0 = g 33 0 ∧ 0 ≤ g 1 0 ∧ g 1 0 ≤ 6) (hi2 : g 2 0 = g 34 0 ∧ 0 ≤ g 2 0 ∧ g 2 0 ≤ 10) (hi3 : g 3 0 = g 35 0 ∧ 0 ≤ g 3 0 ∧ g 3 0 ≤ 200) (hi4 : 0 ≤ g 5 0 ∧ g 5 0 ≤ 52) (hi5 : 0 ≤ g 4 0 ∧ g 4 0 ≤ i.toInt) (hi6 : 0 ≤ g 6 0 ∧ g 6 0 ≤ 300) (hi7 : 0 ≤ g 7 0 ∧ g 7 0 ≤ g 36 0 ∧ g 36 0 ≤ 9) (hi8 : g 101 0 = g 1 0) (hi9 : g 104 0 = g 2 0) (hi10 : g 112 0 = g 5 0) (hi11 : g 111 0 = g 4 0) (hi12 : g 114 0 = g 6 0) (hi13 : 0 ≤ g 126 0 ∧ g 126 0 ≤ 200) (hi14 : 0 ≤ g 122 0 ∧ g 122 0 ≤ 30) (hIJ : IJ g) (hU : Un Γ) (t_q1 : ty Γ q1 1) (t_q12 : ty Γ q12 30) (t_q25 : ty Γ q25 25) (hkc : kc ≤ 300 + i.toInt.toNat) (hks : ks ≤ 30000 + 28 * i.toInt.toNat) (hG : ty_ok (dC, dI) vwCl Γ (TP dA Γ g) sz X H) (hS : va_S (ty_A sz) s.heap H locs) (hl : lv_has ls 7 [(4, .int i), (3, .ref q25), (2, .ref q12), (1, .ref q1), (0, .ref b)]) (hiL : i.toInt + 6 ≤ (L : Int)) : W p l e room_1 s m #[Value.ref b] below meth c H locs kc ks (lw_Z below #[Value.ref b] s) (F0 m 985 ls []) := by
  refine lv_aload_n hx hb dL_law_985 rfl (lv_at hl 3 rfl) ?_
  refine lv_aload_n hx hb dL_law_986 rfl (lv_at hl 4 rfl) ?_
  refine lv_iload hx hb dL_law_987 (lv_at hl 0 rfl) ?_
  refine ty_iconst hx hb (1) dL_law_989 (by decide) (fun x1152 h1153 => ?_)
  refine ty_iadd hx hb dL_law_990 (fun x1154 h1155 => ?_)
  have h1156 := lw_ix (k := 1) h1153 h1155 hi0 hiL hLN (by decide)
  refine va_sld hx hb hXs hbl hbA hS (i := x1154) (ty_ix h1156.2) dL_law_991 ?_
  refine W.eq (g2 := F0 m 992 ls [.int (xs (i.toInt.toNat + 1)), .ref q1]) (by rw [lw_xs (xs := xs) h1156.1 hi0.1]) ?_
  clear h1156 h1155 h1153
  refine lv_topi (fun x1157 s1158 => ?_)
  refine lv_aload_n hx hb dL_law_992 rfl (lv_at hl 4 rfl) ?_
  refine lv_iload hx hb dL_law_993 (lv_at hl 0 rfl) ?_
  refine ty_iconst hx hb (2) dL_law_995 (by decide) (fun x1159 h1160 => ?_)
  refine ty_iadd hx hb dL_law_996 (fun x1161 h1162 => ?_)
  have h1163 := lw_ix (k := 2) h1160 h1162 hi0 hiL hLN (by decide)
  refine va_sld hx hb hXs hbl hbA hS (i := x1161) (ty_ix h1163.2) dL_law_997 ?_
  refine W.eq (g2 := F0 m 998 ls [.int (xs (i.toInt.toNat + 2)), .int x1157, .ref q1]) (by rw [lw_xs (xs := xs) h1163.1 hi0.1]) ?_
  clear h1163 h1162 h1160
  refine lv_topi (fun x1164 s1165 => ?_)
  refine cI (va_runV (C := RX8) (As := [.int x1157, .int x1164]) (rest := []) ⟨hx, hb, hml, hown, hA⟩ (k_X8_ownerOf l dC dI dA sz X Γ hU g q1 t_q1 x1157 x1164   (by first | with_reducible assumption | omega)) ⟨callB_of 2 hA (al_A wd_4_41) rfl rfl rfl (hA _ wd_1_1) (hA _ wd_4_38) (by decide +kernel) ⟨Nat.le_of_ble_eq_true rfl, Nat.le_of_ble_eq_true rfl⟩, hA _ wd_4_39, hA _ wd_4_40⟩ ⟨bl, recv_X8 hE hG t_q1, fun U hU9 hW9 => ⟨rfl, by rw [hU9]; exact hG, hE.go hS hU9 hW9⟩⟩ rfl rfl hl.1 rfl (lv_room (Nat.le_of_ble_eq_true rfl)) dL_law_998 ⟨(Nat.le_trans (show kc + 0 ≤ 300000 by omega) (Nat.le_of_ble_eq_true rfl)), (Nat.le_trans (show ks + 0 ≤ 300000 by omega) (Nat.le_of_ble_eq_true rfl))⟩) hS (fun x1168 u1166 H locs w1167 hG hS => ?_)
  have eu1169 := w1167
  rw [eu1169] at hG
  refine lv_pop hx hb dL_law_1001 rfl ?_
  refine lv_aload_n hx hb dL_law_1002 rfl (lv_at hl 2 rfl) ?_
  refine lv_aload_n hx hb dL_law_1003 rfl (lv_at hl 4 rfl) ?_
  refine lv_iload hx hb dL_law_1004 (lv_at hl 0 rfl) ?_
  refine ty_iconst hx hb (1) dL_law_1006 (by decide) (fun x1170 h1171 => ?_)
  refine ty_iadd hx hb dL_law_1007 (fun x1172 h1173 => ?_)
  have h1174 := lw_ix (k := 1) h1171 h1173 hi0 hiL hLN (by decide)
  refine va_sld hx hb hXs hbl hbA hS (i := x1172) (ty_ix h1174.2) dL_law_1008 ?_
  refine W.eq (g2 := F0 m 1009 ls [.int (xs (i.toInt.toNat + 1)), .ref q12]) (by rw [lw_xs (xs := xs) h1174.1 hi0.1]) ?_
  clear h1174 h1173 h1171
  refine W.eq (g2 := F0 m 1009 ls [.int x1157, .ref q12]) (by rw [s1158]) ?_
  refine lv_aload_n hx hb dL_law_1009 rfl (lv_at hl 4 rfl) ?_
  refine lv_iload hx hb dL_law_1010 (lv_at hl 0 rfl) ?_
  refine ty_iconst hx hb (2) dL_law_1012 (by decide) (fun x1175 h1176 => ?_)
  refine ty_iadd hx hb dL_law_1013 (fun x1177 h1178 => ?_)
  have h1179 := lw_ix (k := 2) h1176 h1178 hi0 hiL hLN (by decide)
  refine va_sld hx hb hXs hbl hbA hS (i := x1177) (ty_ix h1179.2) dL_law_1014 ?_
  refine W.eq (g2 := F0 m 1015 ls [.int (xs (i.toInt.toNat + 2)), .int x1157, .ref q12]) (by rw [lw_xs (xs := xs) h1179.1 hi0.1]) ?_
  clear h1179 h1178 h1176
  refine W.eq (g2 := F0 m 1015 ls [.int x1164, .int x1157, .ref q12]) (by rw [s1165]) ?_
  refine cI (va_runV (C := RX9) (As := [.int x1157, .int x1164]) (rest := []) ⟨hx, hb, hml, hown, hA⟩ (k_X9_ownerOf l dC dI dA sz X Γ hU g q12 t_q12 x1157 x1164   (by first | with_reducible assumption | omega)) ⟨callB_of 2 hA (al_A wd_5_234) rfl rfl rfl (hA _ wd_1_7) (hA _ wd_5_231) (by decide +kernel) ⟨Nat.le_of_ble_eq_true rfl, Nat.le_of_ble_eq_true rfl⟩, hA _ wd_5_232, hA _ wd_5_233⟩ ⟨bl, recv_X9 hE hG t_q12, fun U hU9 hW9 => ⟨rfl, by rw [hU9]; exact hG, hE.go hS hU9 hW9⟩⟩ rfl rfl hl.1 rfl (lv_room (Nat.le_of_ble_eq_true rfl)) dL_law_1015 ⟨(Nat.le_trans (show kc + 0 ≤ 300000 by omega) (Nat.le_of_ble_eq_true rfl)), (Nat.le_trans (show ks + 0 ≤ 300000 by omega) (Nat.le_of_ble_eq_true rfl))⟩) hS (fun x1182 u1180 H locs w1181 hG hS => ?_)
  have hf1183 := w1181
  have hj1184 : IJ u1180 := IJ_cg (hf1183 126 0 (by decide)) (fun j => hf1183 132 j (by decide)) (fun j => hf1183 134 j (by decide)) (by (repeat (first | with_reducible assumption | (refine IJ_c (by decide) (by decide) (by decide) ?_) | (refine IJ_take (by omega) (by omega) ?_) | (refine IJ_how (by omega) ?_) | (refine IJ_by (by omega) ?_))))
  refine lv_pop hx hb dL_law_1018 rfl ?_
  refine lv_goto (tgt := 1047) hx hb dL_law_1019 (by decide) ?_
  obtain ⟨x1185, h1186⟩ : ∃ y : Int32, y = i + Int32.ofInt (6) := ⟨_, rfl⟩
  try have h1187 : x1185.toInt = i.toInt + (6) := ty_inc h1186 (by decide) (by omega) (by omega)
  refine lv_iinc (v := x1185) (lv' := [(4, .int x1185), (3, .ref q25), (2, .ref q12), (1, .ref q1), (0, .ref b)]) hx hb dL_law_1047 hl (k := 0) rfl h1186.symm (by decide) rfl (fun ls hl => ?_)
  refine lv_goto (tgt := 23) hx hb dL_law_1050 (by decide) ?_
  have hk1188 : u1180 4 0 = g 4 0 := hf1183 4 0 (by decide)
  exact ih x1185 Γ u1180 (kc) (ks) _ _ ls (by omega) (by omega) (by rw [hf1183 1 0 (by decide), hf1183 33 0 (by decide)]; exact hi1) (by rw [hf1183 2 0 (by decide), hf1183 34 0 (by decide)]; exact hi2) (by rw [hf1183 3 0 (by decide), hf1183 35 0 (by decide)]; exact hi3) (by rw [hf1183 5 0 (by decide)]; exact hi4) (by omega) (by rw [hf1183 6 0 (by decide)]; exact hi6) (by rw [hf1183 7 0 (by decide), hf1183 36 0 (by decide)]; exact hi7) (by rw [hf1183 101 0 (by decide), hf1183 1 0 (by decide)]; exact hi8) (by rw [hf1183 104 0 (by decide), hf1183 2 0 (by decide)]; exact hi9) (by rw [hf1183 112 0 (by decide), hf1183 5 0 (by decide)]; exact hi10) (by rw [hf1183 111 0 (by decide), hf1183 4 0 (by decide)]; exact hi11) (by rw [hf1183 114 0 (by decide), hf1183 6 0 (by decide)]; exact hi12) (by rw [hf1183 126 0 (by decide)]; exact hi13) (by rw [hf1183 122 0 (by decide)]; exact hi14) (by (repeat (first | with_reducible assumption | (refine IJ_c (by decide) (by decide) (by decide) ?_) | (refine IJ_take (by omega) (by omega) ?_) | (refine IJ_how (by omega) ?_) | (refine IJ_by (by omega) ?_)))) hU t_q1 t_q12 t_q25 (by omega) (by omega) hG hS (lv_sub hl [0, 1, 2, 3, 4] rfl)
set_option maxHeartbeats 40000000 in
set_option maxRecDepth 100000 in
/-- the law's case 23 -/
theorem law_c23 {p : Program} {e : Env} {s : State} {m : MethodId} {below : List Frame} {meth : Method} {c : Code} (l : Launch) (hl9 : l.stackTraces = false) {b L : Nat} {xs : Nat → Int32} (hLN : L ≤ 3072) (hx : p.tables.exec = Jvm.exec) (hb : c.code = code) (hr : meth.sig.returnType = ret) (hml : c.maxLocals = 7) (hown : s.vm.findClass R_law = some m.cls) (hA : ∀ w ∈ AL, w.before #[Value.ref b] s = true) (hXs : va_X b L xs s s.heap) (hbl : b < s.heap.size) (hlocks : meth.locks = false) {dC : Nat → ClassId} {dI : Nat → Nat → Nat} {dA : Nat → ClassId} {sz : Nat} (hE : en dC dI dA sz s) (hsz : sz = s.heap.size) (hbA : ¬ ty_A sz b) (X : va_W) (q1 q12 q25 : Nat) (n : Nat) (ih : LJ p l e s m below meth c b dC dI dA sz X q1 q12 q25 n) (i : Int32) (Γ : ty_G) (g : gh) (kc ks : Nat) (H : Heap) (locs : List Loc) (ls : Array Slot) (hm : (3073 - i.toInt : Int) < (n + 1 : Nat)) (hi0 : 0 ≤ i.toInt ∧ i.toInt ≤ 3072) (hi1 : g 1 0 = g 33 0 ∧ 0 ≤ g 1 0 ∧ g 1 0 ≤ 6) (hi2 : g 2 0 = g 34 0 ∧ 0 ≤ g 2 0 ∧ g 2 0 ≤ 10) (hi3 : g 3 0 = g 35 0 ∧ 0 ≤ g 3 0 ∧ g 3 0 ≤ 200) (hi4 : 0 ≤ g 5 0 ∧ g 5 0 ≤ 52) (hi5 : 0 ≤ g 4 0 ∧ g 4 0 ≤ i.toInt) (hi6 : 0 ≤ g 6 0 ∧ g 6 0 ≤ 300) (hi7 : 0 ≤ g 7 0 ∧ g 7 0 ≤ g 36 0 ∧ g 36 0 ≤ 9) (hi8 : g 101 0 = g 1 0) (hi9 : g 104 0 = g 2 0) (hi10 : g 112 0 = g 5 0) (hi11 : g 111 0 = g 4 0) (hi12 : g 114 0 = g 6 0) (hi13 : 0 ≤ g 126 0 ∧ g 126 0 ≤ 200) (hi14 : 0 ≤ g 122 0 ∧ g 122 0 ≤ 30) (hIJ : IJ g) (hU : Un Γ) (t_q1 : ty Γ q1 1) (t_q12 : ty Γ q12 30) (t_q25 : ty Γ q25 25) (hkc : kc ≤ 300 + i.toInt.toNat) (hks : ks ≤ 30000 + 28 * i.toInt.toNat) (hG : ty_ok (dC, dI) vwCl Γ (TP dA Γ g) sz X H) (hS : va_S (ty_A sz) s.heap H locs) (hl : lv_has ls 7 [(4, .int i), (3, .ref q25), (2, .ref q12), (1, .ref q1), (0, .ref b)]) (hiL : i.toInt + 6 ≤ (L : Int)) : W p l e room_1 s m #[Value.ref b] below meth c H locs kc ks (lw_Z below #[Value.ref b] s) (F0 m 1022 ls []) := by
  refine lv_aload_n hx hb dL_law_1022 rfl (lv_at hl 3 rfl) ?_
  refine lv_aload_n hx hb dL_law_1023 rfl (lv_at hl 4 rfl) ?_
  refine lv_iload hx hb dL_law_1024 (lv_at hl 0 rfl) ?_
  refine ty_iconst hx hb (1) dL_law_1026 (by decide) (fun x1189 h1190 => ?_)
  refine ty_iadd hx hb dL_law_1027 (fun x1191 h1192 => ?_)
  have h1193 := lw_ix (k := 1) h1190 h1192 hi0 hiL hLN (by decide)
  refine va_sld hx hb hXs hbl hbA hS (i := x1191) (ty_ix h1193.2) dL_law_1028 ?_
  refine W.eq (g2 := F0 m 1029 ls [.int (xs (i.toInt.toNat + 1)), .ref q1]) (by rw [lw_xs (xs := xs) h1193.1 hi0.1]) ?_
  clear h1193 h1192 h1190
  refine lv_topi (fun x1194 s1195 => ?_)
  refine cI (va_runV (C := RX8) (As := [.int x1194]) (rest := []) ⟨hx, hb, hml, hown, hA⟩ (k_X8_count l dC dI dA sz X Γ hU g q1 t_q1 x1194   (by first | with_reducible assumption | omega) (by first | with_reducible assumption | omega)) ⟨callB_of 1 hA (al_A wd_4_45) rfl rfl rfl (hA _ wd_1_1) (hA _ wd_4_42) (by decide +kernel) ⟨Nat.le_of_ble_eq_true rfl, Nat.le_of_ble_eq_true rfl⟩, hA _ wd_4_43, hA _ wd_4_44⟩ ⟨bl, recv_X8 hE hG t_q1, fun U hU9 hW9 => ⟨rfl, by rw [hU9]; exact hG, hE.go hS hU9 hW9⟩⟩ rfl rfl hl.1 rfl (lv_room (Nat.le_of_ble_eq_true rfl)) dL_law_1029 ⟨(Nat.le_trans (show kc + 0 ≤ 300000 by omega) (Nat.le_of_ble_eq_true rfl)), (Nat.le_trans (show ks + 0 ≤ 300000 by omega) (Nat.le_of_ble_eq_true rfl))⟩) hS (fun x1198 u1196 H locs w1197 hG hS => ?_)
  have eu1199 := w1197
  rw [eu1199] at hG
  refine lv_pop hx hb dL_law_1032 rfl ?_
  refine lv_aload_n hx hb dL_law_1033 rfl (lv_at hl 2 rfl) ?_
  refine lv_aload_n hx hb dL_law_1034 rfl (lv_at hl 4 rfl) ?_
  refine lv_iload hx hb dL_law_1035 (lv_at hl 0 rfl) ?_
  refine ty_iconst hx hb (1) dL_law_1037 (by decide) (fun x1200 h1201 => ?_)
  refine ty_iadd hx hb dL_law_1038 (fun x1202 h1203 => ?_)
  have h1204 := lw_ix (k := 1) h1201 h1203 hi0 hiL hLN (by decide)
  refine va_sld hx hb hXs hbl hbA hS (i := x1202) (ty_ix h1204.2) dL_law_1039 ?_
  refine W.eq (g2 := F0 m 1040 ls [.int (xs (i.toInt.toNat + 1)), .ref q12]) (by rw [lw_xs (xs := xs) h1204.1 hi0.1]) ?_
  clear h1204 h1203 h1201
  refine W.eq (g2 := F0 m 1040 ls [.int x1194, .ref q12]) (by rw [s1195]) ?_
  refine cI (va_runV (C := RX9) (As := [.int x1194]) (rest := []) ⟨hx, hb, hml, hown, hA⟩ (k_X9_count l dC dI dA sz X Γ hU g q12 t_q12 x1194   (by first | with_reducible assumption | omega) (by first | with_reducible assumption | omega) (by first | with_reducible assumption | omega)) ⟨callB_of 1 hA (al_A wd_5_238) rfl rfl rfl (hA _ wd_1_7) (hA _ wd_5_235) (by decide +kernel) ⟨Nat.le_of_ble_eq_true rfl, Nat.le_of_ble_eq_true rfl⟩, hA _ wd_5_236, hA _ wd_5_237⟩ ⟨bl, recv_X9 hE hG t_q12, fun U hU9 hW9 => ⟨rfl, by rw [hU9]; exact hG, hE.go hS hU9 hW9⟩⟩ rfl rfl hl.1 rfl (lv_room (Nat.le_of_ble_eq_true rfl)) dL_law_1040 ⟨(Nat.le_trans (show kc + 0 ≤ 300000 by omega) (Nat.le_of_ble_eq_true rfl)), (Nat.le_trans (show ks + 0 ≤ 300000 by omega) (Nat.le_of_ble_eq_true rfl))⟩) hS (fun x1207 u1205 H locs w1206 hG hS => ?_)
  have hf1208 := w1206
  have hj1209 : IJ u1205 := IJ_cg (hf1208 126 0 (by decide)) (fun j => hf1208 132 j (by decide)) (fun j => hf1208 134 j (by decide)) (by (repeat (first | with_reducible assumption | (refine IJ_c (by decide) (by decide) (by decide) ?_) | (refine IJ_take (by omega) (by omega) ?_) | (refine IJ_how (by omega) ?_) | (refine IJ_by (by omega) ?_))))
  refine lv_pop hx hb dL_law_1043 rfl ?_
  refine lv_goto (tgt := 1047) hx hb dL_law_1044 (by decide) ?_
  obtain ⟨x1210, h1211⟩ : ∃ y : Int32, y = i + Int32.ofInt (6) := ⟨_, rfl⟩
  try have h1212 : x1210.toInt = i.toInt + (6) := ty_inc h1211 (by decide) (by omega) (by omega)
  refine lv_iinc (v := x1210) (lv' := [(4, .int x1210), (3, .ref q25), (2, .ref q12), (1, .ref q1), (0, .ref b)]) hx hb dL_law_1047 hl (k := 0) rfl h1211.symm (by decide) rfl (fun ls hl => ?_)
  refine lv_goto (tgt := 23) hx hb dL_law_1050 (by decide) ?_
  have hk1213 : u1205 4 0 = g 4 0 := hf1208 4 0 (by decide)
  exact ih x1210 Γ u1205 (kc) (ks) _ _ ls (by omega) (by omega) (by rw [hf1208 1 0 (by decide), hf1208 33 0 (by decide)]; exact hi1) (by rw [hf1208 2 0 (by decide), hf1208 34 0 (by decide)]; exact hi2) (by rw [hf1208 3 0 (by decide), hf1208 35 0 (by decide)]; exact hi3) (by rw [hf1208 5 0 (by decide)]; exact hi4) (by omega) (by rw [hf1208 6 0 (by decide)]; exact hi6) (by rw [hf1208 7 0 (by decide), hf1208 36 0 (by decide)]; exact hi7) (by rw [hf1208 101 0 (by decide), hf1208 1 0 (by decide)]; exact hi8) (by rw [hf1208 104 0 (by decide), hf1208 2 0 (by decide)]; exact hi9) (by rw [hf1208 112 0 (by decide), hf1208 5 0 (by decide)]; exact hi10) (by rw [hf1208 111 0 (by decide), hf1208 4 0 (by decide)]; exact hi11) (by rw [hf1208 114 0 (by decide), hf1208 6 0 (by decide)]; exact hi12) (by rw [hf1208 126 0 (by decide)]; exact hi13) (by rw [hf1208 122 0 (by decide)]; exact hi14) (by (repeat (first | with_reducible assumption | (refine IJ_c (by decide) (by decide) (by decide) ?_) | (refine IJ_take (by omega) (by omega) ?_) | (refine IJ_how (by omega) ?_) | (refine IJ_by (by omega) ?_)))) hU t_q1 t_q12 t_q25 (by omega) (by omega) hG hS (lv_sub hl [0, 1, 2, 3, 4] rfl)
