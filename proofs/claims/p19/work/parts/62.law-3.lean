set_option maxHeartbeats 40000000 in
set_option maxRecDepth 100000 in
/-- the law's case 16 -/
theorem law_c16 {p : Program} {e : Env} {s : State} {m : MethodId} {below : List Frame} {meth : Method} {c : Code} (l : Launch) (hl9 : l.stackTraces = false) {b L : Nat} {xs : Nat → Int32} (hLN : L ≤ 3072) (hx : p.tables.exec = Jvm.exec) (hb : c.code = code) (hr : meth.sig.returnType = ret) (hml : c.maxLocals = 7) (hown : s.vm.findClass R_law = some m.cls) (hA : ∀ w ∈ AL, w.before #[Value.ref b] s = true) (hXs : va_X b L xs s s.heap) (hbl : b < s.heap.size) (hlocks : meth.locks = false) {dC : Nat → ClassId} {dI : Nat → Nat → Nat} {dA : Nat → ClassId} {sz : Nat} (hE : en dC dI dA sz s) (hsz : sz = s.heap.size) (hbA : ¬ ty_A sz b) (X : va_W) (q1 q12 q25 : Nat) (n : Nat) (ih : LJ p l e s m below meth c b dC dI dA sz X q1 q12 q25 n) (i : Int32) (Γ : ty_G) (g : gh) (kc ks : Nat) (H : Heap) (locs : List Loc) (ls : Array Slot) (hm : (3073 - i.toInt : Int) < (n + 1 : Nat)) (hi0 : 0 ≤ i.toInt ∧ i.toInt ≤ 3072) (hi1 : g 1 0 = g 33 0 ∧ 0 ≤ g 1 0 ∧ g 1 0 ≤ 6) (hi2 : g 2 0 = g 34 0 ∧ 0 ≤ g 2 0 ∧ g 2 0 ≤ 10) (hi3 : g 3 0 = g 35 0 ∧ 0 ≤ g 3 0 ∧ g 3 0 ≤ 200) (hi4 : 0 ≤ g 5 0 ∧ g 5 0 ≤ 52) (hi5 : 0 ≤ g 4 0 ∧ g 4 0 ≤ i.toInt) (hi6 : 0 ≤ g 6 0 ∧ g 6 0 ≤ 300) (hi7 : 0 ≤ g 7 0 ∧ g 7 0 ≤ g 36 0 ∧ g 36 0 ≤ 9) (hi8 : g 101 0 = g 1 0) (hi9 : g 104 0 = g 2 0) (hi10 : g 112 0 = g 5 0) (hi11 : g 111 0 = g 4 0) (hi12 : g 114 0 = g 6 0) (hi13 : 0 ≤ g 126 0 ∧ g 126 0 ≤ 200) (hi14 : 0 ≤ g 122 0 ∧ g 122 0 ≤ 30) (hIJ : IJ g) (hU : Un Γ) (t_q1 : ty Γ q1 1) (t_q12 : ty Γ q12 30) (t_q25 : ty Γ q25 25) (hkc : kc ≤ 300 + i.toInt.toNat) (hks : ks ≤ 30000 + 28 * i.toInt.toNat) (hG : ty_ok (dC, dI) vwCl Γ (TP dA Γ g) sz X H) (hS : va_S (ty_A sz) s.heap H locs) (hl : lv_has ls 7 [(4, .int i), (3, .ref q25), (2, .ref q12), (1, .ref q1), (0, .ref b)]) (hiL : i.toInt + 6 ≤ (L : Int)) : W p l e room_1 s m #[Value.ref b] below meth c H locs kc ks (lw_Z below #[Value.ref b] s) (F0 m 768 ls []) := by
  refine lv_aload_n hx hb dL_law_768 rfl (lv_at hl 3 rfl) ?_
  refine lv_aload_n hx hb dL_law_769 rfl (lv_at hl 4 rfl) ?_
  refine lv_iload hx hb dL_law_770 (lv_at hl 0 rfl) ?_
  refine ty_iconst hx hb (1) dL_law_772 (by decide) (fun x873 h874 => ?_)
  refine ty_iadd hx hb dL_law_773 (fun x875 h876 => ?_)
  have h877 := lw_ix (k := 1) h874 h876 hi0 hiL hLN (by decide)
  refine va_sld hx hb hXs hbl hbA hS (i := x875) (ty_ix h877.2) dL_law_774 ?_
  refine W.eq (g2 := F0 m 775 ls [.int (xs (i.toInt.toNat + 1)), .ref q1]) (by rw [lw_xs (xs := xs) h877.1 hi0.1]) ?_
  clear h877 h876 h874
  refine lv_topi (fun x878 s879 => ?_)
  refine cI (va_runV (C := RX8) (As := [.int x878]) (rest := []) ⟨hx, hb, hml, hown, hA⟩ (k_X8_weeks l dC dI dA sz X Γ hU g q1 t_q1 x878   (by first | with_reducible assumption | omega) (by first | with_reducible assumption | omega)) ⟨callB_of 1 hA (al_A wd_3_220) rfl rfl rfl (hA _ wd_1_1) (hA _ wd_3_217) (by decide +kernel) ⟨Nat.le_of_ble_eq_true rfl, Nat.le_of_ble_eq_true rfl⟩, hA _ wd_3_218, hA _ wd_3_219⟩ ⟨bl, recv_X8 hE hG t_q1, fun U hU9 hW9 => ⟨rfl, by rw [hU9]; exact hG, hE.go hS hU9 hW9⟩⟩ rfl rfl hl.1 rfl (lv_room (Nat.le_of_ble_eq_true rfl)) dL_law_775 ⟨(Nat.le_trans (show kc + 0 ≤ 300000 by omega) (Nat.le_of_ble_eq_true rfl)), (Nat.le_trans (show ks + 0 ≤ 300000 by omega) (Nat.le_of_ble_eq_true rfl))⟩) hS (fun x882 u880 H locs w881 hG hS => ?_)
  obtain ⟨hf883, w881⟩ := w881
  have hj884 : IJ u880 := IJ_cg (hf883 126 0 (by decide)) (fun j => hf883 132 j (by decide)) (fun j => hf883 134 j (by decide)) (by (repeat (first | with_reducible assumption | (refine IJ_c (by decide) (by decide) (by decide) ?_) | (refine IJ_take (by omega) (by omega) ?_) | (refine IJ_how (by omega) ?_) | (refine IJ_by (by omega) ?_))))
  replace w881 := or2 w881.1 w881.2 (by exact Classical.em _)
  rcases w881 with w881 | w881
  · skip
    refine lv_pop hx hb dL_law_778 rfl ?_
    refine lv_aload_n hx hb dL_law_779 rfl (lv_at hl 2 rfl) ?_
    refine lv_aload_n hx hb dL_law_780 rfl (lv_at hl 4 rfl) ?_
    refine lv_iload hx hb dL_law_781 (lv_at hl 0 rfl) ?_
    refine ty_iconst hx hb (1) dL_law_783 (by decide) (fun x885 h886 => ?_)
    refine ty_iadd hx hb dL_law_784 (fun x887 h888 => ?_)
    have h889 := lw_ix (k := 1) h886 h888 hi0 hiL hLN (by decide)
    refine va_sld hx hb hXs hbl hbA hS (i := x887) (ty_ix h889.2) dL_law_785 ?_
    refine W.eq (g2 := F0 m 786 ls [.int (xs (i.toInt.toNat + 1)), .ref q12]) (by rw [lw_xs (xs := xs) h889.1 hi0.1]) ?_
    clear h889 h888 h886
    refine W.eq (g2 := F0 m 786 ls [.int x878, .ref q12]) (by rw [s879]) ?_
    have hk890 : u880 126 0 = g 126 0 := hf883 126 0 (by decide)
    have hk891 : u880 112 0 = g 112 0 := hf883 112 0 (by decide)
    refine cI (va_runV (C := RX9) (As := [.int x878]) (rest := []) ⟨hx, hb, hml, hown, hA⟩ (k_X9_weeks l dC dI dA sz X Γ hU u880 q12 t_q12 x878   (by first | with_reducible assumption | omega) (by first | with_reducible assumption | omega) (by (repeat (first | with_reducible assumption | (refine IJ_c (by decide) (by decide) (by decide) ?_) | (refine IJ_take (by omega) (by omega) ?_) | (refine IJ_how (by omega) ?_) | (refine IJ_by (by omega) ?_))))) ⟨callB_of 1 hA (al_A wd_5_193) rfl rfl rfl (hA _ wd_1_7) (hA _ wd_5_190) (by decide +kernel) ⟨Nat.le_of_ble_eq_true rfl, Nat.le_of_ble_eq_true rfl⟩, hA _ wd_5_191, hA _ wd_5_192⟩ ⟨bl, recv_X9 hE hG t_q12, fun U hU9 hW9 => ⟨rfl, by rw [hU9]; exact hG, hE.go hS hU9 hW9⟩⟩ rfl rfl hl.1 rfl (lv_room (Nat.le_of_ble_eq_true rfl)) dL_law_786 ⟨(Nat.le_trans (show kc + 0 ≤ 300000 by omega) (Nat.le_of_ble_eq_true rfl)), (Nat.le_trans (show ks + 0 ≤ 300000 by omega) (Nat.le_of_ble_eq_true rfl))⟩) hS (fun x894 u892 H locs w893 hG hS => ?_)
    obtain ⟨hf896, w893, hq895⟩ := w893
    replace w893 := or2 w893.1 w893.2 (by exact Classical.em _)
    rcases w893 with w893 | w893
    · skip
      refine lv_pop hx hb dL_law_789 rfl ?_
      refine lv_goto (tgt := 1047) hx hb dL_law_790 (by decide) ?_
      obtain ⟨x897, h898⟩ : ∃ y : Int32, y = i + Int32.ofInt (6) := ⟨_, rfl⟩
      try have h899 : x897.toInt = i.toInt + (6) := ty_inc h898 (by decide) (by omega) (by omega)
      refine lv_iinc (v := x897) (lv' := [(4, .int x897), (3, .ref q25), (2, .ref q12), (1, .ref q1), (0, .ref b)]) hx hb dL_law_1047 hl (k := 0) rfl h898.symm (by decide) rfl (fun ls hl => ?_)
      refine lv_goto (tgt := 23) hx hb dL_law_1050 (by decide) ?_
      have hk900 : u892 4 0 = u880 4 0 := hf896 4 0 (by decide) (by decide) (by decide)
      have hk901 : u880 4 0 = g 4 0 := hf883 4 0 (by decide)
      have hk902 : u892 5 0 = u880 5 0 := hf896 5 0 (by decide) (by decide) (by decide)
      exact ih x897 Γ u892 (kc) (ks) _ _ ls (by omega) (by omega) (by rw [hf896 1 0 (by decide) (by decide) (by decide), hf883 1 0 (by decide), hf896 33 0 (by decide) (by decide) (by decide), hf883 33 0 (by decide)]; exact hi1) (by rw [hf896 2 0 (by decide) (by decide) (by decide), hf883 2 0 (by decide), hf896 34 0 (by decide) (by decide) (by decide), hf883 34 0 (by decide)]; exact hi2) (by rw [hf896 3 0 (by decide) (by decide) (by decide), hf883 3 0 (by decide), hf896 35 0 (by decide) (by decide) (by decide), hf883 35 0 (by decide)]; exact hi3) (by omega) (by omega) (by rw [hf896 6 0 (by decide) (by decide) (by decide), hf883 6 0 (by decide)]; exact hi6) (by rw [hf896 7 0 (by decide) (by decide) (by decide), hf883 7 0 (by decide), hf896 36 0 (by decide) (by decide) (by decide), hf883 36 0 (by decide)]; exact hi7) (by rw [hf896 101 0 (by decide) (by decide) (by decide), hf883 101 0 (by decide), hf896 1 0 (by decide) (by decide) (by decide), hf883 1 0 (by decide)]; exact hi8) (by rw [hf896 104 0 (by decide) (by decide) (by decide), hf883 104 0 (by decide), hf896 2 0 (by decide) (by decide) (by decide), hf883 2 0 (by decide)]; exact hi9) (by omega) (by rw [hf896 111 0 (by decide) (by decide) (by decide), hf883 111 0 (by decide), hf896 4 0 (by decide) (by decide) (by decide), hf883 4 0 (by decide)]; exact hi11) (by rw [hf896 114 0 (by decide) (by decide) (by decide), hf883 114 0 (by decide), hf896 6 0 (by decide) (by decide) (by decide), hf883 6 0 (by decide)]; exact hi12) (by rw [hf896 126 0 (by decide) (by decide) (by decide), hf883 126 0 (by decide)]; exact hi13) (by rw [hf896 122 0 (by decide) (by decide) (by decide), hf883 122 0 (by decide)]; exact hi14) (by (repeat (first | with_reducible assumption | (refine IJ_c (by decide) (by decide) (by decide) ?_) | (refine IJ_take (by omega) (by omega) ?_) | (refine IJ_how (by omega) ?_) | (refine IJ_by (by omega) ?_)))) hU t_q1 t_q12 t_q25 (by omega) (by omega) hG hS (lv_sub hl [0, 1, 2, 3, 4] rfl)
    · exfalso; omega
  · skip
    refine lv_pop hx hb dL_law_778 rfl ?_
    refine lv_aload_n hx hb dL_law_779 rfl (lv_at hl 2 rfl) ?_
    refine lv_aload_n hx hb dL_law_780 rfl (lv_at hl 4 rfl) ?_
    refine lv_iload hx hb dL_law_781 (lv_at hl 0 rfl) ?_
    refine ty_iconst hx hb (1) dL_law_783 (by decide) (fun x903 h904 => ?_)
    refine ty_iadd hx hb dL_law_784 (fun x905 h906 => ?_)
    have h907 := lw_ix (k := 1) h904 h906 hi0 hiL hLN (by decide)
    refine va_sld hx hb hXs hbl hbA hS (i := x905) (ty_ix h907.2) dL_law_785 ?_
    refine W.eq (g2 := F0 m 786 ls [.int (xs (i.toInt.toNat + 1)), .ref q12]) (by rw [lw_xs (xs := xs) h907.1 hi0.1]) ?_
    clear h907 h906 h904
    refine W.eq (g2 := F0 m 786 ls [.int x878, .ref q12]) (by rw [s879]) ?_
    have hk908 : u880 126 0 = g 126 0 := hf883 126 0 (by decide)
    have hk909 : u880 112 0 = g 112 0 := hf883 112 0 (by decide)
    refine cI (va_runV (C := RX9) (As := [.int x878]) (rest := []) ⟨hx, hb, hml, hown, hA⟩ (k_X9_weeks l dC dI dA sz X Γ hU u880 q12 t_q12 x878   (by first | with_reducible assumption | omega) (by first | with_reducible assumption | omega) (by (repeat (first | with_reducible assumption | (refine IJ_c (by decide) (by decide) (by decide) ?_) | (refine IJ_take (by omega) (by omega) ?_) | (refine IJ_how (by omega) ?_) | (refine IJ_by (by omega) ?_))))) ⟨callB_of 1 hA (al_A wd_5_193) rfl rfl rfl (hA _ wd_1_7) (hA _ wd_5_190) (by decide +kernel) ⟨Nat.le_of_ble_eq_true rfl, Nat.le_of_ble_eq_true rfl⟩, hA _ wd_5_191, hA _ wd_5_192⟩ ⟨bl, recv_X9 hE hG t_q12, fun U hU9 hW9 => ⟨rfl, by rw [hU9]; exact hG, hE.go hS hU9 hW9⟩⟩ rfl rfl hl.1 rfl (lv_room (Nat.le_of_ble_eq_true rfl)) dL_law_786 ⟨(Nat.le_trans (show kc + 0 ≤ 300000 by omega) (Nat.le_of_ble_eq_true rfl)), (Nat.le_trans (show ks + 0 ≤ 300000 by omega) (Nat.le_of_ble_eq_true rfl))⟩) hS (fun x912 u910 H locs w911 hG hS => ?_)
    obtain ⟨hf914, w911, hq913⟩ := w911
    replace w911 := or2 w911.1 w911.2 (by exact Classical.em _)
    rcases w911 with w911 | w911
    · exfalso; omega
    · skip
      refine lv_pop hx hb dL_law_789 rfl ?_
      refine lv_goto (tgt := 1047) hx hb dL_law_790 (by decide) ?_
      obtain ⟨x915, h916⟩ : ∃ y : Int32, y = i + Int32.ofInt (6) := ⟨_, rfl⟩
      try have h917 : x915.toInt = i.toInt + (6) := ty_inc h916 (by decide) (by omega) (by omega)
      refine lv_iinc (v := x915) (lv' := [(4, .int x915), (3, .ref q25), (2, .ref q12), (1, .ref q1), (0, .ref b)]) hx hb dL_law_1047 hl (k := 0) rfl h916.symm (by decide) rfl (fun ls hl => ?_)
      refine lv_goto (tgt := 23) hx hb dL_law_1050 (by decide) ?_
      have hk918 : u910 4 0 = u880 4 0 := hf914 4 0 (by decide) (by decide) (by decide)
      have hk919 : u880 4 0 = g 4 0 := hf883 4 0 (by decide)
      have hk920 : u910 5 0 = u880 5 0 := hf914 5 0 (by decide) (by decide) (by decide)
      exact ih x915 Γ u910 (kc) (ks) _ _ ls (by omega) (by omega) (by rw [hf914 1 0 (by decide) (by decide) (by decide), hf883 1 0 (by decide), hf914 33 0 (by decide) (by decide) (by decide), hf883 33 0 (by decide)]; exact hi1) (by rw [hf914 2 0 (by decide) (by decide) (by decide), hf883 2 0 (by decide), hf914 34 0 (by decide) (by decide) (by decide), hf883 34 0 (by decide)]; exact hi2) (by rw [hf914 3 0 (by decide) (by decide) (by decide), hf883 3 0 (by decide), hf914 35 0 (by decide) (by decide) (by decide), hf883 35 0 (by decide)]; exact hi3) (by omega) (by omega) (by rw [hf914 6 0 (by decide) (by decide) (by decide), hf883 6 0 (by decide)]; exact hi6) (by rw [hf914 7 0 (by decide) (by decide) (by decide), hf883 7 0 (by decide), hf914 36 0 (by decide) (by decide) (by decide), hf883 36 0 (by decide)]; exact hi7) (by rw [hf914 101 0 (by decide) (by decide) (by decide), hf883 101 0 (by decide), hf914 1 0 (by decide) (by decide) (by decide), hf883 1 0 (by decide)]; exact hi8) (by rw [hf914 104 0 (by decide) (by decide) (by decide), hf883 104 0 (by decide), hf914 2 0 (by decide) (by decide) (by decide), hf883 2 0 (by decide)]; exact hi9) (by omega) (by rw [hf914 111 0 (by decide) (by decide) (by decide), hf883 111 0 (by decide), hf914 4 0 (by decide) (by decide) (by decide), hf883 4 0 (by decide)]; exact hi11) (by rw [hf914 114 0 (by decide) (by decide) (by decide), hf883 114 0 (by decide), hf914 6 0 (by decide) (by decide) (by decide), hf883 6 0 (by decide)]; exact hi12) (by rw [hf914 126 0 (by decide) (by decide) (by decide), hf883 126 0 (by decide)]; exact hi13) (by rw [hf914 122 0 (by decide) (by decide) (by decide), hf883 122 0 (by decide)]; exact hi14) (by (repeat (first | with_reducible assumption | (refine IJ_c (by decide) (by decide) (by decide) ?_) | (refine IJ_take (by omega) (by omega) ?_) | (refine IJ_how (by omega) ?_) | (refine IJ_by (by omega) ?_)))) hU t_q1 t_q12 t_q25 (by omega) (by omega) hG hS (lv_sub hl [0, 1, 2, 3, 4] rfl)
set_option maxHeartbeats 40000000 in
set_option maxRecDepth 100000 in
/-- the law's case 17 -/
theorem law_c17 {p : Program} {e : Env} {s : State} {m : MethodId} {below : List Frame} {meth : Method} {c : Code} (l : Launch) (hl9 : l.stackTraces = false) {b L : Nat} {xs : Nat → Int32} (hLN : L ≤ 3072) (hx : p.tables.exec = Jvm.exec) (hb : c.code = code) (hr : meth.sig.returnType = ret) (hml : c.maxLocals = 7) (hown : s.vm.findClass R_law = some m.cls) (hA : ∀ w ∈ AL, w.before #[Value.ref b] s = true) (hXs : va_X b L xs s s.heap) (hbl : b < s.heap.size) (hlocks : meth.locks = false) {dC : Nat → ClassId} {dI : Nat → Nat → Nat} {dA : Nat → ClassId} {sz : Nat} (hE : en dC dI dA sz s) (hsz : sz = s.heap.size) (hbA : ¬ ty_A sz b) (X : va_W) (q1 q12 q25 : Nat) (n : Nat) (ih : LJ p l e s m below meth c b dC dI dA sz X q1 q12 q25 n) (i : Int32) (Γ : ty_G) (g : gh) (kc ks : Nat) (H : Heap) (locs : List Loc) (ls : Array Slot) (hm : (3073 - i.toInt : Int) < (n + 1 : Nat)) (hi0 : 0 ≤ i.toInt ∧ i.toInt ≤ 3072) (hi1 : g 1 0 = g 33 0 ∧ 0 ≤ g 1 0 ∧ g 1 0 ≤ 6) (hi2 : g 2 0 = g 34 0 ∧ 0 ≤ g 2 0 ∧ g 2 0 ≤ 10) (hi3 : g 3 0 = g 35 0 ∧ 0 ≤ g 3 0 ∧ g 3 0 ≤ 200) (hi4 : 0 ≤ g 5 0 ∧ g 5 0 ≤ 52) (hi5 : 0 ≤ g 4 0 ∧ g 4 0 ≤ i.toInt) (hi6 : 0 ≤ g 6 0 ∧ g 6 0 ≤ 300) (hi7 : 0 ≤ g 7 0 ∧ g 7 0 ≤ g 36 0 ∧ g 36 0 ≤ 9) (hi8 : g 101 0 = g 1 0) (hi9 : g 104 0 = g 2 0) (hi10 : g 112 0 = g 5 0) (hi11 : g 111 0 = g 4 0) (hi12 : g 114 0 = g 6 0) (hi13 : 0 ≤ g 126 0 ∧ g 126 0 ≤ 200) (hi14 : 0 ≤ g 122 0 ∧ g 122 0 ≤ 30) (hIJ : IJ g) (hU : Un Γ) (t_q1 : ty Γ q1 1) (t_q12 : ty Γ q12 30) (t_q25 : ty Γ q25 25) (hkc : kc ≤ 300 + i.toInt.toNat) (hks : ks ≤ 30000 + 28 * i.toInt.toNat) (hG : ty_ok (dC, dI) vwCl Γ (TP dA Γ g) sz X H) (hS : va_S (ty_A sz) s.heap H locs) (hl : lv_has ls 7 [(4, .int i), (3, .ref q25), (2, .ref q12), (1, .ref q1), (0, .ref b)]) (hiL : i.toInt + 6 ≤ (L : Int)) : W p l e room_1 s m #[Value.ref b] below meth c H locs kc ks (lw_Z below #[Value.ref b] s) (F0 m 793 ls []) := by
  refine lv_aload_n hx hb dL_law_793 rfl (lv_at hl 3 rfl) ?_
  refine cI (va_runV (C := RX8) (As := []) (rest := []) ⟨hx, hb, hml, hown, hA⟩ (k_X8_year l dC dI dA sz X Γ hU g q1 t_q1   (by first | with_reducible assumption | omega) (by first | with_reducible assumption | omega) (by first | with_reducible assumption | omega)) ⟨callB_of 0 hA (al_A wd_3_228) rfl rfl rfl (hA _ wd_1_1) (hA _ wd_3_225) (by decide +kernel) ⟨Nat.le_of_ble_eq_true rfl, Nat.le_of_ble_eq_true rfl⟩, hA _ wd_3_226, hA _ wd_3_227⟩ ⟨bl, recv_X8 hE hG t_q1, fun U hU9 hW9 => ⟨rfl, by rw [hU9]; exact hG, hE.go hS hU9 hW9⟩⟩ rfl rfl hl.1 rfl (lv_room (Nat.le_of_ble_eq_true rfl)) dL_law_794 ⟨(Nat.le_trans (show kc + 0 ≤ 300000 by omega) (Nat.le_of_ble_eq_true rfl)), (Nat.le_trans (show ks + 0 ≤ 300000 by omega) (Nat.le_of_ble_eq_true rfl))⟩) hS (fun x923 u921 H locs w922 hG hS => ?_)
  obtain ⟨hf924, w922⟩ := w922
  have hj925 : IJ u921 := IJ_cg (hf924 126 0 (by decide) (by decide)) (fun j => hf924 132 j (by decide) (by decide)) (fun j => hf924 134 j (by decide) (by decide)) (by (repeat (first | with_reducible assumption | (refine IJ_c (by decide) (by decide) (by decide) ?_) | (refine IJ_take (by omega) (by omega) ?_) | (refine IJ_how (by omega) ?_) | (refine IJ_by (by omega) ?_))))
  refine lv_aload_n hx hb dL_law_797 rfl (lv_at hl 2 rfl) ?_
  have hk926 : u921 126 0 = g 126 0 := hf924 126 0 (by decide) (by decide)
  have hk927 : u921 111 0 = g 111 0 := hf924 111 0 (by decide) (by decide)
  refine cI (va_runV (C := RX9) (As := []) (rest := [.int x923]) ⟨hx, hb, hml, hown, hA⟩ (k_X9_year l dC dI dA sz X Γ hU u921 q12 t_q12   (by first | with_reducible assumption | omega) (by (repeat (first | with_reducible assumption | (refine IJ_c (by decide) (by decide) (by decide) ?_) | (refine IJ_take (by omega) (by omega) ?_) | (refine IJ_how (by omega) ?_) | (refine IJ_by (by omega) ?_)))) (by first | with_reducible assumption | omega)) ⟨callB_of 0 hA (al_A wd_5_201) rfl rfl rfl (hA _ wd_1_7) (hA _ wd_5_198) (by decide +kernel) ⟨Nat.le_of_ble_eq_true rfl, Nat.le_of_ble_eq_true rfl⟩, hA _ wd_5_199, hA _ wd_5_200⟩ ⟨bl, recv_X9 hE hG t_q12, fun U hU9 hW9 => ⟨rfl, by rw [hU9]; exact hG, hE.go hS hU9 hW9⟩⟩ rfl rfl hl.1 rfl (lv_room (Nat.le_of_ble_eq_true rfl)) dL_law_798 ⟨(Nat.le_trans (show kc + 0 ≤ 300000 by omega) (Nat.le_of_ble_eq_true rfl)), (Nat.le_trans (show ks + 0 ≤ 300000 by omega) (Nat.le_of_ble_eq_true rfl))⟩) hS (fun x930 u928 H locs w929 hG hS => ?_)
  obtain ⟨hf932, w929, hq931⟩ := w929
  refine ty_icmp_eq (tgt := 1047) hx hb dL_law_801 (by decide) (fun c933 => ?_) (fun c933 => ?_)
  · skip
    obtain ⟨x934, h935⟩ : ∃ y : Int32, y = i + Int32.ofInt (6) := ⟨_, rfl⟩
    try have h936 : x934.toInt = i.toInt + (6) := ty_inc h935 (by decide) (by omega) (by omega)
    refine lv_iinc (v := x934) (lv' := [(4, .int x934), (3, .ref q25), (2, .ref q12), (1, .ref q1), (0, .ref b)]) hx hb dL_law_1047 hl (k := 0) rfl h935.symm (by decide) rfl (fun ls hl => ?_)
    refine lv_goto (tgt := 23) hx hb dL_law_1050 (by decide) ?_
    have hk937 : u928 4 0 = u921 4 0 := hf932 4 0 (by decide) (by decide) (by decide) (by decide) (by decide)
    have hk938 : u928 5 0 = u921 5 0 := hf932 5 0 (by decide) (by decide) (by decide) (by decide) (by decide)
    exact ih x934 Γ u928 (kc) (ks) _ _ ls (by omega) (by omega) (by rw [hf932 1 0 (by decide) (by decide) (by decide) (by decide) (by decide), hf924 1 0 (by decide) (by decide), hf932 33 0 (by decide) (by decide) (by decide) (by decide) (by decide), hf924 33 0 (by decide) (by decide)]; exact hi1) (by rw [hf932 2 0 (by decide) (by decide) (by decide) (by decide) (by decide), hf924 2 0 (by decide) (by decide), hf932 34 0 (by decide) (by decide) (by decide) (by decide) (by decide), hf924 34 0 (by decide) (by decide)]; exact hi2) (by rw [hf932 3 0 (by decide) (by decide) (by decide) (by decide) (by decide), hf924 3 0 (by decide) (by decide), hf932 35 0 (by decide) (by decide) (by decide) (by decide) (by decide), hf924 35 0 (by decide) (by decide)]; exact hi3) (by omega) (by omega) (by rw [hf932 6 0 (by decide) (by decide) (by decide) (by decide) (by decide), hf924 6 0 (by decide) (by decide)]; exact hi6) (by rw [hf932 7 0 (by decide) (by decide) (by decide) (by decide) (by decide), hf924 7 0 (by decide) (by decide), hf932 36 0 (by decide) (by decide) (by decide) (by decide) (by decide), hf924 36 0 (by decide) (by decide)]; exact hi7) (by rw [hf932 101 0 (by decide) (by decide) (by decide) (by decide) (by decide), hf924 101 0 (by decide) (by decide), hf932 1 0 (by decide) (by decide) (by decide) (by decide) (by decide), hf924 1 0 (by decide) (by decide)]; exact hi8) (by rw [hf932 104 0 (by decide) (by decide) (by decide) (by decide) (by decide), hf924 104 0 (by decide) (by decide), hf932 2 0 (by decide) (by decide) (by decide) (by decide) (by decide), hf924 2 0 (by decide) (by decide)]; exact hi9) (by omega) (by omega) (by rw [hf932 114 0 (by decide) (by decide) (by decide) (by decide) (by decide), hf924 114 0 (by decide) (by decide), hf932 6 0 (by decide) (by decide) (by decide) (by decide) (by decide), hf924 6 0 (by decide) (by decide)]; exact hi12) (by rw [hf932 126 0 (by decide) (by decide) (by decide) (by decide) (by decide), hf924 126 0 (by decide) (by decide)]; exact hi13) (by rw [hf932 122 0 (by decide) (by decide) (by decide) (by decide) (by decide), hf924 122 0 (by decide) (by decide)]; exact hi14) (by (repeat (first | with_reducible assumption | (refine IJ_c (by decide) (by decide) (by decide) ?_) | (refine IJ_take (by omega) (by omega) ?_) | (refine IJ_how (by omega) ?_) | (refine IJ_by (by omega) ?_)))) hU t_q1 t_q12 t_q25 (by omega) (by omega) hG hS (lv_sub hl [0, 1, 2, 3, 4] rfl)
  · exfalso; omega
set_option maxHeartbeats 40000000 in
set_option maxRecDepth 100000 in
/-- the law's case 18 -/
theorem law_c18 {p : Program} {e : Env} {s : State} {m : MethodId} {below : List Frame} {meth : Method} {c : Code} (l : Launch) (hl9 : l.stackTraces = false) {b L : Nat} {xs : Nat → Int32} (hLN : L ≤ 3072) (hx : p.tables.exec = Jvm.exec) (hb : c.code = code) (hr : meth.sig.returnType = ret) (hml : c.maxLocals = 7) (hown : s.vm.findClass R_law = some m.cls) (hA : ∀ w ∈ AL, w.before #[Value.ref b] s = true) (hXs : va_X b L xs s s.heap) (hbl : b < s.heap.size) (hlocks : meth.locks = false) {dC : Nat → ClassId} {dI : Nat → Nat → Nat} {dA : Nat → ClassId} {sz : Nat} (hE : en dC dI dA sz s) (hsz : sz = s.heap.size) (hbA : ¬ ty_A sz b) (X : va_W) (q1 q12 q25 : Nat) (n : Nat) (ih : LJ p l e s m below meth c b dC dI dA sz X q1 q12 q25 n) (i : Int32) (Γ : ty_G) (g : gh) (kc ks : Nat) (H : Heap) (locs : List Loc) (ls : Array Slot) (hm : (3073 - i.toInt : Int) < (n + 1 : Nat)) (hi0 : 0 ≤ i.toInt ∧ i.toInt ≤ 3072) (hi1 : g 1 0 = g 33 0 ∧ 0 ≤ g 1 0 ∧ g 1 0 ≤ 6) (hi2 : g 2 0 = g 34 0 ∧ 0 ≤ g 2 0 ∧ g 2 0 ≤ 10) (hi3 : g 3 0 = g 35 0 ∧ 0 ≤ g 3 0 ∧ g 3 0 ≤ 200) (hi4 : 0 ≤ g 5 0 ∧ g 5 0 ≤ 52) (hi5 : 0 ≤ g 4 0 ∧ g 4 0 ≤ i.toInt) (hi6 : 0 ≤ g 6 0 ∧ g 6 0 ≤ 300) (hi7 : 0 ≤ g 7 0 ∧ g 7 0 ≤ g 36 0 ∧ g 36 0 ≤ 9) (hi8 : g 101 0 = g 1 0) (hi9 : g 104 0 = g 2 0) (hi10 : g 112 0 = g 5 0) (hi11 : g 111 0 = g 4 0) (hi12 : g 114 0 = g 6 0) (hi13 : 0 ≤ g 126 0 ∧ g 126 0 ≤ 200) (hi14 : 0 ≤ g 122 0 ∧ g 122 0 ≤ 30) (hIJ : IJ g) (hU : Un Γ) (t_q1 : ty Γ q1 1) (t_q12 : ty Γ q12 30) (t_q25 : ty Γ q25 25) (hkc : kc ≤ 300 + i.toInt.toNat) (hks : ks ≤ 30000 + 28 * i.toInt.toNat) (hG : ty_ok (dC, dI) vwCl Γ (TP dA Γ g) sz X H) (hS : va_S (ty_A sz) s.heap H locs) (hl : lv_has ls 7 [(4, .int i), (3, .ref q25), (2, .ref q12), (1, .ref q1), (0, .ref b)]) (hiL : i.toInt + 6 ≤ (L : Int)) : W p l e room_1 s m #[Value.ref b] below meth c H locs kc ks (lw_Z below #[Value.ref b] s) (F0 m 806 ls []) := by
  refine lv_aload_n hx hb dL_law_806 rfl (lv_at hl 3 rfl) ?_
  refine lv_aload_n hx hb dL_law_807 rfl (lv_at hl 4 rfl) ?_
  refine lv_iload hx hb dL_law_808 (lv_at hl 0 rfl) ?_
  refine ty_iconst hx hb (1) dL_law_810 (by decide) (fun x939 h940 => ?_)
  refine ty_iadd hx hb dL_law_811 (fun x941 h942 => ?_)
  have h943 := lw_ix (k := 1) h940 h942 hi0 hiL hLN (by decide)
  refine va_sld hx hb hXs hbl hbA hS (i := x941) (ty_ix h943.2) dL_law_812 ?_
  refine W.eq (g2 := F0 m 813 ls [.int (xs (i.toInt.toNat + 1)), .ref q1]) (by rw [lw_xs (xs := xs) h943.1 hi0.1]) ?_
  clear h943 h942 h940
  refine lv_topi (fun x944 s945 => ?_)
  refine lv_aload_n hx hb dL_law_813 rfl (lv_at hl 4 rfl) ?_
  refine lv_iload hx hb dL_law_814 (lv_at hl 0 rfl) ?_
  refine ty_iconst hx hb (2) dL_law_816 (by decide) (fun x946 h947 => ?_)
  refine ty_iadd hx hb dL_law_817 (fun x948 h949 => ?_)
  have h950 := lw_ix (k := 2) h947 h949 hi0 hiL hLN (by decide)
  refine va_sld hx hb hXs hbl hbA hS (i := x948) (ty_ix h950.2) dL_law_818 ?_
  refine W.eq (g2 := F0 m 819 ls [.int (xs (i.toInt.toNat + 2)), .int x944, .ref q1]) (by rw [lw_xs (xs := xs) h950.1 hi0.1]) ?_
  clear h950 h949 h947
  refine lv_topi (fun x951 s952 => ?_)
  refine lv_aload_n hx hb dL_law_819 rfl (lv_at hl 4 rfl) ?_
  refine lv_iload hx hb dL_law_820 (lv_at hl 0 rfl) ?_
  refine ty_iconst hx hb (3) dL_law_822 (by decide) (fun x953 h954 => ?_)
  refine ty_iadd hx hb dL_law_823 (fun x955 h956 => ?_)
  have h957 := lw_ix (k := 3) h954 h956 hi0 hiL hLN (by decide)
  refine va_sld hx hb hXs hbl hbA hS (i := x955) (ty_ix h957.2) dL_law_824 ?_
  refine W.eq (g2 := F0 m 825 ls [.int (xs (i.toInt.toNat + 3)), .int x951, .int x944, .ref q1]) (by rw [lw_xs (xs := xs) h957.1 hi0.1]) ?_
  clear h957 h956 h954
  refine lv_topi (fun x958 s959 => ?_)
  refine ty_if_eq (tgt := 832) hx hb dL_law_825 (by decide) (fun c960 => ?_) (fun c960 => ?_)
  · skip
    refine ty_iconst hx hb (0) dL_law_832 (by decide) (fun x961 h962 => ?_)
    refine cI (va_runV (C := RX8) (As := [.int x944, .int x951, .int x961]) (rest := []) ⟨hx, hb, hml, hown, hA⟩ (k_X8_dies l dC dI dA sz X Γ hU g q1 t_q1 x944 x951 x961   (by first | with_reducible assumption | omega) (by first | with_reducible assumption | omega) (by first | with_reducible assumption | omega)) ⟨callB_of 3 hA (al_A wd_3_236) rfl rfl rfl (hA _ wd_1_1) (hA _ wd_3_233) (by decide +kernel) ⟨Nat.le_of_ble_eq_true rfl, Nat.le_of_ble_eq_true rfl⟩, hA _ wd_3_234, hA _ wd_3_235⟩ ⟨bl, recv_X8 hE hG t_q1, fun U hU9 hW9 => ⟨rfl, by rw [hU9]; exact hG, hE.go hS hU9 hW9⟩⟩ rfl rfl hl.1 rfl (lv_room (Nat.le_of_ble_eq_true rfl)) dL_law_833 ⟨(Nat.le_trans (show kc + 0 ≤ 300000 by omega) (Nat.le_of_ble_eq_true rfl)), (Nat.le_trans (show ks + 0 ≤ 300000 by omega) (Nat.le_of_ble_eq_true rfl))⟩) hS (fun x965 u963 H locs w964 hG hS => ?_)
    have eu966 := w964
    rw [eu966] at hG
    refine lv_pop hx hb dL_law_836 rfl ?_
    refine lv_aload_n hx hb dL_law_837 rfl (lv_at hl 2 rfl) ?_
    refine lv_aload_n hx hb dL_law_838 rfl (lv_at hl 4 rfl) ?_
    refine lv_iload hx hb dL_law_839 (lv_at hl 0 rfl) ?_
    refine ty_iconst hx hb (1) dL_law_841 (by decide) (fun x967 h968 => ?_)
    refine ty_iadd hx hb dL_law_842 (fun x969 h970 => ?_)
    have h971 := lw_ix (k := 1) h968 h970 hi0 hiL hLN (by decide)
    refine va_sld hx hb hXs hbl hbA hS (i := x969) (ty_ix h971.2) dL_law_843 ?_
    refine W.eq (g2 := F0 m 844 ls [.int (xs (i.toInt.toNat + 1)), .ref q12]) (by rw [lw_xs (xs := xs) h971.1 hi0.1]) ?_
    clear h971 h970 h968
    refine W.eq (g2 := F0 m 844 ls [.int x944, .ref q12]) (by rw [s945]) ?_
    refine lv_aload_n hx hb dL_law_844 rfl (lv_at hl 4 rfl) ?_
    refine lv_iload hx hb dL_law_845 (lv_at hl 0 rfl) ?_
    refine ty_iconst hx hb (2) dL_law_847 (by decide) (fun x972 h973 => ?_)
    refine ty_iadd hx hb dL_law_848 (fun x974 h975 => ?_)
    have h976 := lw_ix (k := 2) h973 h975 hi0 hiL hLN (by decide)
    refine va_sld hx hb hXs hbl hbA hS (i := x974) (ty_ix h976.2) dL_law_849 ?_
    refine W.eq (g2 := F0 m 850 ls [.int (xs (i.toInt.toNat + 2)), .int x944, .ref q12]) (by rw [lw_xs (xs := xs) h976.1 hi0.1]) ?_
    clear h976 h975 h973
    refine W.eq (g2 := F0 m 850 ls [.int x951, .int x944, .ref q12]) (by rw [s952]) ?_
    refine lv_aload_n hx hb dL_law_850 rfl (lv_at hl 4 rfl) ?_
    refine lv_iload hx hb dL_law_851 (lv_at hl 0 rfl) ?_
    refine ty_iconst hx hb (3) dL_law_853 (by decide) (fun x977 h978 => ?_)
    refine ty_iadd hx hb dL_law_854 (fun x979 h980 => ?_)
    have h981 := lw_ix (k := 3) h978 h980 hi0 hiL hLN (by decide)
    refine va_sld hx hb hXs hbl hbA hS (i := x979) (ty_ix h981.2) dL_law_855 ?_
    refine W.eq (g2 := F0 m 856 ls [.int (xs (i.toInt.toNat + 3)), .int x951, .int x944, .ref q12]) (by rw [lw_xs (xs := xs) h981.1 hi0.1]) ?_
    clear h981 h980 h978
    refine W.eq (g2 := F0 m 856 ls [.int x958, .int x951, .int x944, .ref q12]) (by rw [s959]) ?_
    refine ty_if_eq (tgt := 863) hx hb dL_law_856 (by decide) (fun c982 => ?_) (fun c982 => ?_)
    · skip
      refine ty_iconst hx hb (0) dL_law_863 (by decide) (fun x983 h984 => ?_)
      refine cI (va_runV (C := RX9) (As := [.int x944, .int x951, .int x983]) (rest := []) ⟨hx, hb, hml, hown, hA⟩ (k_X9_dies l dC dI dA sz X Γ hU g q12 t_q12 x944 x951 x983   (by first | with_reducible assumption | omega) (by first | with_reducible assumption | omega) (by first | with_reducible assumption | omega) (by (repeat (first | with_reducible assumption | (refine IJ_c (by decide) (by decide) (by decide) ?_) | (refine IJ_take (by omega) (by omega) ?_) | (refine IJ_how (by omega) ?_) | (refine IJ_by (by omega) ?_))))) ⟨callB_of 3 hA (al_A wd_5_205) rfl rfl rfl (hA _ wd_1_7) (hA _ wd_5_202) (by decide +kernel) ⟨Nat.le_of_ble_eq_true rfl, Nat.le_of_ble_eq_true rfl⟩, hA _ wd_5_203, hA _ wd_5_204⟩ ⟨bl, recv_X9 hE hG t_q12, fun U hU9 hW9 => ⟨rfl, by rw [hU9]; exact hG, hE.go hS hU9 hW9⟩⟩ rfl rfl hl.1 rfl (lv_room (Nat.le_of_ble_eq_true rfl)) dL_law_864 ⟨(Nat.le_trans (show kc + 0 ≤ 300000 by omega) (Nat.le_of_ble_eq_true rfl)), (Nat.le_trans (show ks + 0 ≤ 300000 by omega) (Nat.le_of_ble_eq_true rfl))⟩) hS (fun x987 u985 H locs w986 hG hS => ?_)
      obtain ⟨hf989, hq988⟩ := w986
      refine lv_pop hx hb dL_law_867 rfl ?_
      refine lv_goto (tgt := 1047) hx hb dL_law_868 (by decide) ?_
      obtain ⟨x990, h991⟩ : ∃ y : Int32, y = i + Int32.ofInt (6) := ⟨_, rfl⟩
      try have h992 : x990.toInt = i.toInt + (6) := ty_inc h991 (by decide) (by omega) (by omega)
      refine lv_iinc (v := x990) (lv' := [(4, .int x990), (3, .ref q25), (2, .ref q12), (1, .ref q1), (0, .ref b)]) hx hb dL_law_1047 hl (k := 0) rfl h991.symm (by decide) rfl (fun ls hl => ?_)
      refine lv_goto (tgt := 23) hx hb dL_law_1050 (by decide) ?_
      have hk993 : u985 4 0 = g 4 0 := hf989 4 0 (by decide) (by decide) (by decide) (by decide) (by decide) (by decide)
      exact ih x990 Γ u985 (kc) (ks) _ _ ls (by omega) (by omega) (by rw [hf989 1 0 (by decide) (by decide) (by decide) (by decide) (by decide) (by decide), hf989 33 0 (by decide) (by decide) (by decide) (by decide) (by decide) (by decide)]; exact hi1) (by rw [hf989 2 0 (by decide) (by decide) (by decide) (by decide) (by decide) (by decide), hf989 34 0 (by decide) (by decide) (by decide) (by decide) (by decide) (by decide)]; exact hi2) (by rw [hf989 3 0 (by decide) (by decide) (by decide) (by decide) (by decide) (by decide), hf989 35 0 (by decide) (by decide) (by decide) (by decide) (by decide) (by decide)]; exact hi3) (by rw [hf989 5 0 (by decide) (by decide) (by decide) (by decide) (by decide) (by decide)]; exact hi4) (by omega) (by rw [hf989 6 0 (by decide) (by decide) (by decide) (by decide) (by decide) (by decide)]; exact hi6) (by rw [hf989 7 0 (by decide) (by decide) (by decide) (by decide) (by decide) (by decide), hf989 36 0 (by decide) (by decide) (by decide) (by decide) (by decide) (by decide)]; exact hi7) (by rw [hf989 101 0 (by decide) (by decide) (by decide) (by decide) (by decide) (by decide), hf989 1 0 (by decide) (by decide) (by decide) (by decide) (by decide) (by decide)]; exact hi8) (by rw [hf989 104 0 (by decide) (by decide) (by decide) (by decide) (by decide) (by decide), hf989 2 0 (by decide) (by decide) (by decide) (by decide) (by decide) (by decide)]; exact hi9) (by rw [hf989 112 0 (by decide) (by decide) (by decide) (by decide) (by decide) (by decide), hf989 5 0 (by decide) (by decide) (by decide) (by decide) (by decide) (by decide)]; exact hi10) (by rw [hf989 111 0 (by decide) (by decide) (by decide) (by decide) (by decide) (by decide), hf989 4 0 (by decide) (by decide) (by decide) (by decide) (by decide) (by decide)]; exact hi11) (by rw [hf989 114 0 (by decide) (by decide) (by decide) (by decide) (by decide) (by decide), hf989 6 0 (by decide) (by decide) (by decide) (by decide) (by decide) (by decide)]; exact hi12) (by rw [hf989 126 0 (by decide) (by decide) (by decide) (by decide) (by decide) (by decide)]; exact hi13) (by rw [hf989 122 0 (by decide) (by decide) (by decide) (by decide) (by decide) (by decide)]; exact hi14) (by (repeat (first | with_reducible assumption | (refine IJ_c (by decide) (by decide) (by decide) ?_) | (refine IJ_take (by omega) (by omega) ?_) | (refine IJ_how (by omega) ?_) | (refine IJ_by (by omega) ?_)))) hU t_q1 t_q12 t_q25 (by omega) (by omega) hG hS (lv_sub hl [0, 1, 2, 3, 4] rfl)
    · exfalso; omega
  · skip
    refine ty_iconst hx hb (1) dL_law_828 (by decide) (fun x994 h995 => ?_)
    refine lv_goto (tgt := 833) hx hb dL_law_829 (by decide) ?_
    refine cI (va_runV (C := RX8) (As := [.int x944, .int x951, .int x994]) (rest := []) ⟨hx, hb, hml, hown, hA⟩ (k_X8_dies l dC dI dA sz X Γ hU g q1 t_q1 x944 x951 x994   (by first | with_reducible assumption | omega) (by first | with_reducible assumption | omega) (by first | with_reducible assumption | omega)) ⟨callB_of 3 hA (al_A wd_3_236) rfl rfl rfl (hA _ wd_1_1) (hA _ wd_3_233) (by decide +kernel) ⟨Nat.le_of_ble_eq_true rfl, Nat.le_of_ble_eq_true rfl⟩, hA _ wd_3_234, hA _ wd_3_235⟩ ⟨bl, recv_X8 hE hG t_q1, fun U hU9 hW9 => ⟨rfl, by rw [hU9]; exact hG, hE.go hS hU9 hW9⟩⟩ rfl rfl hl.1 rfl (lv_room (Nat.le_of_ble_eq_true rfl)) dL_law_833 ⟨(Nat.le_trans (show kc + 0 ≤ 300000 by omega) (Nat.le_of_ble_eq_true rfl)), (Nat.le_trans (show ks + 0 ≤ 300000 by omega) (Nat.le_of_ble_eq_true rfl))⟩) hS (fun x998 u996 H locs w997 hG hS => ?_)
    have eu999 := w997
    rw [eu999] at hG
    refine lv_pop hx hb dL_law_836 rfl ?_
    refine lv_aload_n hx hb dL_law_837 rfl (lv_at hl 2 rfl) ?_
    refine lv_aload_n hx hb dL_law_838 rfl (lv_at hl 4 rfl) ?_
    refine lv_iload hx hb dL_law_839 (lv_at hl 0 rfl) ?_
    refine ty_iconst hx hb (1) dL_law_841 (by decide) (fun x1000 h1001 => ?_)
    refine ty_iadd hx hb dL_law_842 (fun x1002 h1003 => ?_)
    have h1004 := lw_ix (k := 1) h1001 h1003 hi0 hiL hLN (by decide)
    refine va_sld hx hb hXs hbl hbA hS (i := x1002) (ty_ix h1004.2) dL_law_843 ?_
    refine W.eq (g2 := F0 m 844 ls [.int (xs (i.toInt.toNat + 1)), .ref q12]) (by rw [lw_xs (xs := xs) h1004.1 hi0.1]) ?_
    clear h1004 h1003 h1001
    refine W.eq (g2 := F0 m 844 ls [.int x944, .ref q12]) (by rw [s945]) ?_
    refine lv_aload_n hx hb dL_law_844 rfl (lv_at hl 4 rfl) ?_
    refine lv_iload hx hb dL_law_845 (lv_at hl 0 rfl) ?_
    refine ty_iconst hx hb (2) dL_law_847 (by decide) (fun x1005 h1006 => ?_)
    refine ty_iadd hx hb dL_law_848 (fun x1007 h1008 => ?_)
    have h1009 := lw_ix (k := 2) h1006 h1008 hi0 hiL hLN (by decide)
    refine va_sld hx hb hXs hbl hbA hS (i := x1007) (ty_ix h1009.2) dL_law_849 ?_
    refine W.eq (g2 := F0 m 850 ls [.int (xs (i.toInt.toNat + 2)), .int x944, .ref q12]) (by rw [lw_xs (xs := xs) h1009.1 hi0.1]) ?_
    clear h1009 h1008 h1006
    refine W.eq (g2 := F0 m 850 ls [.int x951, .int x944, .ref q12]) (by rw [s952]) ?_
    refine lv_aload_n hx hb dL_law_850 rfl (lv_at hl 4 rfl) ?_
    refine lv_iload hx hb dL_law_851 (lv_at hl 0 rfl) ?_
    refine ty_iconst hx hb (3) dL_law_853 (by decide) (fun x1010 h1011 => ?_)
    refine ty_iadd hx hb dL_law_854 (fun x1012 h1013 => ?_)
    have h1014 := lw_ix (k := 3) h1011 h1013 hi0 hiL hLN (by decide)
    refine va_sld hx hb hXs hbl hbA hS (i := x1012) (ty_ix h1014.2) dL_law_855 ?_
    refine W.eq (g2 := F0 m 856 ls [.int (xs (i.toInt.toNat + 3)), .int x951, .int x944, .ref q12]) (by rw [lw_xs (xs := xs) h1014.1 hi0.1]) ?_
    clear h1014 h1013 h1011
    refine W.eq (g2 := F0 m 856 ls [.int x958, .int x951, .int x944, .ref q12]) (by rw [s959]) ?_
    refine ty_if_eq (tgt := 863) hx hb dL_law_856 (by decide) (fun c1015 => ?_) (fun c1015 => ?_)
    · skip
      refine ty_iconst hx hb (0) dL_law_863 (by decide) (fun x1016 h1017 => ?_)
      refine cI (va_runV (C := RX9) (As := [.int x944, .int x951, .int x1016]) (rest := []) ⟨hx, hb, hml, hown, hA⟩ (k_X9_dies l dC dI dA sz X Γ hU g q12 t_q12 x944 x951 x1016   (by first | with_reducible assumption | omega) (by first | with_reducible assumption | omega) (by first | with_reducible assumption | omega) (by (repeat (first | with_reducible assumption | (refine IJ_c (by decide) (by decide) (by decide) ?_) | (refine IJ_take (by omega) (by omega) ?_) | (refine IJ_how (by omega) ?_) | (refine IJ_by (by omega) ?_))))) ⟨callB_of 3 hA (al_A wd_5_205) rfl rfl rfl (hA _ wd_1_7) (hA _ wd_5_202) (by decide +kernel) ⟨Nat.le_of_ble_eq_true rfl, Nat.le_of_ble_eq_true rfl⟩, hA _ wd_5_203, hA _ wd_5_204⟩ ⟨bl, recv_X9 hE hG t_q12, fun U hU9 hW9 => ⟨rfl, by rw [hU9]; exact hG, hE.go hS hU9 hW9⟩⟩ rfl rfl hl.1 rfl (lv_room (Nat.le_of_ble_eq_true rfl)) dL_law_864 ⟨(Nat.le_trans (show kc + 0 ≤ 300000 by omega) (Nat.le_of_ble_eq_true rfl)), (Nat.le_trans (show ks + 0 ≤ 300000 by omega) (Nat.le_of_ble_eq_true rfl))⟩) hS (fun x1020 u1018 H locs w1019 hG hS => ?_)
      obtain ⟨hf1022, hq1021⟩ := w1019
      refine lv_pop hx hb dL_law_867 rfl ?_
      refine lv_goto (tgt := 1047) hx hb dL_law_868 (by decide) ?_
      obtain ⟨x1023, h1024⟩ : ∃ y : Int32, y = i + Int32.ofInt (6) := ⟨_, rfl⟩
      try have h1025 : x1023.toInt = i.toInt + (6) := ty_inc h1024 (by decide) (by omega) (by omega)
      refine lv_iinc (v := x1023) (lv' := [(4, .int x1023), (3, .ref q25), (2, .ref q12), (1, .ref q1), (0, .ref b)]) hx hb dL_law_1047 hl (k := 0) rfl h1024.symm (by decide) rfl (fun ls hl => ?_)
      refine lv_goto (tgt := 23) hx hb dL_law_1050 (by decide) ?_
      have hk1026 : u1018 4 0 = g 4 0 := hf1022 4 0 (by decide) (by decide) (by decide) (by decide) (by decide) (by decide)
      exact ih x1023 Γ u1018 (kc) (ks) _ _ ls (by omega) (by omega) (by rw [hf1022 1 0 (by decide) (by decide) (by decide) (by decide) (by decide) (by decide), hf1022 33 0 (by decide) (by decide) (by decide) (by decide) (by decide) (by decide)]; exact hi1) (by rw [hf1022 2 0 (by decide) (by decide) (by decide) (by decide) (by decide) (by decide), hf1022 34 0 (by decide) (by decide) (by decide) (by decide) (by decide) (by decide)]; exact hi2) (by rw [hf1022 3 0 (by decide) (by decide) (by decide) (by decide) (by decide) (by decide), hf1022 35 0 (by decide) (by decide) (by decide) (by decide) (by decide) (by decide)]; exact hi3) (by rw [hf1022 5 0 (by decide) (by decide) (by decide) (by decide) (by decide) (by decide)]; exact hi4) (by omega) (by rw [hf1022 6 0 (by decide) (by decide) (by decide) (by decide) (by decide) (by decide)]; exact hi6) (by rw [hf1022 7 0 (by decide) (by decide) (by decide) (by decide) (by decide) (by decide), hf1022 36 0 (by decide) (by decide) (by decide) (by decide) (by decide) (by decide)]; exact hi7) (by rw [hf1022 101 0 (by decide) (by decide) (by decide) (by decide) (by decide) (by decide), hf1022 1 0 (by decide) (by decide) (by decide) (by decide) (by decide) (by decide)]; exact hi8) (by rw [hf1022 104 0 (by decide) (by decide) (by decide) (by decide) (by decide) (by decide), hf1022 2 0 (by decide) (by decide) (by decide) (by decide) (by decide) (by decide)]; exact hi9) (by rw [hf1022 112 0 (by decide) (by decide) (by decide) (by decide) (by decide) (by decide), hf1022 5 0 (by decide) (by decide) (by decide) (by decide) (by decide) (by decide)]; exact hi10) (by rw [hf1022 111 0 (by decide) (by decide) (by decide) (by decide) (by decide) (by decide), hf1022 4 0 (by decide) (by decide) (by decide) (by decide) (by decide) (by decide)]; exact hi11) (by rw [hf1022 114 0 (by decide) (by decide) (by decide) (by decide) (by decide) (by decide), hf1022 6 0 (by decide) (by decide) (by decide) (by decide) (by decide) (by decide)]; exact hi12) (by rw [hf1022 126 0 (by decide) (by decide) (by decide) (by decide) (by decide) (by decide)]; exact hi13) (by rw [hf1022 122 0 (by decide) (by decide) (by decide) (by decide) (by decide) (by decide)]; exact hi14) (by (repeat (first | with_reducible assumption | (refine IJ_c (by decide) (by decide) (by decide) ?_) | (refine IJ_take (by omega) (by omega) ?_) | (refine IJ_how (by omega) ?_) | (refine IJ_by (by omega) ?_)))) hU t_q1 t_q12 t_q25 (by omega) (by omega) hG hS (lv_sub hl [0, 1, 2, 3, 4] rfl)
    · skip
      refine ty_iconst hx hb (1) dL_law_859 (by decide) (fun x1027 h1028 => ?_)
      refine lv_goto (tgt := 864) hx hb dL_law_860 (by decide) ?_
      refine cI (va_runV (C := RX9) (As := [.int x944, .int x951, .int x1027]) (rest := []) ⟨hx, hb, hml, hown, hA⟩ (k_X9_dies l dC dI dA sz X Γ hU g q12 t_q12 x944 x951 x1027   (by first | with_reducible assumption | omega) (by first | with_reducible assumption | omega) (by first | with_reducible assumption | omega) (by (repeat (first | with_reducible assumption | (refine IJ_c (by decide) (by decide) (by decide) ?_) | (refine IJ_take (by omega) (by omega) ?_) | (refine IJ_how (by omega) ?_) | (refine IJ_by (by omega) ?_))))) ⟨callB_of 3 hA (al_A wd_5_205) rfl rfl rfl (hA _ wd_1_7) (hA _ wd_5_202) (by decide +kernel) ⟨Nat.le_of_ble_eq_true rfl, Nat.le_of_ble_eq_true rfl⟩, hA _ wd_5_203, hA _ wd_5_204⟩ ⟨bl, recv_X9 hE hG t_q12, fun U hU9 hW9 => ⟨rfl, by rw [hU9]; exact hG, hE.go hS hU9 hW9⟩⟩ rfl rfl hl.1 rfl (lv_room (Nat.le_of_ble_eq_true rfl)) dL_law_864 ⟨(Nat.le_trans (show kc + 0 ≤ 300000 by omega) (Nat.le_of_ble_eq_true rfl)), (Nat.le_trans (show ks + 0 ≤ 300000 by omega) (Nat.le_of_ble_eq_true rfl))⟩) hS (fun x1031 u1029 H locs w1030 hG hS => ?_)
      obtain ⟨hf1033, hq1032⟩ := w1030
      refine lv_pop hx hb dL_law_867 rfl ?_
      refine lv_goto (tgt := 1047) hx hb dL_law_868 (by decide) ?_
      obtain ⟨x1034, h1035⟩ : ∃ y : Int32, y = i + Int32.ofInt (6) := ⟨_, rfl⟩
      try have h1036 : x1034.toInt = i.toInt + (6) := ty_inc h1035 (by decide) (by omega) (by omega)
      refine lv_iinc (v := x1034) (lv' := [(4, .int x1034), (3, .ref q25), (2, .ref q12), (1, .ref q1), (0, .ref b)]) hx hb dL_law_1047 hl (k := 0) rfl h1035.symm (by decide) rfl (fun ls hl => ?_)
      refine lv_goto (tgt := 23) hx hb dL_law_1050 (by decide) ?_
      have hk1037 : u1029 4 0 = g 4 0 := hf1033 4 0 (by decide) (by decide) (by decide) (by decide) (by decide) (by decide)
      exact ih x1034 Γ u1029 (kc) (ks) _ _ ls (by omega) (by omega) (by rw [hf1033 1 0 (by decide) (by decide) (by decide) (by decide) (by decide) (by decide), hf1033 33 0 (by decide) (by decide) (by decide) (by decide) (by decide) (by decide)]; exact hi1) (by rw [hf1033 2 0 (by decide) (by decide) (by decide) (by decide) (by decide) (by decide), hf1033 34 0 (by decide) (by decide) (by decide) (by decide) (by decide) (by decide)]; exact hi2) (by rw [hf1033 3 0 (by decide) (by decide) (by decide) (by decide) (by decide) (by decide), hf1033 35 0 (by decide) (by decide) (by decide) (by decide) (by decide) (by decide)]; exact hi3) (by rw [hf1033 5 0 (by decide) (by decide) (by decide) (by decide) (by decide) (by decide)]; exact hi4) (by omega) (by rw [hf1033 6 0 (by decide) (by decide) (by decide) (by decide) (by decide) (by decide)]; exact hi6) (by rw [hf1033 7 0 (by decide) (by decide) (by decide) (by decide) (by decide) (by decide), hf1033 36 0 (by decide) (by decide) (by decide) (by decide) (by decide) (by decide)]; exact hi7) (by rw [hf1033 101 0 (by decide) (by decide) (by decide) (by decide) (by decide) (by decide), hf1033 1 0 (by decide) (by decide) (by decide) (by decide) (by decide) (by decide)]; exact hi8) (by rw [hf1033 104 0 (by decide) (by decide) (by decide) (by decide) (by decide) (by decide), hf1033 2 0 (by decide) (by decide) (by decide) (by decide) (by decide) (by decide)]; exact hi9) (by rw [hf1033 112 0 (by decide) (by decide) (by decide) (by decide) (by decide) (by decide), hf1033 5 0 (by decide) (by decide) (by decide) (by decide) (by decide) (by decide)]; exact hi10) (by rw [hf1033 111 0 (by decide) (by decide) (by decide) (by decide) (by decide) (by decide), hf1033 4 0 (by decide) (by decide) (by decide) (by decide) (by decide) (by decide)]; exact hi11) (by rw [hf1033 114 0 (by decide) (by decide) (by decide) (by decide) (by decide) (by decide), hf1033 6 0 (by decide) (by decide) (by decide) (by decide) (by decide) (by decide)]; exact hi12) (by rw [hf1033 126 0 (by decide) (by decide) (by decide) (by decide) (by decide) (by decide)]; exact hi13) (by rw [hf1033 122 0 (by decide) (by decide) (by decide) (by decide) (by decide) (by decide)]; exact hi14) (by (repeat (first | with_reducible assumption | (refine IJ_c (by decide) (by decide) (by decide) ?_) | (refine IJ_take (by omega) (by omega) ?_) | (refine IJ_how (by omega) ?_) | (refine IJ_by (by omega) ?_)))) hU t_q1 t_q12 t_q25 (by omega) (by omega) hG hS (lv_sub hl [0, 1, 2, 3, 4] rfl)
set_option maxHeartbeats 40000000 in
set_option maxRecDepth 100000 in
/-- the law's case 19 -/
theorem law_c19 {p : Program} {e : Env} {s : State} {m : MethodId} {below : List Frame} {meth : Method} {c : Code} (l : Launch) (hl9 : l.stackTraces = false) {b L : Nat} {xs : Nat → Int32} (hLN : L ≤ 3072) (hx : p.tables.exec = Jvm.exec) (hb : c.code = code) (hr : meth.sig.returnType = ret) (hml : c.maxLocals = 7) (hown : s.vm.findClass R_law = some m.cls) (hA : ∀ w ∈ AL, w.before #[Value.ref b] s = true) (hXs : va_X b L xs s s.heap) (hbl : b < s.heap.size) (hlocks : meth.locks = false) {dC : Nat → ClassId} {dI : Nat → Nat → Nat} {dA : Nat → ClassId} {sz : Nat} (hE : en dC dI dA sz s) (hsz : sz = s.heap.size) (hbA : ¬ ty_A sz b) (X : va_W) (q1 q12 q25 : Nat) (n : Nat) (ih : LJ p l e s m below meth c b dC dI dA sz X q1 q12 q25 n) (i : Int32) (Γ : ty_G) (g : gh) (kc ks : Nat) (H : Heap) (locs : List Loc) (ls : Array Slot) (hm : (3073 - i.toInt : Int) < (n + 1 : Nat)) (hi0 : 0 ≤ i.toInt ∧ i.toInt ≤ 3072) (hi1 : g 1 0 = g 33 0 ∧ 0 ≤ g 1 0 ∧ g 1 0 ≤ 6) (hi2 : g 2 0 = g 34 0 ∧ 0 ≤ g 2 0 ∧ g 2 0 ≤ 10) (hi3 : g 3 0 = g 35 0 ∧ 0 ≤ g 3 0 ∧ g 3 0 ≤ 200) (hi4 : 0 ≤ g 5 0 ∧ g 5 0 ≤ 52) (hi5 : 0 ≤ g 4 0 ∧ g 4 0 ≤ i.toInt) (hi6 : 0 ≤ g 6 0 ∧ g 6 0 ≤ 300) (hi7 : 0 ≤ g 7 0 ∧ g 7 0 ≤ g 36 0 ∧ g 36 0 ≤ 9) (hi8 : g 101 0 = g 1 0) (hi9 : g 104 0 = g 2 0) (hi10 : g 112 0 = g 5 0) (hi11 : g 111 0 = g 4 0) (hi12 : g 114 0 = g 6 0) (hi13 : 0 ≤ g 126 0 ∧ g 126 0 ≤ 200) (hi14 : 0 ≤ g 122 0 ∧ g 122 0 ≤ 30) (hIJ : IJ g) (hU : Un Γ) (t_q1 : ty Γ q1 1) (t_q12 : ty Γ q12 30) (t_q25 : ty Γ q25 25) (hkc : kc ≤ 300 + i.toInt.toNat) (hks : ks ≤ 30000 + 28 * i.toInt.toNat) (hG : ty_ok (dC, dI) vwCl Γ (TP dA Γ g) sz X H) (hS : va_S (ty_A sz) s.heap H locs) (hl : lv_has ls 7 [(4, .int i), (3, .ref q25), (2, .ref q12), (1, .ref q1), (0, .ref b)]) (hiL : i.toInt + 6 ≤ (L : Int)) : W p l e room_1 s m #[Value.ref b] below meth c H locs kc ks (lw_Z below #[Value.ref b] s) (F0 m 871 ls []) := by
  refine lv_aload_n hx hb dL_law_871 rfl (lv_at hl 3 rfl) ?_
  refine lv_aload_n hx hb dL_law_872 rfl (lv_at hl 4 rfl) ?_
  refine lv_iload hx hb dL_law_873 (lv_at hl 0 rfl) ?_
  refine ty_iconst hx hb (1) dL_law_875 (by decide) (fun x1038 h1039 => ?_)
  refine ty_iadd hx hb dL_law_876 (fun x1040 h1041 => ?_)
  have h1042 := lw_ix (k := 1) h1039 h1041 hi0 hiL hLN (by decide)
  refine va_sld hx hb hXs hbl hbA hS (i := x1040) (ty_ix h1042.2) dL_law_877 ?_
  refine W.eq (g2 := F0 m 878 ls [.int (xs (i.toInt.toNat + 1)), .ref q1]) (by rw [lw_xs (xs := xs) h1042.1 hi0.1]) ?_
  clear h1042 h1041 h1039
  refine lv_topi (fun x1043 s1044 => ?_)
  refine lv_aload_n hx hb dL_law_878 rfl (lv_at hl 4 rfl) ?_
  refine lv_iload hx hb dL_law_879 (lv_at hl 0 rfl) ?_
  refine ty_iconst hx hb (2) dL_law_881 (by decide) (fun x1045 h1046 => ?_)
  refine ty_iadd hx hb dL_law_882 (fun x1047 h1048 => ?_)
  have h1049 := lw_ix (k := 2) h1046 h1048 hi0 hiL hLN (by decide)
  refine va_sld hx hb hXs hbl hbA hS (i := x1047) (ty_ix h1049.2) dL_law_883 ?_
  refine W.eq (g2 := F0 m 884 ls [.int (xs (i.toInt.toNat + 2)), .int x1043, .ref q1]) (by rw [lw_xs (xs := xs) h1049.1 hi0.1]) ?_
  clear h1049 h1048 h1046
  refine lv_topi (fun x1050 s1051 => ?_)
  refine cI (va_runV (C := RX8) (As := [.int x1043, .int x1050]) (rest := []) ⟨hx, hb, hml, hown, hA⟩ (k_X8_fees l dC dI dA sz X Γ hU g q1 t_q1 x1043 x1050   (by first | with_reducible assumption | omega)) ⟨callB_of 2 hA (al_A wd_4_4) rfl rfl rfl (hA _ wd_1_1) (hA _ wd_4_1) (by decide +kernel) ⟨Nat.le_of_ble_eq_true rfl, Nat.le_of_ble_eq_true rfl⟩, hA _ wd_4_2, hA _ wd_4_3⟩ ⟨bl, recv_X8 hE hG t_q1, fun U hU9 hW9 => ⟨rfl, by rw [hU9]; exact hG, hE.go hS hU9 hW9⟩⟩ rfl rfl hl.1 rfl (lv_room (Nat.le_of_ble_eq_true rfl)) dL_law_884 ⟨(Nat.le_trans (show kc + 0 ≤ 300000 by omega) (Nat.le_of_ble_eq_true rfl)), (Nat.le_trans (show ks + 0 ≤ 300000 by omega) (Nat.le_of_ble_eq_true rfl))⟩) hS (fun x1054 u1052 H locs w1053 hG hS => ?_)
  have hf1055 := w1053
  have hj1056 : IJ u1052 := IJ_cg (hf1055 126 0 (by decide) (by decide) (by decide)) (fun j => hf1055 132 j (by decide) (by decide) (by decide)) (fun j => hf1055 134 j (by decide) (by decide) (by decide)) (by (repeat (first | with_reducible assumption | (refine IJ_c (by decide) (by decide) (by decide) ?_) | (refine IJ_take (by omega) (by omega) ?_) | (refine IJ_how (by omega) ?_) | (refine IJ_by (by omega) ?_))))
  refine lv_pop hx hb dL_law_887 rfl ?_
  refine lv_aload_n hx hb dL_law_888 rfl (lv_at hl 2 rfl) ?_
  refine lv_aload_n hx hb dL_law_889 rfl (lv_at hl 4 rfl) ?_
  refine lv_iload hx hb dL_law_890 (lv_at hl 0 rfl) ?_
  refine ty_iconst hx hb (1) dL_law_892 (by decide) (fun x1057 h1058 => ?_)
  refine ty_iadd hx hb dL_law_893 (fun x1059 h1060 => ?_)
  have h1061 := lw_ix (k := 1) h1058 h1060 hi0 hiL hLN (by decide)
  refine va_sld hx hb hXs hbl hbA hS (i := x1059) (ty_ix h1061.2) dL_law_894 ?_
  refine W.eq (g2 := F0 m 895 ls [.int (xs (i.toInt.toNat + 1)), .ref q12]) (by rw [lw_xs (xs := xs) h1061.1 hi0.1]) ?_
  clear h1061 h1060 h1058
  refine W.eq (g2 := F0 m 895 ls [.int x1043, .ref q12]) (by rw [s1044]) ?_
  refine lv_aload_n hx hb dL_law_895 rfl (lv_at hl 4 rfl) ?_
  refine lv_iload hx hb dL_law_896 (lv_at hl 0 rfl) ?_
  refine ty_iconst hx hb (2) dL_law_898 (by decide) (fun x1062 h1063 => ?_)
  refine ty_iadd hx hb dL_law_899 (fun x1064 h1065 => ?_)
  have h1066 := lw_ix (k := 2) h1063 h1065 hi0 hiL hLN (by decide)
  refine va_sld hx hb hXs hbl hbA hS (i := x1064) (ty_ix h1066.2) dL_law_900 ?_
  refine W.eq (g2 := F0 m 901 ls [.int (xs (i.toInt.toNat + 2)), .int x1043, .ref q12]) (by rw [lw_xs (xs := xs) h1066.1 hi0.1]) ?_
  clear h1066 h1065 h1063
  refine W.eq (g2 := F0 m 901 ls [.int x1050, .int x1043, .ref q12]) (by rw [s1051]) ?_
  have hk1067 : u1052 104 0 = g 104 0 := hf1055 104 0 (by decide) (by decide) (by decide)
  refine cI (va_runV (C := RX9) (As := [.int x1043, .int x1050]) (rest := []) ⟨hx, hb, hml, hown, hA⟩ (k_X9_fees l dC dI dA sz X Γ hU u1052 q12 t_q12 x1043 x1050   (by first | with_reducible assumption | omega)) ⟨callB_of 2 hA (al_A wd_5_213) rfl rfl rfl (hA _ wd_1_7) (hA _ wd_5_210) (by decide +kernel) ⟨Nat.le_of_ble_eq_true rfl, Nat.le_of_ble_eq_true rfl⟩, hA _ wd_5_211, hA _ wd_5_212⟩ ⟨bl, recv_X9 hE hG t_q12, fun U hU9 hW9 => ⟨rfl, by rw [hU9]; exact hG, hE.go hS hU9 hW9⟩⟩ rfl rfl hl.1 rfl (lv_room (Nat.le_of_ble_eq_true rfl)) dL_law_901 ⟨(Nat.le_trans (show kc + 0 ≤ 300000 by omega) (Nat.le_of_ble_eq_true rfl)), (Nat.le_trans (show ks + 0 ≤ 300000 by omega) (Nat.le_of_ble_eq_true rfl))⟩) hS (fun x1070 u1068 H locs w1069 hG hS => ?_)
  have hf1071 := w1069
  have hj1072 : IJ u1068 := IJ_cg (hf1071 126 0 (by decide) (by decide)) (fun j => hf1071 132 j (by decide) (by decide)) (fun j => hf1071 134 j (by decide) (by decide)) (by (repeat (first | with_reducible assumption | (refine IJ_c (by decide) (by decide) (by decide) ?_) | (refine IJ_take (by omega) (by omega) ?_) | (refine IJ_how (by omega) ?_) | (refine IJ_by (by omega) ?_))))
  refine lv_pop hx hb dL_law_904 rfl ?_
  refine lv_goto (tgt := 1047) hx hb dL_law_905 (by decide) ?_
  obtain ⟨x1073, h1074⟩ : ∃ y : Int32, y = i + Int32.ofInt (6) := ⟨_, rfl⟩
  try have h1075 : x1073.toInt = i.toInt + (6) := ty_inc h1074 (by decide) (by omega) (by omega)
  refine lv_iinc (v := x1073) (lv' := [(4, .int x1073), (3, .ref q25), (2, .ref q12), (1, .ref q1), (0, .ref b)]) hx hb dL_law_1047 hl (k := 0) rfl h1074.symm (by decide) rfl (fun ls hl => ?_)
  refine lv_goto (tgt := 23) hx hb dL_law_1050 (by decide) ?_
  have hk1076 : u1068 4 0 = u1052 4 0 := hf1071 4 0 (by decide) (by decide)
  have hk1077 : u1052 4 0 = g 4 0 := hf1055 4 0 (by decide) (by decide) (by decide)
  exact ih x1073 Γ u1068 (kc) (ks) _ _ ls (by omega) (by omega) (by rw [hf1071 1 0 (by decide) (by decide), hf1055 1 0 (by decide) (by decide) (by decide), hf1071 33 0 (by decide) (by decide), hf1055 33 0 (by decide) (by decide) (by decide)]; exact hi1) (by rw [hf1071 2 0 (by decide) (by decide), hf1055 2 0 (by decide) (by decide) (by decide), hf1071 34 0 (by decide) (by decide), hf1055 34 0 (by decide) (by decide) (by decide)]; exact hi2) (by rw [hf1071 3 0 (by decide) (by decide), hf1055 3 0 (by decide) (by decide) (by decide), hf1071 35 0 (by decide) (by decide), hf1055 35 0 (by decide) (by decide) (by decide)]; exact hi3) (by rw [hf1071 5 0 (by decide) (by decide), hf1055 5 0 (by decide) (by decide) (by decide)]; exact hi4) (by omega) (by rw [hf1071 6 0 (by decide) (by decide), hf1055 6 0 (by decide) (by decide) (by decide)]; exact hi6) (by rw [hf1071 7 0 (by decide) (by decide), hf1055 7 0 (by decide) (by decide) (by decide), hf1071 36 0 (by decide) (by decide), hf1055 36 0 (by decide) (by decide) (by decide)]; exact hi7) (by rw [hf1071 101 0 (by decide) (by decide), hf1055 101 0 (by decide) (by decide) (by decide), hf1071 1 0 (by decide) (by decide), hf1055 1 0 (by decide) (by decide) (by decide)]; exact hi8) (by rw [hf1071 104 0 (by decide) (by decide), hf1055 104 0 (by decide) (by decide) (by decide), hf1071 2 0 (by decide) (by decide), hf1055 2 0 (by decide) (by decide) (by decide)]; exact hi9) (by rw [hf1071 112 0 (by decide) (by decide), hf1055 112 0 (by decide) (by decide) (by decide), hf1071 5 0 (by decide) (by decide), hf1055 5 0 (by decide) (by decide) (by decide)]; exact hi10) (by rw [hf1071 111 0 (by decide) (by decide), hf1055 111 0 (by decide) (by decide) (by decide), hf1071 4 0 (by decide) (by decide), hf1055 4 0 (by decide) (by decide) (by decide)]; exact hi11) (by rw [hf1071 114 0 (by decide) (by decide), hf1055 114 0 (by decide) (by decide) (by decide), hf1071 6 0 (by decide) (by decide), hf1055 6 0 (by decide) (by decide) (by decide)]; exact hi12) (by rw [hf1071 126 0 (by decide) (by decide), hf1055 126 0 (by decide) (by decide) (by decide)]; exact hi13) (by rw [hf1071 122 0 (by decide) (by decide), hf1055 122 0 (by decide) (by decide) (by decide)]; exact hi14) (by (repeat (first | with_reducible assumption | (refine IJ_c (by decide) (by decide) (by decide) ?_) | (refine IJ_take (by omega) (by omega) ?_) | (refine IJ_how (by omega) ?_) | (refine IJ_by (by omega) ?_)))) hU t_q1 t_q12 t_q25 (by omega) (by omega) hG hS (lv_sub hl [0, 1, 2, 3, 4] rfl)
set_option maxHeartbeats 40000000 in
set_option maxRecDepth 100000 in
/-- the law's case 20 -/
theorem law_c20 {p : Program} {e : Env} {s : State} {m : MethodId} {below : List Frame} {meth : Method} {c : Code} (l : Launch) (hl9 : l.stackTraces = false) {b L : Nat} {xs : Nat → Int32} (hLN : L ≤ 3072) (hx : p.tables.exec = Jvm.exec) (hb : c.code = code) (hr : meth.sig.returnType = ret) (hml : c.maxLocals = 7) (hown : s.vm.findClass R_law = some m.cls) (hA : ∀ w ∈ AL, w.before #[Value.ref b] s = true) (hXs : va_X b L xs s s.heap) (hbl : b < s.heap.size) (hlocks : meth.locks = false) {dC : Nat → ClassId} {dI : Nat → Nat → Nat} {dA : Nat → ClassId} {sz : Nat} (hE : en dC dI dA sz s) (hsz : sz = s.heap.size) (hbA : ¬ ty_A sz b) (X : va_W) (q1 q12 q25 : Nat) (n : Nat) (ih : LJ p l e s m below meth c b dC dI dA sz X q1 q12 q25 n) (i : Int32) (Γ : ty_G) (g : gh) (kc ks : Nat) (H : Heap) (locs : List Loc) (ls : Array Slot) (hm : (3073 - i.toInt : Int) < (n + 1 : Nat)) (hi0 : 0 ≤ i.toInt ∧ i.toInt ≤ 3072) (hi1 : g 1 0 = g 33 0 ∧ 0 ≤ g 1 0 ∧ g 1 0 ≤ 6) (hi2 : g 2 0 = g 34 0 ∧ 0 ≤ g 2 0 ∧ g 2 0 ≤ 10) (hi3 : g 3 0 = g 35 0 ∧ 0 ≤ g 3 0 ∧ g 3 0 ≤ 200) (hi4 : 0 ≤ g 5 0 ∧ g 5 0 ≤ 52) (hi5 : 0 ≤ g 4 0 ∧ g 4 0 ≤ i.toInt) (hi6 : 0 ≤ g 6 0 ∧ g 6 0 ≤ 300) (hi7 : 0 ≤ g 7 0 ∧ g 7 0 ≤ g 36 0 ∧ g 36 0 ≤ 9) (hi8 : g 101 0 = g 1 0) (hi9 : g 104 0 = g 2 0) (hi10 : g 112 0 = g 5 0) (hi11 : g 111 0 = g 4 0) (hi12 : g 114 0 = g 6 0) (hi13 : 0 ≤ g 126 0 ∧ g 126 0 ≤ 200) (hi14 : 0 ≤ g 122 0 ∧ g 122 0 ≤ 30) (hIJ : IJ g) (hU : Un Γ) (t_q1 : ty Γ q1 1) (t_q12 : ty Γ q12 30) (t_q25 : ty Γ q25 25) (hkc : kc ≤ 300 + i.toInt.toNat) (hks : ks ≤ 30000 + 28 * i.toInt.toNat) (hG : ty_ok (dC, dI) vwCl Γ (TP dA Γ g) sz X H) (hS : va_S (ty_A sz) s.heap H locs) (hl : lv_has ls 7 [(4, .int i), (3, .ref q25), (2, .ref q12), (1, .ref q1), (0, .ref b)]) (hiL : i.toInt + 6 ≤ (L : Int)) : W p l e room_1 s m #[Value.ref b] below meth c H locs kc ks (lw_Z below #[Value.ref b] s) (F0 m 908 ls []) := by
  refine lv_aload_n hx hb dL_law_908 rfl (lv_at hl 3 rfl) ?_
  refine lv_aload_n hx hb dL_law_909 rfl (lv_at hl 4 rfl) ?_
  refine lv_iload hx hb dL_law_910 (lv_at hl 0 rfl) ?_
  refine ty_iconst hx hb (1) dL_law_912 (by decide) (fun x1078 h1079 => ?_)
  refine ty_iadd hx hb dL_law_913 (fun x1080 h1081 => ?_)
  have h1082 := lw_ix (k := 1) h1079 h1081 hi0 hiL hLN (by decide)
  refine va_sld hx hb hXs hbl hbA hS (i := x1080) (ty_ix h1082.2) dL_law_914 ?_
  refine W.eq (g2 := F0 m 915 ls [.int (xs (i.toInt.toNat + 1)), .ref q1]) (by rw [lw_xs (xs := xs) h1082.1 hi0.1]) ?_
  clear h1082 h1081 h1079
  refine lv_topi (fun x1083 s1084 => ?_)
  refine lv_aload_n hx hb dL_law_915 rfl (lv_at hl 4 rfl) ?_
  refine lv_iload hx hb dL_law_916 (lv_at hl 0 rfl) ?_
  refine ty_iconst hx hb (2) dL_law_918 (by decide) (fun x1085 h1086 => ?_)
  refine ty_iadd hx hb dL_law_919 (fun x1087 h1088 => ?_)
  have h1089 := lw_ix (k := 2) h1086 h1088 hi0 hiL hLN (by decide)
  refine va_sld hx hb hXs hbl hbA hS (i := x1087) (ty_ix h1089.2) dL_law_920 ?_
  refine W.eq (g2 := F0 m 921 ls [.int (xs (i.toInt.toNat + 2)), .int x1083, .ref q1]) (by rw [lw_xs (xs := xs) h1089.1 hi0.1]) ?_
  clear h1089 h1088 h1086
  refine lv_topi (fun x1090 s1091 => ?_)
  refine cI (va_runV (C := RX8) (As := [.int x1083, .int x1090]) (rest := []) ⟨hx, hb, hml, hown, hA⟩ (k_X8_party l dC dI dA sz X Γ hU g q1 t_q1 x1083 x1090   (by first | with_reducible assumption | omega)) ⟨callB_of 2 hA (al_A wd_4_33) rfl rfl rfl (hA _ wd_1_1) (hA _ wd_4_30) (by decide +kernel) ⟨Nat.le_of_ble_eq_true rfl, Nat.le_of_ble_eq_true rfl⟩, hA _ wd_4_31, hA _ wd_4_32⟩ ⟨bl, recv_X8 hE hG t_q1, fun U hU9 hW9 => ⟨rfl, by rw [hU9]; exact hG, hE.go hS hU9 hW9⟩⟩ rfl rfl hl.1 rfl (lv_room (Nat.le_of_ble_eq_true rfl)) dL_law_921 ⟨(Nat.le_trans (show kc + 0 ≤ 300000 by omega) (Nat.le_of_ble_eq_true rfl)), (Nat.le_trans (show ks + 0 ≤ 300000 by omega) (Nat.le_of_ble_eq_true rfl))⟩) hS (fun x1094 u1092 H locs w1093 hG hS => ?_)
  have eu1095 := w1093
  rw [eu1095] at hG
  refine lv_pop hx hb dL_law_924 rfl ?_
  refine lv_aload_n hx hb dL_law_925 rfl (lv_at hl 2 rfl) ?_
  refine lv_aload_n hx hb dL_law_926 rfl (lv_at hl 4 rfl) ?_
  refine lv_iload hx hb dL_law_927 (lv_at hl 0 rfl) ?_
  refine ty_iconst hx hb (1) dL_law_929 (by decide) (fun x1096 h1097 => ?_)
  refine ty_iadd hx hb dL_law_930 (fun x1098 h1099 => ?_)
  have h1100 := lw_ix (k := 1) h1097 h1099 hi0 hiL hLN (by decide)
  refine va_sld hx hb hXs hbl hbA hS (i := x1098) (ty_ix h1100.2) dL_law_931 ?_
  refine W.eq (g2 := F0 m 932 ls [.int (xs (i.toInt.toNat + 1)), .ref q12]) (by rw [lw_xs (xs := xs) h1100.1 hi0.1]) ?_
  clear h1100 h1099 h1097
  refine W.eq (g2 := F0 m 932 ls [.int x1083, .ref q12]) (by rw [s1084]) ?_
  refine lv_aload_n hx hb dL_law_932 rfl (lv_at hl 4 rfl) ?_
  refine lv_iload hx hb dL_law_933 (lv_at hl 0 rfl) ?_
  refine ty_iconst hx hb (2) dL_law_935 (by decide) (fun x1101 h1102 => ?_)
  refine ty_iadd hx hb dL_law_936 (fun x1103 h1104 => ?_)
  have h1105 := lw_ix (k := 2) h1102 h1104 hi0 hiL hLN (by decide)
  refine va_sld hx hb hXs hbl hbA hS (i := x1103) (ty_ix h1105.2) dL_law_937 ?_
  refine W.eq (g2 := F0 m 938 ls [.int (xs (i.toInt.toNat + 2)), .int x1083, .ref q12]) (by rw [lw_xs (xs := xs) h1105.1 hi0.1]) ?_
  clear h1105 h1104 h1102
  refine W.eq (g2 := F0 m 938 ls [.int x1090, .int x1083, .ref q12]) (by rw [s1091]) ?_
  refine cI (va_runV (C := RX9) (As := [.int x1083, .int x1090]) (rest := []) ⟨hx, hb, hml, hown, hA⟩ (k_X9_party l dC dI dA sz X Γ hU g q12 t_q12 x1083 x1090   (by first | with_reducible assumption | omega) (by first | with_reducible assumption | omega)) ⟨callB_of 2 hA (al_A wd_5_226) rfl rfl rfl (hA _ wd_1_7) (hA _ wd_5_223) (by decide +kernel) ⟨Nat.le_of_ble_eq_true rfl, Nat.le_of_ble_eq_true rfl⟩, hA _ wd_5_224, hA _ wd_5_225⟩ ⟨bl, recv_X9 hE hG t_q12, fun U hU9 hW9 => ⟨rfl, by rw [hU9]; exact hG, hE.go hS hU9 hW9⟩⟩ rfl rfl hl.1 rfl (lv_room (Nat.le_of_ble_eq_true rfl)) dL_law_938 ⟨(Nat.le_trans (show kc + 0 ≤ 300000 by omega) (Nat.le_of_ble_eq_true rfl)), (Nat.le_trans (show ks + 0 ≤ 300000 by omega) (Nat.le_of_ble_eq_true rfl))⟩) hS (fun x1108 u1106 H locs w1107 hG hS => ?_)
  have hf1109 := w1107
  have hj1110 : IJ u1106 := IJ_cg (hf1109 126 0 (by decide)) (fun j => hf1109 132 j (by decide)) (fun j => hf1109 134 j (by decide)) (by (repeat (first | with_reducible assumption | (refine IJ_c (by decide) (by decide) (by decide) ?_) | (refine IJ_take (by omega) (by omega) ?_) | (refine IJ_how (by omega) ?_) | (refine IJ_by (by omega) ?_))))
  refine lv_pop hx hb dL_law_941 rfl ?_
  refine lv_goto (tgt := 1047) hx hb dL_law_942 (by decide) ?_
  obtain ⟨x1111, h1112⟩ : ∃ y : Int32, y = i + Int32.ofInt (6) := ⟨_, rfl⟩
  try have h1113 : x1111.toInt = i.toInt + (6) := ty_inc h1112 (by decide) (by omega) (by omega)
  refine lv_iinc (v := x1111) (lv' := [(4, .int x1111), (3, .ref q25), (2, .ref q12), (1, .ref q1), (0, .ref b)]) hx hb dL_law_1047 hl (k := 0) rfl h1112.symm (by decide) rfl (fun ls hl => ?_)
  refine lv_goto (tgt := 23) hx hb dL_law_1050 (by decide) ?_
  have hk1114 : u1106 4 0 = g 4 0 := hf1109 4 0 (by decide)
  exact ih x1111 Γ u1106 (kc) (ks) _ _ ls (by omega) (by omega) (by rw [hf1109 1 0 (by decide), hf1109 33 0 (by decide)]; exact hi1) (by rw [hf1109 2 0 (by decide), hf1109 34 0 (by decide)]; exact hi2) (by rw [hf1109 3 0 (by decide), hf1109 35 0 (by decide)]; exact hi3) (by rw [hf1109 5 0 (by decide)]; exact hi4) (by omega) (by rw [hf1109 6 0 (by decide)]; exact hi6) (by rw [hf1109 7 0 (by decide), hf1109 36 0 (by decide)]; exact hi7) (by rw [hf1109 101 0 (by decide), hf1109 1 0 (by decide)]; exact hi8) (by rw [hf1109 104 0 (by decide), hf1109 2 0 (by decide)]; exact hi9) (by rw [hf1109 112 0 (by decide), hf1109 5 0 (by decide)]; exact hi10) (by rw [hf1109 111 0 (by decide), hf1109 4 0 (by decide)]; exact hi11) (by rw [hf1109 114 0 (by decide), hf1109 6 0 (by decide)]; exact hi12) (by rw [hf1109 126 0 (by decide)]; exact hi13) (by rw [hf1109 122 0 (by decide)]; exact hi14) (by (repeat (first | with_reducible assumption | (refine IJ_c (by decide) (by decide) (by decide) ?_) | (refine IJ_take (by omega) (by omega) ?_) | (refine IJ_how (by omega) ?_) | (refine IJ_by (by omega) ?_)))) hU t_q1 t_q12 t_q25 (by omega) (by omega) hG hS (lv_sub hl [0, 1, 2, 3, 4] rfl)
set_option maxHeartbeats 40000000 in
set_option maxRecDepth 100000 in
/-- the law's case 21 -/
theorem law_c21 {p : Program} {e : Env} {s : State} {m : MethodId} {below : List Frame} {meth : Method} {c : Code} (l : Launch) (hl9 : l.stackTraces = false) {b L : Nat} {xs : Nat → Int32} (hLN : L ≤ 3072) (hx : p.tables.exec = Jvm.exec) (hb : c.code = code) (hr : meth.sig.returnType = ret) (hml : c.maxLocals = 7) (hown : s.vm.findClass R_law = some m.cls) (hA : ∀ w ∈ AL, w.before #[Value.ref b] s = true) (hXs : va_X b L xs s s.heap) (hbl : b < s.heap.size) (hlocks : meth.locks = false) {dC : Nat → ClassId} {dI : Nat → Nat → Nat} {dA : Nat → ClassId} {sz : Nat} (hE : en dC dI dA sz s) (hsz : sz = s.heap.size) (hbA : ¬ ty_A sz b) (X : va_W) (q1 q12 q25 : Nat) (n : Nat) (ih : LJ p l e s m below meth c b dC dI dA sz X q1 q12 q25 n) (i : Int32) (Γ : ty_G) (g : gh) (kc ks : Nat) (H : Heap) (locs : List Loc) (ls : Array Slot) (hm : (3073 - i.toInt : Int) < (n + 1 : Nat)) (hi0 : 0 ≤ i.toInt ∧ i.toInt ≤ 3072) (hi1 : g 1 0 = g 33 0 ∧ 0 ≤ g 1 0 ∧ g 1 0 ≤ 6) (hi2 : g 2 0 = g 34 0 ∧ 0 ≤ g 2 0 ∧ g 2 0 ≤ 10) (hi3 : g 3 0 = g 35 0 ∧ 0 ≤ g 3 0 ∧ g 3 0 ≤ 200) (hi4 : 0 ≤ g 5 0 ∧ g 5 0 ≤ 52) (hi5 : 0 ≤ g 4 0 ∧ g 4 0 ≤ i.toInt) (hi6 : 0 ≤ g 6 0 ∧ g 6 0 ≤ 300) (hi7 : 0 ≤ g 7 0 ∧ g 7 0 ≤ g 36 0 ∧ g 36 0 ≤ 9) (hi8 : g 101 0 = g 1 0) (hi9 : g 104 0 = g 2 0) (hi10 : g 112 0 = g 5 0) (hi11 : g 111 0 = g 4 0) (hi12 : g 114 0 = g 6 0) (hi13 : 0 ≤ g 126 0 ∧ g 126 0 ≤ 200) (hi14 : 0 ≤ g 122 0 ∧ g 122 0 ≤ 30) (hIJ : IJ g) (hU : Un Γ) (t_q1 : ty Γ q1 1) (t_q12 : ty Γ q12 30) (t_q25 : ty Γ q25 25) (hkc : kc ≤ 300 + i.toInt.toNat) (hks : ks ≤ 30000 + 28 * i.toInt.toNat) (hG : ty_ok (dC, dI) vwCl Γ (TP dA Γ g) sz X H) (hS : va_S (ty_A sz) s.heap H locs) (hl : lv_has ls 7 [(4, .int i), (3, .ref q25), (2, .ref q12), (1, .ref q1), (0, .ref b)]) (hiL : i.toInt + 6 ≤ (L : Int)) : W p l e room_1 s m #[Value.ref b] below meth c H locs kc ks (lw_Z below #[Value.ref b] s) (F0 m 945 ls []) := by
  refine lv_aload_n hx hb dL_law_945 rfl (lv_at hl 3 rfl) ?_
  refine lv_aload_n hx hb dL_law_946 rfl (lv_at hl 4 rfl) ?_
  refine lv_iload hx hb dL_law_947 (lv_at hl 0 rfl) ?_
  refine ty_iconst hx hb (1) dL_law_949 (by decide) (fun x1115 h1116 => ?_)
  refine ty_iadd hx hb dL_law_950 (fun x1117 h1118 => ?_)
  have h1119 := lw_ix (k := 1) h1116 h1118 hi0 hiL hLN (by decide)
  refine va_sld hx hb hXs hbl hbA hS (i := x1117) (ty_ix h1119.2) dL_law_951 ?_
  refine W.eq (g2 := F0 m 952 ls [.int (xs (i.toInt.toNat + 1)), .ref q1]) (by rw [lw_xs (xs := xs) h1119.1 hi0.1]) ?_
  clear h1119 h1118 h1116
  refine lv_topi (fun x1120 s1121 => ?_)
  refine lv_aload_n hx hb dL_law_952 rfl (lv_at hl 4 rfl) ?_
  refine lv_iload hx hb dL_law_953 (lv_at hl 0 rfl) ?_
  refine ty_iconst hx hb (2) dL_law_955 (by decide) (fun x1122 h1123 => ?_)
  refine ty_iadd hx hb dL_law_956 (fun x1124 h1125 => ?_)
  have h1126 := lw_ix (k := 2) h1123 h1125 hi0 hiL hLN (by decide)
  refine va_sld hx hb hXs hbl hbA hS (i := x1124) (ty_ix h1126.2) dL_law_957 ?_
  refine W.eq (g2 := F0 m 958 ls [.int (xs (i.toInt.toNat + 2)), .int x1120, .ref q1]) (by rw [lw_xs (xs := xs) h1126.1 hi0.1]) ?_
  clear h1126 h1125 h1123
  refine lv_topi (fun x1127 s1128 => ?_)
  refine lv_aload_n hx hb dL_law_958 rfl (lv_at hl 1 rfl) ?_
  refine vx_calli (vx_runSX (As := [.ref q1, .int x1120, .int x1127, .ref q25]) (rest := []) ⟨hx, hb, hml, hown, hA⟩ (k_L_of l hl9 dC dI dA sz X Γ hU g q1 t_q1 x1120 x1127 q25 t_q25 (by omega)) (vx_cwSW 4 hA (al_s4 (al wt_4_52 rfl) wd_4_50 wd_4_51 wd_1_0) rfl rfl rfl (by decide +kernel) ⟨Nat.le_of_ble_eq_true rfl, Nat.le_of_ble_eq_true rfl⟩) ⟨bl, fun U hU9 hW9 => ⟨rfl, by rw [hU9]; exact hG, hE.go hS hU9 hW9⟩⟩ rfl rfl hl.1 rfl (lv_room (Nat.le_of_ble_eq_true rfl)) dL_law_959 ⟨(Nat.le_trans (show kc + 1 ≤ 300000 by omega) (Nat.le_of_ble_eq_true rfl)), (Nat.le_trans (show ks + 6 ≤ 300000 by omega) (Nat.le_of_ble_eq_true rfl))⟩) hS (fun _ _ h => h) (fun _ h => h) (fun _ _ h => h) (fun E ce q9 u t H1 locs1 ht _ hp hB _ _ hS hce hcv hcl => hp.elim) (fun x1129 u1130 t9 H locs ht9 _ w1131 hB _ _ hS => ?_)
  have hG : ty_ok (dC, dI) vwCl Γ (TP dA Γ u1130) sz X H := by rw [← ht9]; exact hB
  rw [show u1130 = g from w1131] at hG
  clear hB
  refine lv_istore (lv' := [(5, .int x1129), (4, .int i), (3, .ref q25), (2, .ref q12), (1, .ref q1), (0, .ref b)]) hx hb dL_law_962 hl (by decide) rfl (fun ls hl => ?_)
  refine lv_aload_n hx hb dL_law_964 rfl (lv_at hl 3 rfl) ?_
  refine lv_aload_n hx hb dL_law_965 rfl (lv_at hl 5 rfl) ?_
  refine lv_iload hx hb dL_law_966 (lv_at hl 1 rfl) ?_
  refine ty_iconst hx hb (1) dL_law_968 (by decide) (fun x1132 h1133 => ?_)
  refine ty_iadd hx hb dL_law_969 (fun x1134 h1135 => ?_)
  have h1136 := lw_ix (k := 1) h1133 h1135 hi0 hiL hLN (by decide)
  refine va_sld hx hb hXs hbl hbA hS (i := x1134) (ty_ix h1136.2) dL_law_970 ?_
  refine W.eq (g2 := F0 m 971 ls [.int (xs (i.toInt.toNat + 1)), .ref q12]) (by rw [lw_xs (xs := xs) h1136.1 hi0.1]) ?_
  clear h1136 h1135 h1133
  refine W.eq (g2 := F0 m 971 ls [.int x1120, .ref q12]) (by rw [s1121]) ?_
  refine lv_aload_n hx hb dL_law_971 rfl (lv_at hl 5 rfl) ?_
  refine lv_iload hx hb dL_law_972 (lv_at hl 1 rfl) ?_
  refine ty_iconst hx hb (2) dL_law_974 (by decide) (fun x1137 h1138 => ?_)
  refine ty_iadd hx hb dL_law_975 (fun x1139 h1140 => ?_)
  have h1141 := lw_ix (k := 2) h1138 h1140 hi0 hiL hLN (by decide)
  refine va_sld hx hb hXs hbl hbA hS (i := x1139) (ty_ix h1141.2) dL_law_976 ?_
  refine W.eq (g2 := F0 m 977 ls [.int (xs (i.toInt.toNat + 2)), .int x1120, .ref q12]) (by rw [lw_xs (xs := xs) h1141.1 hi0.1]) ?_
  clear h1141 h1140 h1138
  refine W.eq (g2 := F0 m 977 ls [.int x1127, .int x1120, .ref q12]) (by rw [s1128]) ?_
  refine cI (va_runV (C := RX9) (As := [.int x1120, .int x1127]) (rest := []) ⟨hx, hb, hml, hown, hA⟩ (k_X9_of l dC dI dA sz X Γ hU g q12 t_q12 x1120 x1127   (by first | with_reducible assumption | omega)) ⟨callB_of 2 hA (al_A wd_5_230) rfl rfl rfl (hA _ wd_1_7) (hA _ wd_5_227) (by decide +kernel) ⟨Nat.le_of_ble_eq_true rfl, Nat.le_of_ble_eq_true rfl⟩, hA _ wd_5_228, hA _ wd_5_229⟩ ⟨bl, recv_X9 hE hG t_q12, fun U hU9 hW9 => ⟨rfl, by rw [hU9]; exact hG, hE.go hS hU9 hW9⟩⟩ rfl rfl hl.1 rfl (lv_room (Nat.le_of_ble_eq_true rfl)) dL_law_977 ⟨(Nat.le_trans (show (kc + 1) + 0 ≤ 300000 by omega) (Nat.le_of_ble_eq_true rfl)), (Nat.le_trans (show (ks + 6) + 0 ≤ 300000 by omega) (Nat.le_of_ble_eq_true rfl))⟩) hS (fun x1144 u1142 H locs w1143 hG hS => ?_)
  have hf1145 := w1143
  have hj1146 : IJ u1142 := IJ_cg (hf1145 126 0 (by decide)) (fun j => hf1145 132 j (by decide)) (fun j => hf1145 134 j (by decide)) (by (repeat (first | with_reducible assumption | (refine IJ_c (by decide) (by decide) (by decide) ?_) | (refine IJ_take (by omega) (by omega) ?_) | (refine IJ_how (by omega) ?_) | (refine IJ_by (by omega) ?_))))
  refine lv_istore (lv' := [(6, .int x1144), (5, .int x1129), (4, .int i), (3, .ref q25), (2, .ref q12), (1, .ref q1), (0, .ref b)]) hx hb dL_law_980 hl (by decide) rfl (fun ls hl => ?_)
  refine lv_goto (tgt := 1047) hx hb dL_law_982 (by decide) ?_
  obtain ⟨x1147, h1148⟩ : ∃ y : Int32, y = i + Int32.ofInt (6) := ⟨_, rfl⟩
  try have h1149 : x1147.toInt = i.toInt + (6) := ty_inc h1148 (by decide) (by omega) (by omega)
  refine lv_iinc (v := x1147) (lv' := [(4, .int x1147), (6, .int x1144), (5, .int x1129), (3, .ref q25), (2, .ref q12), (1, .ref q1), (0, .ref b)]) hx hb dL_law_1047 hl (k := 2) rfl h1148.symm (by decide) rfl (fun ls hl => ?_)
  refine lv_goto (tgt := 23) hx hb dL_law_1050 (by decide) ?_
  have hk1150 : u1142 4 0 = g 4 0 := hf1145 4 0 (by decide)
  exact ih x1147 Γ u1142 ((kc + 1)) ((ks + 6)) _ _ ls (by omega) (by omega) (by rw [hf1145 1 0 (by decide), hf1145 33 0 (by decide)]; exact hi1) (by rw [hf1145 2 0 (by decide), hf1145 34 0 (by decide)]; exact hi2) (by rw [hf1145 3 0 (by decide), hf1145 35 0 (by decide)]; exact hi3) (by rw [hf1145 5 0 (by decide)]; exact hi4) (by omega) (by rw [hf1145 6 0 (by decide)]; exact hi6) (by rw [hf1145 7 0 (by decide), hf1145 36 0 (by decide)]; exact hi7) (by rw [hf1145 101 0 (by decide), hf1145 1 0 (by decide)]; exact hi8) (by rw [hf1145 104 0 (by decide), hf1145 2 0 (by decide)]; exact hi9) (by rw [hf1145 112 0 (by decide), hf1145 5 0 (by decide)]; exact hi10) (by rw [hf1145 111 0 (by decide), hf1145 4 0 (by decide)]; exact hi11) (by rw [hf1145 114 0 (by decide), hf1145 6 0 (by decide)]; exact hi12) (by rw [hf1145 126 0 (by decide)]; exact hi13) (by rw [hf1145 122 0 (by decide)]; exact hi14) (by (repeat (first | with_reducible assumption | (refine IJ_c (by decide) (by decide) (by decide) ?_) | (refine IJ_take (by omega) (by omega) ?_) | (refine IJ_how (by omega) ?_) | (refine IJ_by (by omega) ?_)))) hU t_q1 t_q12 t_q25 (by omega) (by omega) hG hS (lv_sub hl [0, 3, 4, 5, 6] rfl)
set_option maxHeartbeats 40000000 in
set_option maxRecDepth 100000 in
/-- the law's case 22 -/
theorem law_c22 {p : Program} {e : Env} {s : State} {m : MethodId} {below : List Frame} {meth : Method} {c : Code} (l : Launch) (hl9 : l.stackTraces = false) {b L : Nat} {xs : Nat → Int32} (hLN : L ≤ 3072) (hx : p.tables.exec = Jvm.exec) (hb : c.code = code) (hr : meth.sig.returnType = ret) (hml : c.maxLocals = 7) (hown : s.vm.findClass R_law = some m.cls) (hA : ∀ w ∈ AL, w.before #[Value.ref b] s = true) (hXs : va_X b L xs s s.heap) (hbl : b < s.heap.size) (hlocks : meth.locks = false) {dC : Nat → ClassId} {dI : Nat → Nat → Nat} {dA : Nat → ClassId} {sz : Nat} (hE : en dC dI dA sz s) (hsz : sz = s.heap.size) (hbA : ¬ ty_A sz b) (X : va_W) (q1 q12 q25 : Nat) (n : Nat) (ih : LJ p l e s m below meth c b dC dI dA sz X q1 q12 q25 n) (i : Int32) (Γ : ty_G) (g : gh) (kc ks : Nat) (H : Heap) (locs : List Loc) (ls : Array Slot) (hm : (3073 - i.toInt : Int) < (n + 1 : Nat)) (hi0 : 0 ≤ i.toInt ∧ i.toInt ≤ 3072) (hi1 : g 1 0 = g 33 0 ∧ 0 ≤ g 1 0 ∧ g 1 0 ≤ 6) (hi2 : g 2 0 = g 34 0 ∧ 0 ≤ g 2 0 ∧ g 2 0 ≤ 10) (hi3 : g 3 0 = g 35 0 ∧ 0 ≤ g 3 0 ∧ g 3 0 ≤ 200) (hi4 : 0 ≤ g 5 0 ∧ g 5 0 ≤ 52) (hi5 : 0 ≤ g 4 0 ∧ g 4 0 ≤ i.toInt) (hi6 : 0 ≤ g 6 0 ∧ g 6 0 ≤ 300) (hi7 : 0 ≤ g 7 0 ∧ g 7 0 ≤ g 36 0 ∧ g 36 0 ≤ 9) (hi8 : g 101 0 = g 1 0) (hi9 : g 104 0 = g 2 0) (hi10 : g 112 0 = g 5 0) (hi11 : g 111 0 = g 4 0) (hi12 : g 114 0 = g 6 0) (hi13 : 0 ≤ g 126 0 ∧ g 126 0 ≤ 200) (hi14 : 0 ≤ g 122 0 ∧ g 122 0 ≤ 30) (hIJ : IJ g) (hU : Un Γ) (t_q1 : ty Γ q1 1) (t_q12 : ty Γ q12 30) (t_q25 : ty Γ q25 25) (hkc : kc ≤ 300 + i.toInt.toNat) (hks : ks ≤ 30000 + 28 * i.toInt.toNat) (hG : ty_ok (dC, dI) vwCl Γ (TP dA Γ g) sz X H) (hS : va_S (ty_A sz) s.heap H locs) (hl : lv_has ls 7 [(4, .int i), (3, .ref q25), (2, .ref q12), (1, .ref q1), (0, .ref b)]) (hiL : i.toInt + 6 ≤ (L : Int)) : W p l e room_1 s m #[Value.ref b] below meth c H locs kc ks (lw_Z below #[Value.ref b] s) (F0 m 985 ls []) := by
  refine lv_aload_n hx hb dL_law_985 rfl (lv_at hl 3 rfl) ?_
  refine lv_aload_n hx hb dL_law_986 rfl (lv_at hl 4 rfl) ?_
  refine lv_iload hx hb dL_law_987 (lv_at hl 0 rfl) ?_
  refine ty_iconst hx hb (1) dL_law_989 (by decide) (fun x1151 h1152 => ?_)
  refine ty_iadd hx hb dL_law_990 (fun x1153 h1154 => ?_)
  have h1155 := lw_ix (k := 1) h1152 h1154 hi0 hiL hLN (by decide)
  refine va_sld hx hb hXs hbl hbA hS (i := x1153) (ty_ix h1155.2) dL_law_991 ?_
  refine W.eq (g2 := F0 m 992 ls [.int (xs (i.toInt.toNat + 1)), .ref q1]) (by rw [lw_xs (xs := xs) h1155.1 hi0.1]) ?_
  clear h1155 h1154 h1152
  refine lv_topi (fun x1156 s1157 => ?_)
  refine lv_aload_n hx hb dL_law_992 rfl (lv_at hl 4 rfl) ?_
  refine lv_iload hx hb dL_law_993 (lv_at hl 0 rfl) ?_
  refine ty_iconst hx hb (2) dL_law_995 (by decide) (fun x1158 h1159 => ?_)
  refine ty_iadd hx hb dL_law_996 (fun x1160 h1161 => ?_)
  have h1162 := lw_ix (k := 2) h1159 h1161 hi0 hiL hLN (by decide)
  refine va_sld hx hb hXs hbl hbA hS (i := x1160) (ty_ix h1162.2) dL_law_997 ?_
  refine W.eq (g2 := F0 m 998 ls [.int (xs (i.toInt.toNat + 2)), .int x1156, .ref q1]) (by rw [lw_xs (xs := xs) h1162.1 hi0.1]) ?_
  clear h1162 h1161 h1159
  refine lv_topi (fun x1163 s1164 => ?_)
  refine cI (va_runV (C := RX8) (As := [.int x1156, .int x1163]) (rest := []) ⟨hx, hb, hml, hown, hA⟩ (k_X8_ownerOf l dC dI dA sz X Γ hU g q1 t_q1 x1156 x1163   (by first | with_reducible assumption | omega)) ⟨callB_of 2 hA (al_A wd_4_41) rfl rfl rfl (hA _ wd_1_1) (hA _ wd_4_38) (by decide +kernel) ⟨Nat.le_of_ble_eq_true rfl, Nat.le_of_ble_eq_true rfl⟩, hA _ wd_4_39, hA _ wd_4_40⟩ ⟨bl, recv_X8 hE hG t_q1, fun U hU9 hW9 => ⟨rfl, by rw [hU9]; exact hG, hE.go hS hU9 hW9⟩⟩ rfl rfl hl.1 rfl (lv_room (Nat.le_of_ble_eq_true rfl)) dL_law_998 ⟨(Nat.le_trans (show kc + 0 ≤ 300000 by omega) (Nat.le_of_ble_eq_true rfl)), (Nat.le_trans (show ks + 0 ≤ 300000 by omega) (Nat.le_of_ble_eq_true rfl))⟩) hS (fun x1167 u1165 H locs w1166 hG hS => ?_)
  have eu1168 := w1166
  rw [eu1168] at hG
  refine lv_pop hx hb dL_law_1001 rfl ?_
  refine lv_aload_n hx hb dL_law_1002 rfl (lv_at hl 2 rfl) ?_
  refine lv_aload_n hx hb dL_law_1003 rfl (lv_at hl 4 rfl) ?_
  refine lv_iload hx hb dL_law_1004 (lv_at hl 0 rfl) ?_
  refine ty_iconst hx hb (1) dL_law_1006 (by decide) (fun x1169 h1170 => ?_)
  refine ty_iadd hx hb dL_law_1007 (fun x1171 h1172 => ?_)
  have h1173 := lw_ix (k := 1) h1170 h1172 hi0 hiL hLN (by decide)
  refine va_sld hx hb hXs hbl hbA hS (i := x1171) (ty_ix h1173.2) dL_law_1008 ?_
  refine W.eq (g2 := F0 m 1009 ls [.int (xs (i.toInt.toNat + 1)), .ref q12]) (by rw [lw_xs (xs := xs) h1173.1 hi0.1]) ?_
  clear h1173 h1172 h1170
  refine W.eq (g2 := F0 m 1009 ls [.int x1156, .ref q12]) (by rw [s1157]) ?_
  refine lv_aload_n hx hb dL_law_1009 rfl (lv_at hl 4 rfl) ?_
  refine lv_iload hx hb dL_law_1010 (lv_at hl 0 rfl) ?_
  refine ty_iconst hx hb (2) dL_law_1012 (by decide) (fun x1174 h1175 => ?_)
  refine ty_iadd hx hb dL_law_1013 (fun x1176 h1177 => ?_)
  have h1178 := lw_ix (k := 2) h1175 h1177 hi0 hiL hLN (by decide)
  refine va_sld hx hb hXs hbl hbA hS (i := x1176) (ty_ix h1178.2) dL_law_1014 ?_
  refine W.eq (g2 := F0 m 1015 ls [.int (xs (i.toInt.toNat + 2)), .int x1156, .ref q12]) (by rw [lw_xs (xs := xs) h1178.1 hi0.1]) ?_
  clear h1178 h1177 h1175
  refine W.eq (g2 := F0 m 1015 ls [.int x1163, .int x1156, .ref q12]) (by rw [s1164]) ?_
  refine cI (va_runV (C := RX9) (As := [.int x1156, .int x1163]) (rest := []) ⟨hx, hb, hml, hown, hA⟩ (k_X9_ownerOf l dC dI dA sz X Γ hU g q12 t_q12 x1156 x1163   (by first | with_reducible assumption | omega)) ⟨callB_of 2 hA (al_A wd_5_234) rfl rfl rfl (hA _ wd_1_7) (hA _ wd_5_231) (by decide +kernel) ⟨Nat.le_of_ble_eq_true rfl, Nat.le_of_ble_eq_true rfl⟩, hA _ wd_5_232, hA _ wd_5_233⟩ ⟨bl, recv_X9 hE hG t_q12, fun U hU9 hW9 => ⟨rfl, by rw [hU9]; exact hG, hE.go hS hU9 hW9⟩⟩ rfl rfl hl.1 rfl (lv_room (Nat.le_of_ble_eq_true rfl)) dL_law_1015 ⟨(Nat.le_trans (show kc + 0 ≤ 300000 by omega) (Nat.le_of_ble_eq_true rfl)), (Nat.le_trans (show ks + 0 ≤ 300000 by omega) (Nat.le_of_ble_eq_true rfl))⟩) hS (fun x1181 u1179 H locs w1180 hG hS => ?_)
  have hf1182 := w1180
  have hj1183 : IJ u1179 := IJ_cg (hf1182 126 0 (by decide)) (fun j => hf1182 132 j (by decide)) (fun j => hf1182 134 j (by decide)) (by (repeat (first | with_reducible assumption | (refine IJ_c (by decide) (by decide) (by decide) ?_) | (refine IJ_take (by omega) (by omega) ?_) | (refine IJ_how (by omega) ?_) | (refine IJ_by (by omega) ?_))))
  refine lv_pop hx hb dL_law_1018 rfl ?_
  refine lv_goto (tgt := 1047) hx hb dL_law_1019 (by decide) ?_
  obtain ⟨x1184, h1185⟩ : ∃ y : Int32, y = i + Int32.ofInt (6) := ⟨_, rfl⟩
  try have h1186 : x1184.toInt = i.toInt + (6) := ty_inc h1185 (by decide) (by omega) (by omega)
  refine lv_iinc (v := x1184) (lv' := [(4, .int x1184), (3, .ref q25), (2, .ref q12), (1, .ref q1), (0, .ref b)]) hx hb dL_law_1047 hl (k := 0) rfl h1185.symm (by decide) rfl (fun ls hl => ?_)
  refine lv_goto (tgt := 23) hx hb dL_law_1050 (by decide) ?_
  have hk1187 : u1179 4 0 = g 4 0 := hf1182 4 0 (by decide)
  exact ih x1184 Γ u1179 (kc) (ks) _ _ ls (by omega) (by omega) (by rw [hf1182 1 0 (by decide), hf1182 33 0 (by decide)]; exact hi1) (by rw [hf1182 2 0 (by decide), hf1182 34 0 (by decide)]; exact hi2) (by rw [hf1182 3 0 (by decide), hf1182 35 0 (by decide)]; exact hi3) (by rw [hf1182 5 0 (by decide)]; exact hi4) (by omega) (by rw [hf1182 6 0 (by decide)]; exact hi6) (by rw [hf1182 7 0 (by decide), hf1182 36 0 (by decide)]; exact hi7) (by rw [hf1182 101 0 (by decide), hf1182 1 0 (by decide)]; exact hi8) (by rw [hf1182 104 0 (by decide), hf1182 2 0 (by decide)]; exact hi9) (by rw [hf1182 112 0 (by decide), hf1182 5 0 (by decide)]; exact hi10) (by rw [hf1182 111 0 (by decide), hf1182 4 0 (by decide)]; exact hi11) (by rw [hf1182 114 0 (by decide), hf1182 6 0 (by decide)]; exact hi12) (by rw [hf1182 126 0 (by decide)]; exact hi13) (by rw [hf1182 122 0 (by decide)]; exact hi14) (by (repeat (first | with_reducible assumption | (refine IJ_c (by decide) (by decide) (by decide) ?_) | (refine IJ_take (by omega) (by omega) ?_) | (refine IJ_how (by omega) ?_) | (refine IJ_by (by omega) ?_)))) hU t_q1 t_q12 t_q25 (by omega) (by omega) hG hS (lv_sub hl [0, 1, 2, 3, 4] rfl)
set_option maxHeartbeats 40000000 in
set_option maxRecDepth 100000 in
/-- the law's case 23 -/
theorem law_c23 {p : Program} {e : Env} {s : State} {m : MethodId} {below : List Frame} {meth : Method} {c : Code} (l : Launch) (hl9 : l.stackTraces = false) {b L : Nat} {xs : Nat → Int32} (hLN : L ≤ 3072) (hx : p.tables.exec = Jvm.exec) (hb : c.code = code) (hr : meth.sig.returnType = ret) (hml : c.maxLocals = 7) (hown : s.vm.findClass R_law = some m.cls) (hA : ∀ w ∈ AL, w.before #[Value.ref b] s = true) (hXs : va_X b L xs s s.heap) (hbl : b < s.heap.size) (hlocks : meth.locks = false) {dC : Nat → ClassId} {dI : Nat → Nat → Nat} {dA : Nat → ClassId} {sz : Nat} (hE : en dC dI dA sz s) (hsz : sz = s.heap.size) (hbA : ¬ ty_A sz b) (X : va_W) (q1 q12 q25 : Nat) (n : Nat) (ih : LJ p l e s m below meth c b dC dI dA sz X q1 q12 q25 n) (i : Int32) (Γ : ty_G) (g : gh) (kc ks : Nat) (H : Heap) (locs : List Loc) (ls : Array Slot) (hm : (3073 - i.toInt : Int) < (n + 1 : Nat)) (hi0 : 0 ≤ i.toInt ∧ i.toInt ≤ 3072) (hi1 : g 1 0 = g 33 0 ∧ 0 ≤ g 1 0 ∧ g 1 0 ≤ 6) (hi2 : g 2 0 = g 34 0 ∧ 0 ≤ g 2 0 ∧ g 2 0 ≤ 10) (hi3 : g 3 0 = g 35 0 ∧ 0 ≤ g 3 0 ∧ g 3 0 ≤ 200) (hi4 : 0 ≤ g 5 0 ∧ g 5 0 ≤ 52) (hi5 : 0 ≤ g 4 0 ∧ g 4 0 ≤ i.toInt) (hi6 : 0 ≤ g 6 0 ∧ g 6 0 ≤ 300) (hi7 : 0 ≤ g 7 0 ∧ g 7 0 ≤ g 36 0 ∧ g 36 0 ≤ 9) (hi8 : g 101 0 = g 1 0) (hi9 : g 104 0 = g 2 0) (hi10 : g 112 0 = g 5 0) (hi11 : g 111 0 = g 4 0) (hi12 : g 114 0 = g 6 0) (hi13 : 0 ≤ g 126 0 ∧ g 126 0 ≤ 200) (hi14 : 0 ≤ g 122 0 ∧ g 122 0 ≤ 30) (hIJ : IJ g) (hU : Un Γ) (t_q1 : ty Γ q1 1) (t_q12 : ty Γ q12 30) (t_q25 : ty Γ q25 25) (hkc : kc ≤ 300 + i.toInt.toNat) (hks : ks ≤ 30000 + 28 * i.toInt.toNat) (hG : ty_ok (dC, dI) vwCl Γ (TP dA Γ g) sz X H) (hS : va_S (ty_A sz) s.heap H locs) (hl : lv_has ls 7 [(4, .int i), (3, .ref q25), (2, .ref q12), (1, .ref q1), (0, .ref b)]) (hiL : i.toInt + 6 ≤ (L : Int)) : W p l e room_1 s m #[Value.ref b] below meth c H locs kc ks (lw_Z below #[Value.ref b] s) (F0 m 1022 ls []) := by
  refine lv_aload_n hx hb dL_law_1022 rfl (lv_at hl 3 rfl) ?_
  refine lv_aload_n hx hb dL_law_1023 rfl (lv_at hl 4 rfl) ?_
  refine lv_iload hx hb dL_law_1024 (lv_at hl 0 rfl) ?_
  refine ty_iconst hx hb (1) dL_law_1026 (by decide) (fun x1188 h1189 => ?_)
  refine ty_iadd hx hb dL_law_1027 (fun x1190 h1191 => ?_)
  have h1192 := lw_ix (k := 1) h1189 h1191 hi0 hiL hLN (by decide)
  refine va_sld hx hb hXs hbl hbA hS (i := x1190) (ty_ix h1192.2) dL_law_1028 ?_
  refine W.eq (g2 := F0 m 1029 ls [.int (xs (i.toInt.toNat + 1)), .ref q1]) (by rw [lw_xs (xs := xs) h1192.1 hi0.1]) ?_
  clear h1192 h1191 h1189
  refine lv_topi (fun x1193 s1194 => ?_)
  refine cI (va_runV (C := RX8) (As := [.int x1193]) (rest := []) ⟨hx, hb, hml, hown, hA⟩ (k_X8_count l dC dI dA sz X Γ hU g q1 t_q1 x1193   (by first | with_reducible assumption | omega) (by first | with_reducible assumption | omega)) ⟨callB_of 1 hA (al_A wd_4_45) rfl rfl rfl (hA _ wd_1_1) (hA _ wd_4_42) (by decide +kernel) ⟨Nat.le_of_ble_eq_true rfl, Nat.le_of_ble_eq_true rfl⟩, hA _ wd_4_43, hA _ wd_4_44⟩ ⟨bl, recv_X8 hE hG t_q1, fun U hU9 hW9 => ⟨rfl, by rw [hU9]; exact hG, hE.go hS hU9 hW9⟩⟩ rfl rfl hl.1 rfl (lv_room (Nat.le_of_ble_eq_true rfl)) dL_law_1029 ⟨(Nat.le_trans (show kc + 0 ≤ 300000 by omega) (Nat.le_of_ble_eq_true rfl)), (Nat.le_trans (show ks + 0 ≤ 300000 by omega) (Nat.le_of_ble_eq_true rfl))⟩) hS (fun x1197 u1195 H locs w1196 hG hS => ?_)
  have eu1198 := w1196
  rw [eu1198] at hG
  refine lv_pop hx hb dL_law_1032 rfl ?_
  refine lv_aload_n hx hb dL_law_1033 rfl (lv_at hl 2 rfl) ?_
  refine lv_aload_n hx hb dL_law_1034 rfl (lv_at hl 4 rfl) ?_
  refine lv_iload hx hb dL_law_1035 (lv_at hl 0 rfl) ?_
  refine ty_iconst hx hb (1) dL_law_1037 (by decide) (fun x1199 h1200 => ?_)
  refine ty_iadd hx hb dL_law_1038 (fun x1201 h1202 => ?_)
  have h1203 := lw_ix (k := 1) h1200 h1202 hi0 hiL hLN (by decide)
  refine va_sld hx hb hXs hbl hbA hS (i := x1201) (ty_ix h1203.2) dL_law_1039 ?_
  refine W.eq (g2 := F0 m 1040 ls [.int (xs (i.toInt.toNat + 1)), .ref q12]) (by rw [lw_xs (xs := xs) h1203.1 hi0.1]) ?_
  clear h1203 h1202 h1200
  refine W.eq (g2 := F0 m 1040 ls [.int x1193, .ref q12]) (by rw [s1194]) ?_
  refine cI (va_runV (C := RX9) (As := [.int x1193]) (rest := []) ⟨hx, hb, hml, hown, hA⟩ (k_X9_count l dC dI dA sz X Γ hU g q12 t_q12 x1193   (by first | with_reducible assumption | omega) (by first | with_reducible assumption | omega) (by first | with_reducible assumption | omega)) ⟨callB_of 1 hA (al_A wd_5_238) rfl rfl rfl (hA _ wd_1_7) (hA _ wd_5_235) (by decide +kernel) ⟨Nat.le_of_ble_eq_true rfl, Nat.le_of_ble_eq_true rfl⟩, hA _ wd_5_236, hA _ wd_5_237⟩ ⟨bl, recv_X9 hE hG t_q12, fun U hU9 hW9 => ⟨rfl, by rw [hU9]; exact hG, hE.go hS hU9 hW9⟩⟩ rfl rfl hl.1 rfl (lv_room (Nat.le_of_ble_eq_true rfl)) dL_law_1040 ⟨(Nat.le_trans (show kc + 0 ≤ 300000 by omega) (Nat.le_of_ble_eq_true rfl)), (Nat.le_trans (show ks + 0 ≤ 300000 by omega) (Nat.le_of_ble_eq_true rfl))⟩) hS (fun x1206 u1204 H locs w1205 hG hS => ?_)
  have hf1207 := w1205
  have hj1208 : IJ u1204 := IJ_cg (hf1207 126 0 (by decide)) (fun j => hf1207 132 j (by decide)) (fun j => hf1207 134 j (by decide)) (by (repeat (first | with_reducible assumption | (refine IJ_c (by decide) (by decide) (by decide) ?_) | (refine IJ_take (by omega) (by omega) ?_) | (refine IJ_how (by omega) ?_) | (refine IJ_by (by omega) ?_))))
  refine lv_pop hx hb dL_law_1043 rfl ?_
  refine lv_goto (tgt := 1047) hx hb dL_law_1044 (by decide) ?_
  obtain ⟨x1209, h1210⟩ : ∃ y : Int32, y = i + Int32.ofInt (6) := ⟨_, rfl⟩
  try have h1211 : x1209.toInt = i.toInt + (6) := ty_inc h1210 (by decide) (by omega) (by omega)
  refine lv_iinc (v := x1209) (lv' := [(4, .int x1209), (3, .ref q25), (2, .ref q12), (1, .ref q1), (0, .ref b)]) hx hb dL_law_1047 hl (k := 0) rfl h1210.symm (by decide) rfl (fun ls hl => ?_)
  refine lv_goto (tgt := 23) hx hb dL_law_1050 (by decide) ?_
  have hk1212 : u1204 4 0 = g 4 0 := hf1207 4 0 (by decide)
  exact ih x1209 Γ u1204 (kc) (ks) _ _ ls (by omega) (by omega) (by rw [hf1207 1 0 (by decide), hf1207 33 0 (by decide)]; exact hi1) (by rw [hf1207 2 0 (by decide), hf1207 34 0 (by decide)]; exact hi2) (by rw [hf1207 3 0 (by decide), hf1207 35 0 (by decide)]; exact hi3) (by rw [hf1207 5 0 (by decide)]; exact hi4) (by omega) (by rw [hf1207 6 0 (by decide)]; exact hi6) (by rw [hf1207 7 0 (by decide), hf1207 36 0 (by decide)]; exact hi7) (by rw [hf1207 101 0 (by decide), hf1207 1 0 (by decide)]; exact hi8) (by rw [hf1207 104 0 (by decide), hf1207 2 0 (by decide)]; exact hi9) (by rw [hf1207 112 0 (by decide), hf1207 5 0 (by decide)]; exact hi10) (by rw [hf1207 111 0 (by decide), hf1207 4 0 (by decide)]; exact hi11) (by rw [hf1207 114 0 (by decide), hf1207 6 0 (by decide)]; exact hi12) (by rw [hf1207 126 0 (by decide)]; exact hi13) (by rw [hf1207 122 0 (by decide)]; exact hi14) (by (repeat (first | with_reducible assumption | (refine IJ_c (by decide) (by decide) (by decide) ?_) | (refine IJ_take (by omega) (by omega) ?_) | (refine IJ_how (by omega) ?_) | (refine IJ_by (by omega) ?_)))) hU t_q1 t_q12 t_q25 (by omega) (by omega) hG hS (lv_sub hl [0, 1, 2, 3, 4] rfl)
