set_option maxHeartbeats 40000000 in
set_option maxRecDepth 100000 in
/-- the law's case 16 -/
theorem law_c16 {p : Program} {e : Env} {s : State} {m : MethodId} {below : List Frame} {meth : Method} {c : Code} (l : Launch) (hl9 : l.stackTraces = false) {b L : Nat} {xs : Nat → Int32} (hLN : L ≤ 3072) (hx : p.tables.exec = Jvm.exec) (hb : c.code = code) (hr : meth.sig.returnType = ret) (hml : c.maxLocals = 7) (hown : s.vm.findClass R_law = some m.cls) (hA : ∀ w ∈ AL, w.before #[Value.ref b] s = true) (hXs : va_X b L xs s s.heap) (hbl : b < s.heap.size) (hlocks : meth.locks = false) {dC : Nat → ClassId} {dI : Nat → Nat → Nat} {dA : Nat → ClassId} {sz : Nat} (hE : en dC dI dA sz s) (hsz : sz = s.heap.size) (hbA : ¬ ty_A sz b) (X : va_W) (q1 q12 q25 : Nat) (n : Nat) (ih : LJ p l e s m below meth c b dC dI dA sz X q1 q12 q25 n) (i : Int32) (Γ : ty_G) (g : gh) (kc ks : Nat) (H : Heap) (locs : List Loc) (ls : Array Slot) (hm : (3073 - i.toInt : Int) < (n + 1 : Nat)) (hi0 : 0 ≤ i.toInt ∧ i.toInt ≤ 3072) (hi1 : g 1 0 = g 33 0 ∧ 0 ≤ g 1 0 ∧ g 1 0 ≤ 6) (hi2 : g 2 0 = g 34 0 ∧ 0 ≤ g 2 0 ∧ g 2 0 ≤ 10) (hi3 : g 3 0 = g 35 0 ∧ 0 ≤ g 3 0 ∧ g 3 0 ≤ 200) (hi4 : 0 ≤ g 5 0 ∧ g 5 0 ≤ 52) (hi5 : 0 ≤ g 4 0 ∧ g 4 0 ≤ i.toInt) (hi6 : 0 ≤ g 6 0 ∧ g 6 0 ≤ 300) (hi7 : 0 ≤ g 7 0 ∧ g 7 0 ≤ g 36 0 ∧ g 36 0 ≤ 9) (hi8 : g 101 0 = g 1 0) (hi9 : g 104 0 = g 2 0) (hi10 : g 112 0 = g 5 0) (hi11 : g 111 0 = g 4 0) (hi12 : g 114 0 = g 6 0) (hi13 : 0 ≤ g 126 0 ∧ g 126 0 ≤ 200) (hi14 : 0 ≤ g 122 0 ∧ g 122 0 ≤ 30) (hi15 : g 14 0 = g 121 0) (hi16 : g 18 0 = g 118 0) (hIJ : IJ g) (hTE : pz_t g = g 19) (hU : Un Γ) (t_q1 : ty Γ q1 1) (t_q12 : ty Γ q12 30) (t_q25 : ty Γ q25 25) (hkc : kc ≤ 300 + i.toInt.toNat) (hks : ks ≤ 30000 + 28 * i.toInt.toNat) (hG : ty_ok (dC, dI) vwCl Γ (TP dA Γ g) sz X H) (hS : va_S (ty_A sz) s.heap H locs) (hl : lv_has ls 7 [(4, .int i), (3, .ref q25), (2, .ref q12), (1, .ref q1), (0, .ref b)]) (hiL : i.toInt + 6 ≤ (L : Int)) : W p l e room_1 s m #[Value.ref b] below meth c H locs kc ks (lw_Z below #[Value.ref b] s) (F0 m 768 ls []) := by
  refine lv_aload_n hx hb dL_law_768 rfl (lv_at hl 3 rfl) ?_
  refine lv_aload_n hx hb dL_law_769 rfl (lv_at hl 4 rfl) ?_
  refine lv_iload hx hb dL_law_770 (lv_at hl 0 rfl) ?_
  refine ty_iconst hx hb (1) dL_law_772 (by decide) (fun x886 h887 => ?_)
  refine ty_iadd hx hb dL_law_773 (fun x888 h889 => ?_)
  have h890 := lw_ix (k := 1) h887 h889 hi0 hiL hLN (by decide)
  refine va_sld hx hb hXs hbl hbA hS (i := x888) (ty_ix h890.2) dL_law_774 ?_
  refine W.eq (g2 := F0 m 775 ls [.int (xs (i.toInt.toNat + 1)), .ref q1]) (by rw [lw_xs (xs := xs) h890.1 hi0.1]) ?_
  clear h890 h889 h887
  refine lv_topi (fun x891 s892 => ?_)
  refine cI (va_runV (C := RX8) (As := [.int x891]) (rest := []) ⟨hx, hb, hml, hown, hA⟩ (k_X8_weeks l dC dI dA sz X Γ hU g q1 t_q1 x891   (by first | with_reducible assumption | omega) (by first | with_reducible assumption | omega)) ⟨callB_of 1 hA (al_A wd_3_220) rfl rfl rfl (hA _ wd_1_1) (hA _ wd_3_217) (by decide +kernel) ⟨Nat.le_of_ble_eq_true rfl, Nat.le_of_ble_eq_true rfl⟩, hA _ wd_3_218, hA _ wd_3_219⟩ ⟨bl, recv_X8 hE hG t_q1, fun U hU9 hW9 => ⟨rfl, by rw [hU9]; exact hG, hE.go hS hU9 hW9⟩⟩ rfl rfl hl.1 rfl (lv_room (Nat.le_of_ble_eq_true rfl)) dL_law_775 ⟨(Nat.le_trans (show kc + 0 ≤ 300000 by omega) (Nat.le_of_ble_eq_true rfl)), (Nat.le_trans (show ks + 0 ≤ 300000 by omega) (Nat.le_of_ble_eq_true rfl))⟩) hS (fun x895 u893 H locs w894 hG hS => ?_)
  obtain ⟨hf896, w894⟩ := w894
  have hj897 : IJ u893 := IJ_cg (hf896 126 0 (by decide)) (fun j => hf896 132 j (by decide)) (fun j => hf896 134 j (by decide)) (by (repeat (first | with_reducible assumption | (refine IJ_c (by decide) (by decide) (by decide) ?_) | (refine IJ_take (by omega) (by omega) ?_) | (refine IJ_how (by omega) ?_) | (refine IJ_by (by omega) ?_))))
  replace w894 := or2 w894.1 w894.2 (by exact Classical.em _)
  rcases w894 with w894 | w894
  · skip
    refine lv_pop hx hb dL_law_778 rfl ?_
    refine lv_aload_n hx hb dL_law_779 rfl (lv_at hl 2 rfl) ?_
    refine lv_aload_n hx hb dL_law_780 rfl (lv_at hl 4 rfl) ?_
    refine lv_iload hx hb dL_law_781 (lv_at hl 0 rfl) ?_
    refine ty_iconst hx hb (1) dL_law_783 (by decide) (fun x898 h899 => ?_)
    refine ty_iadd hx hb dL_law_784 (fun x900 h901 => ?_)
    have h902 := lw_ix (k := 1) h899 h901 hi0 hiL hLN (by decide)
    refine va_sld hx hb hXs hbl hbA hS (i := x900) (ty_ix h902.2) dL_law_785 ?_
    refine W.eq (g2 := F0 m 786 ls [.int (xs (i.toInt.toNat + 1)), .ref q12]) (by rw [lw_xs (xs := xs) h902.1 hi0.1]) ?_
    clear h902 h901 h899
    refine W.eq (g2 := F0 m 786 ls [.int x891, .ref q12]) (by rw [s892]) ?_
    have hk903 : u893 126 0 = g 126 0 := hf896 126 0 (by decide)
    have hk904 : u893 112 0 = g 112 0 := hf896 112 0 (by decide)
    refine cI (va_runV (C := RX9) (As := [.int x891]) (rest := []) ⟨hx, hb, hml, hown, hA⟩ (k_X9_weeks l dC dI dA sz X Γ hU u893 q12 t_q12 x891   (by first | with_reducible assumption | omega) (by first | with_reducible assumption | omega) (by (repeat (first | with_reducible assumption | (refine IJ_c (by decide) (by decide) (by decide) ?_) | (refine IJ_take (by omega) (by omega) ?_) | (refine IJ_how (by omega) ?_) | (refine IJ_by (by omega) ?_))))) ⟨callB_of 1 hA (al_A wd_5_193) rfl rfl rfl (hA _ wd_1_7) (hA _ wd_5_190) (by decide +kernel) ⟨Nat.le_of_ble_eq_true rfl, Nat.le_of_ble_eq_true rfl⟩, hA _ wd_5_191, hA _ wd_5_192⟩ ⟨bl, recv_X9 hE hG t_q12, fun U hU9 hW9 => ⟨rfl, by rw [hU9]; exact hG, hE.go hS hU9 hW9⟩⟩ rfl rfl hl.1 rfl (lv_room (Nat.le_of_ble_eq_true rfl)) dL_law_786 ⟨(Nat.le_trans (show kc + 0 ≤ 300000 by omega) (Nat.le_of_ble_eq_true rfl)), (Nat.le_trans (show ks + 0 ≤ 300000 by omega) (Nat.le_of_ble_eq_true rfl))⟩) hS (fun x907 u905 H locs w906 hG hS => ?_)
    obtain ⟨hf909, w906, hq908⟩ := w906
    replace w906 := or2 w906.1 w906.2 (by exact Classical.em _)
    rcases w906 with w906 | w906
    · skip
      refine lv_pop hx hb dL_law_789 rfl ?_
      refine lv_goto (tgt := 1047) hx hb dL_law_790 (by decide) ?_
      obtain ⟨x910, h911⟩ : ∃ y : Int32, y = i + Int32.ofInt (6) := ⟨_, rfl⟩
      try have h912 : x910.toInt = i.toInt + (6) := ty_inc h911 (by decide) (by omega) (by omega)
      refine lv_iinc (v := x910) (lv' := [(4, .int x910), (3, .ref q25), (2, .ref q12), (1, .ref q1), (0, .ref b)]) hx hb dL_law_1047 hl (k := 0) rfl h911.symm (by decide) rfl (fun ls hl => ?_)
      refine lv_goto (tgt := 23) hx hb dL_law_1050 (by decide) ?_
      have hk913 : u905 4 0 = u893 4 0 := hf909 4 0 (by decide) (by decide) (by decide)
      have hk914 : u893 4 0 = g 4 0 := hf896 4 0 (by decide)
      have hk915 : u905 5 0 = u893 5 0 := hf909 5 0 (by decide) (by decide) (by decide)
      exact ih x910 Γ u905 (kc) (ks) _ _ ls (by omega) (by omega) (by rw [hf909 1 0 (by decide) (by decide) (by decide), hf896 1 0 (by decide), hf909 33 0 (by decide) (by decide) (by decide), hf896 33 0 (by decide)]; exact hi1) (by rw [hf909 2 0 (by decide) (by decide) (by decide), hf896 2 0 (by decide), hf909 34 0 (by decide) (by decide) (by decide), hf896 34 0 (by decide)]; exact hi2) (by rw [hf909 3 0 (by decide) (by decide) (by decide), hf896 3 0 (by decide), hf909 35 0 (by decide) (by decide) (by decide), hf896 35 0 (by decide)]; exact hi3) (by omega) (by omega) (by rw [hf909 6 0 (by decide) (by decide) (by decide), hf896 6 0 (by decide)]; exact hi6) (by rw [hf909 7 0 (by decide) (by decide) (by decide), hf896 7 0 (by decide), hf909 36 0 (by decide) (by decide) (by decide), hf896 36 0 (by decide)]; exact hi7) (by rw [hf909 101 0 (by decide) (by decide) (by decide), hf896 101 0 (by decide), hf909 1 0 (by decide) (by decide) (by decide), hf896 1 0 (by decide)]; exact hi8) (by rw [hf909 104 0 (by decide) (by decide) (by decide), hf896 104 0 (by decide), hf909 2 0 (by decide) (by decide) (by decide), hf896 2 0 (by decide)]; exact hi9) (by omega) (by rw [hf909 111 0 (by decide) (by decide) (by decide), hf896 111 0 (by decide), hf909 4 0 (by decide) (by decide) (by decide), hf896 4 0 (by decide)]; exact hi11) (by rw [hf909 114 0 (by decide) (by decide) (by decide), hf896 114 0 (by decide), hf909 6 0 (by decide) (by decide) (by decide), hf896 6 0 (by decide)]; exact hi12) (by rw [hf909 126 0 (by decide) (by decide) (by decide), hf896 126 0 (by decide)]; exact hi13) (by rw [hf909 122 0 (by decide) (by decide) (by decide), hf896 122 0 (by decide)]; exact hi14) (by rw [hf909 14 0 (by decide) (by decide) (by decide), hf896 14 0 (by decide), hf909 121 0 (by decide) (by decide) (by decide), hf896 121 0 (by decide)]; exact hi15) (by rw [hf909 18 0 (by decide) (by decide) (by decide), hf896 18 0 (by decide), hf909 118 0 (by decide) (by decide) (by decide), hf896 118 0 (by decide)]; exact hi16) (by (repeat (first | with_reducible assumption | (refine IJ_c (by decide) (by decide) (by decide) ?_) | (refine IJ_take (by omega) (by omega) ?_) | (refine IJ_how (by omega) ?_) | (refine IJ_by (by omega) ?_)))) (funext fun j => by show u905 113 j % 256 = u905 19 j; rw [hf909 113 j (by decide) (by decide) (by decide), hf896 113 j (by decide), hf909 19 j (by decide) (by decide) (by decide), hf896 19 j (by decide)]; exact congrFun hTE j) hU t_q1 t_q12 t_q25 (by omega) (by omega) hG hS (lv_sub hl [0, 1, 2, 3, 4] rfl)
    · exfalso; omega
  · skip
    refine lv_pop hx hb dL_law_778 rfl ?_
    refine lv_aload_n hx hb dL_law_779 rfl (lv_at hl 2 rfl) ?_
    refine lv_aload_n hx hb dL_law_780 rfl (lv_at hl 4 rfl) ?_
    refine lv_iload hx hb dL_law_781 (lv_at hl 0 rfl) ?_
    refine ty_iconst hx hb (1) dL_law_783 (by decide) (fun x916 h917 => ?_)
    refine ty_iadd hx hb dL_law_784 (fun x918 h919 => ?_)
    have h920 := lw_ix (k := 1) h917 h919 hi0 hiL hLN (by decide)
    refine va_sld hx hb hXs hbl hbA hS (i := x918) (ty_ix h920.2) dL_law_785 ?_
    refine W.eq (g2 := F0 m 786 ls [.int (xs (i.toInt.toNat + 1)), .ref q12]) (by rw [lw_xs (xs := xs) h920.1 hi0.1]) ?_
    clear h920 h919 h917
    refine W.eq (g2 := F0 m 786 ls [.int x891, .ref q12]) (by rw [s892]) ?_
    have hk921 : u893 126 0 = g 126 0 := hf896 126 0 (by decide)
    have hk922 : u893 112 0 = g 112 0 := hf896 112 0 (by decide)
    refine cI (va_runV (C := RX9) (As := [.int x891]) (rest := []) ⟨hx, hb, hml, hown, hA⟩ (k_X9_weeks l dC dI dA sz X Γ hU u893 q12 t_q12 x891   (by first | with_reducible assumption | omega) (by first | with_reducible assumption | omega) (by (repeat (first | with_reducible assumption | (refine IJ_c (by decide) (by decide) (by decide) ?_) | (refine IJ_take (by omega) (by omega) ?_) | (refine IJ_how (by omega) ?_) | (refine IJ_by (by omega) ?_))))) ⟨callB_of 1 hA (al_A wd_5_193) rfl rfl rfl (hA _ wd_1_7) (hA _ wd_5_190) (by decide +kernel) ⟨Nat.le_of_ble_eq_true rfl, Nat.le_of_ble_eq_true rfl⟩, hA _ wd_5_191, hA _ wd_5_192⟩ ⟨bl, recv_X9 hE hG t_q12, fun U hU9 hW9 => ⟨rfl, by rw [hU9]; exact hG, hE.go hS hU9 hW9⟩⟩ rfl rfl hl.1 rfl (lv_room (Nat.le_of_ble_eq_true rfl)) dL_law_786 ⟨(Nat.le_trans (show kc + 0 ≤ 300000 by omega) (Nat.le_of_ble_eq_true rfl)), (Nat.le_trans (show ks + 0 ≤ 300000 by omega) (Nat.le_of_ble_eq_true rfl))⟩) hS (fun x925 u923 H locs w924 hG hS => ?_)
    obtain ⟨hf927, w924, hq926⟩ := w924
    replace w924 := or2 w924.1 w924.2 (by exact Classical.em _)
    rcases w924 with w924 | w924
    · exfalso; omega
    · skip
      refine lv_pop hx hb dL_law_789 rfl ?_
      refine lv_goto (tgt := 1047) hx hb dL_law_790 (by decide) ?_
      obtain ⟨x928, h929⟩ : ∃ y : Int32, y = i + Int32.ofInt (6) := ⟨_, rfl⟩
      try have h930 : x928.toInt = i.toInt + (6) := ty_inc h929 (by decide) (by omega) (by omega)
      refine lv_iinc (v := x928) (lv' := [(4, .int x928), (3, .ref q25), (2, .ref q12), (1, .ref q1), (0, .ref b)]) hx hb dL_law_1047 hl (k := 0) rfl h929.symm (by decide) rfl (fun ls hl => ?_)
      refine lv_goto (tgt := 23) hx hb dL_law_1050 (by decide) ?_
      have hk931 : u923 4 0 = u893 4 0 := hf927 4 0 (by decide) (by decide) (by decide)
      have hk932 : u893 4 0 = g 4 0 := hf896 4 0 (by decide)
      have hk933 : u923 5 0 = u893 5 0 := hf927 5 0 (by decide) (by decide) (by decide)
      exact ih x928 Γ u923 (kc) (ks) _ _ ls (by omega) (by omega) (by rw [hf927 1 0 (by decide) (by decide) (by decide), hf896 1 0 (by decide), hf927 33 0 (by decide) (by decide) (by decide), hf896 33 0 (by decide)]; exact hi1) (by rw [hf927 2 0 (by decide) (by decide) (by decide), hf896 2 0 (by decide), hf927 34 0 (by decide) (by decide) (by decide), hf896 34 0 (by decide)]; exact hi2) (by rw [hf927 3 0 (by decide) (by decide) (by decide), hf896 3 0 (by decide), hf927 35 0 (by decide) (by decide) (by decide), hf896 35 0 (by decide)]; exact hi3) (by omega) (by omega) (by rw [hf927 6 0 (by decide) (by decide) (by decide), hf896 6 0 (by decide)]; exact hi6) (by rw [hf927 7 0 (by decide) (by decide) (by decide), hf896 7 0 (by decide), hf927 36 0 (by decide) (by decide) (by decide), hf896 36 0 (by decide)]; exact hi7) (by rw [hf927 101 0 (by decide) (by decide) (by decide), hf896 101 0 (by decide), hf927 1 0 (by decide) (by decide) (by decide), hf896 1 0 (by decide)]; exact hi8) (by rw [hf927 104 0 (by decide) (by decide) (by decide), hf896 104 0 (by decide), hf927 2 0 (by decide) (by decide) (by decide), hf896 2 0 (by decide)]; exact hi9) (by omega) (by rw [hf927 111 0 (by decide) (by decide) (by decide), hf896 111 0 (by decide), hf927 4 0 (by decide) (by decide) (by decide), hf896 4 0 (by decide)]; exact hi11) (by rw [hf927 114 0 (by decide) (by decide) (by decide), hf896 114 0 (by decide), hf927 6 0 (by decide) (by decide) (by decide), hf896 6 0 (by decide)]; exact hi12) (by rw [hf927 126 0 (by decide) (by decide) (by decide), hf896 126 0 (by decide)]; exact hi13) (by rw [hf927 122 0 (by decide) (by decide) (by decide), hf896 122 0 (by decide)]; exact hi14) (by rw [hf927 14 0 (by decide) (by decide) (by decide), hf896 14 0 (by decide), hf927 121 0 (by decide) (by decide) (by decide), hf896 121 0 (by decide)]; exact hi15) (by rw [hf927 18 0 (by decide) (by decide) (by decide), hf896 18 0 (by decide), hf927 118 0 (by decide) (by decide) (by decide), hf896 118 0 (by decide)]; exact hi16) (by (repeat (first | with_reducible assumption | (refine IJ_c (by decide) (by decide) (by decide) ?_) | (refine IJ_take (by omega) (by omega) ?_) | (refine IJ_how (by omega) ?_) | (refine IJ_by (by omega) ?_)))) (funext fun j => by show u923 113 j % 256 = u923 19 j; rw [hf927 113 j (by decide) (by decide) (by decide), hf896 113 j (by decide), hf927 19 j (by decide) (by decide) (by decide), hf896 19 j (by decide)]; exact congrFun hTE j) hU t_q1 t_q12 t_q25 (by omega) (by omega) hG hS (lv_sub hl [0, 1, 2, 3, 4] rfl)
set_option maxHeartbeats 40000000 in
set_option maxRecDepth 100000 in
/-- the law's case 17 -/
theorem law_c17 {p : Program} {e : Env} {s : State} {m : MethodId} {below : List Frame} {meth : Method} {c : Code} (l : Launch) (hl9 : l.stackTraces = false) {b L : Nat} {xs : Nat → Int32} (hLN : L ≤ 3072) (hx : p.tables.exec = Jvm.exec) (hb : c.code = code) (hr : meth.sig.returnType = ret) (hml : c.maxLocals = 7) (hown : s.vm.findClass R_law = some m.cls) (hA : ∀ w ∈ AL, w.before #[Value.ref b] s = true) (hXs : va_X b L xs s s.heap) (hbl : b < s.heap.size) (hlocks : meth.locks = false) {dC : Nat → ClassId} {dI : Nat → Nat → Nat} {dA : Nat → ClassId} {sz : Nat} (hE : en dC dI dA sz s) (hsz : sz = s.heap.size) (hbA : ¬ ty_A sz b) (X : va_W) (q1 q12 q25 : Nat) (n : Nat) (ih : LJ p l e s m below meth c b dC dI dA sz X q1 q12 q25 n) (i : Int32) (Γ : ty_G) (g : gh) (kc ks : Nat) (H : Heap) (locs : List Loc) (ls : Array Slot) (hm : (3073 - i.toInt : Int) < (n + 1 : Nat)) (hi0 : 0 ≤ i.toInt ∧ i.toInt ≤ 3072) (hi1 : g 1 0 = g 33 0 ∧ 0 ≤ g 1 0 ∧ g 1 0 ≤ 6) (hi2 : g 2 0 = g 34 0 ∧ 0 ≤ g 2 0 ∧ g 2 0 ≤ 10) (hi3 : g 3 0 = g 35 0 ∧ 0 ≤ g 3 0 ∧ g 3 0 ≤ 200) (hi4 : 0 ≤ g 5 0 ∧ g 5 0 ≤ 52) (hi5 : 0 ≤ g 4 0 ∧ g 4 0 ≤ i.toInt) (hi6 : 0 ≤ g 6 0 ∧ g 6 0 ≤ 300) (hi7 : 0 ≤ g 7 0 ∧ g 7 0 ≤ g 36 0 ∧ g 36 0 ≤ 9) (hi8 : g 101 0 = g 1 0) (hi9 : g 104 0 = g 2 0) (hi10 : g 112 0 = g 5 0) (hi11 : g 111 0 = g 4 0) (hi12 : g 114 0 = g 6 0) (hi13 : 0 ≤ g 126 0 ∧ g 126 0 ≤ 200) (hi14 : 0 ≤ g 122 0 ∧ g 122 0 ≤ 30) (hi15 : g 14 0 = g 121 0) (hi16 : g 18 0 = g 118 0) (hIJ : IJ g) (hTE : pz_t g = g 19) (hU : Un Γ) (t_q1 : ty Γ q1 1) (t_q12 : ty Γ q12 30) (t_q25 : ty Γ q25 25) (hkc : kc ≤ 300 + i.toInt.toNat) (hks : ks ≤ 30000 + 28 * i.toInt.toNat) (hG : ty_ok (dC, dI) vwCl Γ (TP dA Γ g) sz X H) (hS : va_S (ty_A sz) s.heap H locs) (hl : lv_has ls 7 [(4, .int i), (3, .ref q25), (2, .ref q12), (1, .ref q1), (0, .ref b)]) (hiL : i.toInt + 6 ≤ (L : Int)) : W p l e room_1 s m #[Value.ref b] below meth c H locs kc ks (lw_Z below #[Value.ref b] s) (F0 m 793 ls []) := by
  refine lv_aload_n hx hb dL_law_793 rfl (lv_at hl 3 rfl) ?_
  refine cI (va_runV (C := RX8) (As := []) (rest := []) ⟨hx, hb, hml, hown, hA⟩ (k_X8_year l dC dI dA sz X Γ hU g q1 t_q1   (by first | with_reducible assumption | omega) (by first | with_reducible assumption | omega) (by first | with_reducible assumption | omega)) ⟨callB_of 0 hA (al_A wd_3_228) rfl rfl rfl (hA _ wd_1_1) (hA _ wd_3_225) (by decide +kernel) ⟨Nat.le_of_ble_eq_true rfl, Nat.le_of_ble_eq_true rfl⟩, hA _ wd_3_226, hA _ wd_3_227⟩ ⟨bl, recv_X8 hE hG t_q1, fun U hU9 hW9 => ⟨rfl, by rw [hU9]; exact hG, hE.go hS hU9 hW9⟩⟩ rfl rfl hl.1 rfl (lv_room (Nat.le_of_ble_eq_true rfl)) dL_law_794 ⟨(Nat.le_trans (show kc + 0 ≤ 300000 by omega) (Nat.le_of_ble_eq_true rfl)), (Nat.le_trans (show ks + 0 ≤ 300000 by omega) (Nat.le_of_ble_eq_true rfl))⟩) hS (fun x936 u934 H locs w935 hG hS => ?_)
  obtain ⟨hf937, w935⟩ := w935
  have hj938 : IJ u934 := IJ_cg (hf937 126 0 (by decide) (by decide)) (fun j => hf937 132 j (by decide) (by decide)) (fun j => hf937 134 j (by decide) (by decide)) (by (repeat (first | with_reducible assumption | (refine IJ_c (by decide) (by decide) (by decide) ?_) | (refine IJ_take (by omega) (by omega) ?_) | (refine IJ_how (by omega) ?_) | (refine IJ_by (by omega) ?_))))
  refine lv_pop hx hb dL_law_797 rfl ?_
  refine lv_aload_n hx hb dL_law_798 rfl (lv_at hl 2 rfl) ?_
  have hk939 : u934 126 0 = g 126 0 := hf937 126 0 (by decide) (by decide)
  have hk940 : u934 111 0 = g 111 0 := hf937 111 0 (by decide) (by decide)
  refine cI (va_runV (C := RX9) (As := []) (rest := []) ⟨hx, hb, hml, hown, hA⟩ (k_X9_year l dC dI dA sz X Γ hU u934 q12 t_q12   (by first | with_reducible assumption | omega) (by (repeat (first | with_reducible assumption | (refine IJ_c (by decide) (by decide) (by decide) ?_) | (refine IJ_take (by omega) (by omega) ?_) | (refine IJ_how (by omega) ?_) | (refine IJ_by (by omega) ?_)))) (by first | with_reducible assumption | omega)) ⟨callB_of 0 hA (al_A wd_5_201) rfl rfl rfl (hA _ wd_1_7) (hA _ wd_5_198) (by decide +kernel) ⟨Nat.le_of_ble_eq_true rfl, Nat.le_of_ble_eq_true rfl⟩, hA _ wd_5_199, hA _ wd_5_200⟩ ⟨bl, recv_X9 hE hG t_q12, fun U hU9 hW9 => ⟨rfl, by rw [hU9]; exact hG, hE.go hS hU9 hW9⟩⟩ rfl rfl hl.1 rfl (lv_room (Nat.le_of_ble_eq_true rfl)) dL_law_799 ⟨(Nat.le_trans (show kc + 0 ≤ 300000 by omega) (Nat.le_of_ble_eq_true rfl)), (Nat.le_trans (show ks + 0 ≤ 300000 by omega) (Nat.le_of_ble_eq_true rfl))⟩) hS (fun x943 u941 H locs w942 hG hS => ?_)
  obtain ⟨hf945, w942, hq944⟩ := w942
  refine lv_pop hx hb dL_law_802 rfl ?_
  refine lv_goto (tgt := 1047) hx hb dL_law_803 (by decide) ?_
  obtain ⟨x946, h947⟩ : ∃ y : Int32, y = i + Int32.ofInt (6) := ⟨_, rfl⟩
  try have h948 : x946.toInt = i.toInt + (6) := ty_inc h947 (by decide) (by omega) (by omega)
  refine lv_iinc (v := x946) (lv' := [(4, .int x946), (3, .ref q25), (2, .ref q12), (1, .ref q1), (0, .ref b)]) hx hb dL_law_1047 hl (k := 0) rfl h947.symm (by decide) rfl (fun ls hl => ?_)
  refine lv_goto (tgt := 23) hx hb dL_law_1050 (by decide) ?_
  have hk949 : u941 4 0 = u934 4 0 := hf945 4 0 (by decide) (by decide) (by decide) (by decide) (by decide)
  have hk950 : u941 5 0 = u934 5 0 := hf945 5 0 (by decide) (by decide) (by decide) (by decide) (by decide)
  exact ih x946 Γ u941 (kc) (ks) _ _ ls (by omega) (by omega) (by rw [hf945 1 0 (by decide) (by decide) (by decide) (by decide) (by decide), hf937 1 0 (by decide) (by decide), hf945 33 0 (by decide) (by decide) (by decide) (by decide) (by decide), hf937 33 0 (by decide) (by decide)]; exact hi1) (by rw [hf945 2 0 (by decide) (by decide) (by decide) (by decide) (by decide), hf937 2 0 (by decide) (by decide), hf945 34 0 (by decide) (by decide) (by decide) (by decide) (by decide), hf937 34 0 (by decide) (by decide)]; exact hi2) (by rw [hf945 3 0 (by decide) (by decide) (by decide) (by decide) (by decide), hf937 3 0 (by decide) (by decide), hf945 35 0 (by decide) (by decide) (by decide) (by decide) (by decide), hf937 35 0 (by decide) (by decide)]; exact hi3) (by omega) (by omega) (by rw [hf945 6 0 (by decide) (by decide) (by decide) (by decide) (by decide), hf937 6 0 (by decide) (by decide)]; exact hi6) (by rw [hf945 7 0 (by decide) (by decide) (by decide) (by decide) (by decide), hf937 7 0 (by decide) (by decide), hf945 36 0 (by decide) (by decide) (by decide) (by decide) (by decide), hf937 36 0 (by decide) (by decide)]; exact hi7) (by rw [hf945 101 0 (by decide) (by decide) (by decide) (by decide) (by decide), hf937 101 0 (by decide) (by decide), hf945 1 0 (by decide) (by decide) (by decide) (by decide) (by decide), hf937 1 0 (by decide) (by decide)]; exact hi8) (by rw [hf945 104 0 (by decide) (by decide) (by decide) (by decide) (by decide), hf937 104 0 (by decide) (by decide), hf945 2 0 (by decide) (by decide) (by decide) (by decide) (by decide), hf937 2 0 (by decide) (by decide)]; exact hi9) (by omega) (by omega) (by rw [hf945 114 0 (by decide) (by decide) (by decide) (by decide) (by decide), hf937 114 0 (by decide) (by decide), hf945 6 0 (by decide) (by decide) (by decide) (by decide) (by decide), hf937 6 0 (by decide) (by decide)]; exact hi12) (by rw [hf945 126 0 (by decide) (by decide) (by decide) (by decide) (by decide), hf937 126 0 (by decide) (by decide)]; exact hi13) (by rw [hf945 122 0 (by decide) (by decide) (by decide) (by decide) (by decide), hf937 122 0 (by decide) (by decide)]; exact hi14) (by rw [hf945 14 0 (by decide) (by decide) (by decide) (by decide) (by decide), hf937 14 0 (by decide) (by decide), hf945 121 0 (by decide) (by decide) (by decide) (by decide) (by decide), hf937 121 0 (by decide) (by decide)]; exact hi15) (by rw [hf945 18 0 (by decide) (by decide) (by decide) (by decide) (by decide), hf937 18 0 (by decide) (by decide), hf945 118 0 (by decide) (by decide) (by decide) (by decide) (by decide), hf937 118 0 (by decide) (by decide)]; exact hi16) (by (repeat (first | with_reducible assumption | (refine IJ_c (by decide) (by decide) (by decide) ?_) | (refine IJ_take (by omega) (by omega) ?_) | (refine IJ_how (by omega) ?_) | (refine IJ_by (by omega) ?_)))) (funext fun j => by show u941 113 j % 256 = u941 19 j; rw [hf945 113 j (by decide) (by decide) (by decide) (by decide) (by decide), hf937 113 j (by decide) (by decide), hf945 19 j (by decide) (by decide) (by decide) (by decide) (by decide), hf937 19 j (by decide) (by decide)]; exact congrFun hTE j) hU t_q1 t_q12 t_q25 (by omega) (by omega) hG hS (lv_sub hl [0, 1, 2, 3, 4] rfl)
set_option maxHeartbeats 40000000 in
set_option maxRecDepth 100000 in
/-- the law's case 18 -/
theorem law_c18 {p : Program} {e : Env} {s : State} {m : MethodId} {below : List Frame} {meth : Method} {c : Code} (l : Launch) (hl9 : l.stackTraces = false) {b L : Nat} {xs : Nat → Int32} (hLN : L ≤ 3072) (hx : p.tables.exec = Jvm.exec) (hb : c.code = code) (hr : meth.sig.returnType = ret) (hml : c.maxLocals = 7) (hown : s.vm.findClass R_law = some m.cls) (hA : ∀ w ∈ AL, w.before #[Value.ref b] s = true) (hXs : va_X b L xs s s.heap) (hbl : b < s.heap.size) (hlocks : meth.locks = false) {dC : Nat → ClassId} {dI : Nat → Nat → Nat} {dA : Nat → ClassId} {sz : Nat} (hE : en dC dI dA sz s) (hsz : sz = s.heap.size) (hbA : ¬ ty_A sz b) (X : va_W) (q1 q12 q25 : Nat) (n : Nat) (ih : LJ p l e s m below meth c b dC dI dA sz X q1 q12 q25 n) (i : Int32) (Γ : ty_G) (g : gh) (kc ks : Nat) (H : Heap) (locs : List Loc) (ls : Array Slot) (hm : (3073 - i.toInt : Int) < (n + 1 : Nat)) (hi0 : 0 ≤ i.toInt ∧ i.toInt ≤ 3072) (hi1 : g 1 0 = g 33 0 ∧ 0 ≤ g 1 0 ∧ g 1 0 ≤ 6) (hi2 : g 2 0 = g 34 0 ∧ 0 ≤ g 2 0 ∧ g 2 0 ≤ 10) (hi3 : g 3 0 = g 35 0 ∧ 0 ≤ g 3 0 ∧ g 3 0 ≤ 200) (hi4 : 0 ≤ g 5 0 ∧ g 5 0 ≤ 52) (hi5 : 0 ≤ g 4 0 ∧ g 4 0 ≤ i.toInt) (hi6 : 0 ≤ g 6 0 ∧ g 6 0 ≤ 300) (hi7 : 0 ≤ g 7 0 ∧ g 7 0 ≤ g 36 0 ∧ g 36 0 ≤ 9) (hi8 : g 101 0 = g 1 0) (hi9 : g 104 0 = g 2 0) (hi10 : g 112 0 = g 5 0) (hi11 : g 111 0 = g 4 0) (hi12 : g 114 0 = g 6 0) (hi13 : 0 ≤ g 126 0 ∧ g 126 0 ≤ 200) (hi14 : 0 ≤ g 122 0 ∧ g 122 0 ≤ 30) (hi15 : g 14 0 = g 121 0) (hi16 : g 18 0 = g 118 0) (hIJ : IJ g) (hTE : pz_t g = g 19) (hU : Un Γ) (t_q1 : ty Γ q1 1) (t_q12 : ty Γ q12 30) (t_q25 : ty Γ q25 25) (hkc : kc ≤ 300 + i.toInt.toNat) (hks : ks ≤ 30000 + 28 * i.toInt.toNat) (hG : ty_ok (dC, dI) vwCl Γ (TP dA Γ g) sz X H) (hS : va_S (ty_A sz) s.heap H locs) (hl : lv_has ls 7 [(4, .int i), (3, .ref q25), (2, .ref q12), (1, .ref q1), (0, .ref b)]) (hiL : i.toInt + 6 ≤ (L : Int)) : W p l e room_1 s m #[Value.ref b] below meth c H locs kc ks (lw_Z below #[Value.ref b] s) (F0 m 806 ls []) := by
  refine lv_aload_n hx hb dL_law_806 rfl (lv_at hl 3 rfl) ?_
  refine lv_aload_n hx hb dL_law_807 rfl (lv_at hl 4 rfl) ?_
  refine lv_iload hx hb dL_law_808 (lv_at hl 0 rfl) ?_
  refine ty_iconst hx hb (1) dL_law_810 (by decide) (fun x951 h952 => ?_)
  refine ty_iadd hx hb dL_law_811 (fun x953 h954 => ?_)
  have h955 := lw_ix (k := 1) h952 h954 hi0 hiL hLN (by decide)
  refine va_sld hx hb hXs hbl hbA hS (i := x953) (ty_ix h955.2) dL_law_812 ?_
  refine W.eq (g2 := F0 m 813 ls [.int (xs (i.toInt.toNat + 1)), .ref q1]) (by rw [lw_xs (xs := xs) h955.1 hi0.1]) ?_
  clear h955 h954 h952
  refine lv_topi (fun x956 s957 => ?_)
  refine lv_aload_n hx hb dL_law_813 rfl (lv_at hl 4 rfl) ?_
  refine lv_iload hx hb dL_law_814 (lv_at hl 0 rfl) ?_
  refine ty_iconst hx hb (2) dL_law_816 (by decide) (fun x958 h959 => ?_)
  refine ty_iadd hx hb dL_law_817 (fun x960 h961 => ?_)
  have h962 := lw_ix (k := 2) h959 h961 hi0 hiL hLN (by decide)
  refine va_sld hx hb hXs hbl hbA hS (i := x960) (ty_ix h962.2) dL_law_818 ?_
  refine W.eq (g2 := F0 m 819 ls [.int (xs (i.toInt.toNat + 2)), .int x956, .ref q1]) (by rw [lw_xs (xs := xs) h962.1 hi0.1]) ?_
  clear h962 h961 h959
  refine lv_topi (fun x963 s964 => ?_)
  refine lv_aload_n hx hb dL_law_819 rfl (lv_at hl 4 rfl) ?_
  refine lv_iload hx hb dL_law_820 (lv_at hl 0 rfl) ?_
  refine ty_iconst hx hb (3) dL_law_822 (by decide) (fun x965 h966 => ?_)
  refine ty_iadd hx hb dL_law_823 (fun x967 h968 => ?_)
  have h969 := lw_ix (k := 3) h966 h968 hi0 hiL hLN (by decide)
  refine va_sld hx hb hXs hbl hbA hS (i := x967) (ty_ix h969.2) dL_law_824 ?_
  refine W.eq (g2 := F0 m 825 ls [.int (xs (i.toInt.toNat + 3)), .int x963, .int x956, .ref q1]) (by rw [lw_xs (xs := xs) h969.1 hi0.1]) ?_
  clear h969 h968 h966
  refine lv_topi (fun x970 s971 => ?_)
  refine ty_if_eq (tgt := 832) hx hb dL_law_825 (by decide) (fun c972 => ?_) (fun c972 => ?_)
  · skip
    refine ty_iconst hx hb (0) dL_law_832 (by decide) (fun x973 h974 => ?_)
    refine cI (va_runV (C := RX8) (As := [.int x956, .int x963, .int x973]) (rest := []) ⟨hx, hb, hml, hown, hA⟩ (k_X8_dies l dC dI dA sz X Γ hU g q1 t_q1 x956 x963 x973   (by first | with_reducible assumption | omega) (by first | with_reducible assumption | omega) (by first | with_reducible assumption | omega)) ⟨callB_of 3 hA (al_A wd_3_236) rfl rfl rfl (hA _ wd_1_1) (hA _ wd_3_233) (by decide +kernel) ⟨Nat.le_of_ble_eq_true rfl, Nat.le_of_ble_eq_true rfl⟩, hA _ wd_3_234, hA _ wd_3_235⟩ ⟨bl, recv_X8 hE hG t_q1, fun U hU9 hW9 => ⟨rfl, by rw [hU9]; exact hG, hE.go hS hU9 hW9⟩⟩ rfl rfl hl.1 rfl (lv_room (Nat.le_of_ble_eq_true rfl)) dL_law_833 ⟨(Nat.le_trans (show kc + 0 ≤ 300000 by omega) (Nat.le_of_ble_eq_true rfl)), (Nat.le_trans (show ks + 0 ≤ 300000 by omega) (Nat.le_of_ble_eq_true rfl))⟩) hS (fun x977 u975 H locs w976 hG hS => ?_)
    have eu978 := w976
    rw [eu978] at hG
    refine lv_pop hx hb dL_law_836 rfl ?_
    refine lv_aload_n hx hb dL_law_837 rfl (lv_at hl 2 rfl) ?_
    refine lv_aload_n hx hb dL_law_838 rfl (lv_at hl 4 rfl) ?_
    refine lv_iload hx hb dL_law_839 (lv_at hl 0 rfl) ?_
    refine ty_iconst hx hb (1) dL_law_841 (by decide) (fun x979 h980 => ?_)
    refine ty_iadd hx hb dL_law_842 (fun x981 h982 => ?_)
    have h983 := lw_ix (k := 1) h980 h982 hi0 hiL hLN (by decide)
    refine va_sld hx hb hXs hbl hbA hS (i := x981) (ty_ix h983.2) dL_law_843 ?_
    refine W.eq (g2 := F0 m 844 ls [.int (xs (i.toInt.toNat + 1)), .ref q12]) (by rw [lw_xs (xs := xs) h983.1 hi0.1]) ?_
    clear h983 h982 h980
    refine W.eq (g2 := F0 m 844 ls [.int x956, .ref q12]) (by rw [s957]) ?_
    refine lv_aload_n hx hb dL_law_844 rfl (lv_at hl 4 rfl) ?_
    refine lv_iload hx hb dL_law_845 (lv_at hl 0 rfl) ?_
    refine ty_iconst hx hb (2) dL_law_847 (by decide) (fun x984 h985 => ?_)
    refine ty_iadd hx hb dL_law_848 (fun x986 h987 => ?_)
    have h988 := lw_ix (k := 2) h985 h987 hi0 hiL hLN (by decide)
    refine va_sld hx hb hXs hbl hbA hS (i := x986) (ty_ix h988.2) dL_law_849 ?_
    refine W.eq (g2 := F0 m 850 ls [.int (xs (i.toInt.toNat + 2)), .int x956, .ref q12]) (by rw [lw_xs (xs := xs) h988.1 hi0.1]) ?_
    clear h988 h987 h985
    refine W.eq (g2 := F0 m 850 ls [.int x963, .int x956, .ref q12]) (by rw [s964]) ?_
    refine lv_aload_n hx hb dL_law_850 rfl (lv_at hl 4 rfl) ?_
    refine lv_iload hx hb dL_law_851 (lv_at hl 0 rfl) ?_
    refine ty_iconst hx hb (3) dL_law_853 (by decide) (fun x989 h990 => ?_)
    refine ty_iadd hx hb dL_law_854 (fun x991 h992 => ?_)
    have h993 := lw_ix (k := 3) h990 h992 hi0 hiL hLN (by decide)
    refine va_sld hx hb hXs hbl hbA hS (i := x991) (ty_ix h993.2) dL_law_855 ?_
    refine W.eq (g2 := F0 m 856 ls [.int (xs (i.toInt.toNat + 3)), .int x963, .int x956, .ref q12]) (by rw [lw_xs (xs := xs) h993.1 hi0.1]) ?_
    clear h993 h992 h990
    refine W.eq (g2 := F0 m 856 ls [.int x970, .int x963, .int x956, .ref q12]) (by rw [s971]) ?_
    refine ty_if_eq (tgt := 863) hx hb dL_law_856 (by decide) (fun c994 => ?_) (fun c994 => ?_)
    · skip
      refine ty_iconst hx hb (0) dL_law_863 (by decide) (fun x995 h996 => ?_)
      refine cI (va_runV (C := RX9) (As := [.int x956, .int x963, .int x995]) (rest := []) ⟨hx, hb, hml, hown, hA⟩ (k_X9_dies l dC dI dA sz X Γ hU g q12 t_q12 x956 x963 x995   (by first | with_reducible assumption | omega) (by first | with_reducible assumption | omega) (by first | with_reducible assumption | omega) (by (repeat (first | with_reducible assumption | (refine IJ_c (by decide) (by decide) (by decide) ?_) | (refine IJ_take (by omega) (by omega) ?_) | (refine IJ_how (by omega) ?_) | (refine IJ_by (by omega) ?_))))) ⟨callB_of 3 hA (al_A wd_5_205) rfl rfl rfl (hA _ wd_1_7) (hA _ wd_5_202) (by decide +kernel) ⟨Nat.le_of_ble_eq_true rfl, Nat.le_of_ble_eq_true rfl⟩, hA _ wd_5_203, hA _ wd_5_204⟩ ⟨bl, recv_X9 hE hG t_q12, fun U hU9 hW9 => ⟨rfl, by rw [hU9]; exact hG, hE.go hS hU9 hW9⟩⟩ rfl rfl hl.1 rfl (lv_room (Nat.le_of_ble_eq_true rfl)) dL_law_864 ⟨(Nat.le_trans (show kc + 0 ≤ 300000 by omega) (Nat.le_of_ble_eq_true rfl)), (Nat.le_trans (show ks + 0 ≤ 300000 by omega) (Nat.le_of_ble_eq_true rfl))⟩) hS (fun x999 u997 H locs w998 hG hS => ?_)
      obtain ⟨hf1001, hq1000⟩ := w998
      refine lv_pop hx hb dL_law_867 rfl ?_
      refine lv_goto (tgt := 1047) hx hb dL_law_868 (by decide) ?_
      obtain ⟨x1002, h1003⟩ : ∃ y : Int32, y = i + Int32.ofInt (6) := ⟨_, rfl⟩
      try have h1004 : x1002.toInt = i.toInt + (6) := ty_inc h1003 (by decide) (by omega) (by omega)
      refine lv_iinc (v := x1002) (lv' := [(4, .int x1002), (3, .ref q25), (2, .ref q12), (1, .ref q1), (0, .ref b)]) hx hb dL_law_1047 hl (k := 0) rfl h1003.symm (by decide) rfl (fun ls hl => ?_)
      refine lv_goto (tgt := 23) hx hb dL_law_1050 (by decide) ?_
      have hk1005 : u997 4 0 = g 4 0 := hf1001 4 0 (by decide) (by decide) (by decide) (by decide) (by decide) (by decide)
      exact ih x1002 Γ u997 (kc) (ks) _ _ ls (by omega) (by omega) (by rw [hf1001 1 0 (by decide) (by decide) (by decide) (by decide) (by decide) (by decide), hf1001 33 0 (by decide) (by decide) (by decide) (by decide) (by decide) (by decide)]; exact hi1) (by rw [hf1001 2 0 (by decide) (by decide) (by decide) (by decide) (by decide) (by decide), hf1001 34 0 (by decide) (by decide) (by decide) (by decide) (by decide) (by decide)]; exact hi2) (by rw [hf1001 3 0 (by decide) (by decide) (by decide) (by decide) (by decide) (by decide), hf1001 35 0 (by decide) (by decide) (by decide) (by decide) (by decide) (by decide)]; exact hi3) (by rw [hf1001 5 0 (by decide) (by decide) (by decide) (by decide) (by decide) (by decide)]; exact hi4) (by omega) (by rw [hf1001 6 0 (by decide) (by decide) (by decide) (by decide) (by decide) (by decide)]; exact hi6) (by rw [hf1001 7 0 (by decide) (by decide) (by decide) (by decide) (by decide) (by decide), hf1001 36 0 (by decide) (by decide) (by decide) (by decide) (by decide) (by decide)]; exact hi7) (by rw [hf1001 101 0 (by decide) (by decide) (by decide) (by decide) (by decide) (by decide), hf1001 1 0 (by decide) (by decide) (by decide) (by decide) (by decide) (by decide)]; exact hi8) (by rw [hf1001 104 0 (by decide) (by decide) (by decide) (by decide) (by decide) (by decide), hf1001 2 0 (by decide) (by decide) (by decide) (by decide) (by decide) (by decide)]; exact hi9) (by rw [hf1001 112 0 (by decide) (by decide) (by decide) (by decide) (by decide) (by decide), hf1001 5 0 (by decide) (by decide) (by decide) (by decide) (by decide) (by decide)]; exact hi10) (by rw [hf1001 111 0 (by decide) (by decide) (by decide) (by decide) (by decide) (by decide), hf1001 4 0 (by decide) (by decide) (by decide) (by decide) (by decide) (by decide)]; exact hi11) (by rw [hf1001 114 0 (by decide) (by decide) (by decide) (by decide) (by decide) (by decide), hf1001 6 0 (by decide) (by decide) (by decide) (by decide) (by decide) (by decide)]; exact hi12) (by rw [hf1001 126 0 (by decide) (by decide) (by decide) (by decide) (by decide) (by decide)]; exact hi13) (by rw [hf1001 122 0 (by decide) (by decide) (by decide) (by decide) (by decide) (by decide)]; exact hi14) (by rw [hf1001 14 0 (by decide) (by decide) (by decide) (by decide) (by decide) (by decide), hf1001 121 0 (by decide) (by decide) (by decide) (by decide) (by decide) (by decide)]; exact hi15) (by rw [hf1001 18 0 (by decide) (by decide) (by decide) (by decide) (by decide) (by decide), hf1001 118 0 (by decide) (by decide) (by decide) (by decide) (by decide) (by decide)]; exact hi16) (by (repeat (first | with_reducible assumption | (refine IJ_c (by decide) (by decide) (by decide) ?_) | (refine IJ_take (by omega) (by omega) ?_) | (refine IJ_how (by omega) ?_) | (refine IJ_by (by omega) ?_)))) (funext fun j => by show u997 113 j % 256 = u997 19 j; rw [hf1001 113 j (by decide) (by decide) (by decide) (by decide) (by decide) (by decide), hf1001 19 j (by decide) (by decide) (by decide) (by decide) (by decide) (by decide)]; exact congrFun hTE j) hU t_q1 t_q12 t_q25 (by omega) (by omega) hG hS (lv_sub hl [0, 1, 2, 3, 4] rfl)
    · exfalso; omega
  · skip
    refine ty_iconst hx hb (1) dL_law_828 (by decide) (fun x1006 h1007 => ?_)
    refine lv_goto (tgt := 833) hx hb dL_law_829 (by decide) ?_
    refine cI (va_runV (C := RX8) (As := [.int x956, .int x963, .int x1006]) (rest := []) ⟨hx, hb, hml, hown, hA⟩ (k_X8_dies l dC dI dA sz X Γ hU g q1 t_q1 x956 x963 x1006   (by first | with_reducible assumption | omega) (by first | with_reducible assumption | omega) (by first | with_reducible assumption | omega)) ⟨callB_of 3 hA (al_A wd_3_236) rfl rfl rfl (hA _ wd_1_1) (hA _ wd_3_233) (by decide +kernel) ⟨Nat.le_of_ble_eq_true rfl, Nat.le_of_ble_eq_true rfl⟩, hA _ wd_3_234, hA _ wd_3_235⟩ ⟨bl, recv_X8 hE hG t_q1, fun U hU9 hW9 => ⟨rfl, by rw [hU9]; exact hG, hE.go hS hU9 hW9⟩⟩ rfl rfl hl.1 rfl (lv_room (Nat.le_of_ble_eq_true rfl)) dL_law_833 ⟨(Nat.le_trans (show kc + 0 ≤ 300000 by omega) (Nat.le_of_ble_eq_true rfl)), (Nat.le_trans (show ks + 0 ≤ 300000 by omega) (Nat.le_of_ble_eq_true rfl))⟩) hS (fun x1010 u1008 H locs w1009 hG hS => ?_)
    have eu1011 := w1009
    rw [eu1011] at hG
    refine lv_pop hx hb dL_law_836 rfl ?_
    refine lv_aload_n hx hb dL_law_837 rfl (lv_at hl 2 rfl) ?_
    refine lv_aload_n hx hb dL_law_838 rfl (lv_at hl 4 rfl) ?_
    refine lv_iload hx hb dL_law_839 (lv_at hl 0 rfl) ?_
    refine ty_iconst hx hb (1) dL_law_841 (by decide) (fun x1012 h1013 => ?_)
    refine ty_iadd hx hb dL_law_842 (fun x1014 h1015 => ?_)
    have h1016 := lw_ix (k := 1) h1013 h1015 hi0 hiL hLN (by decide)
    refine va_sld hx hb hXs hbl hbA hS (i := x1014) (ty_ix h1016.2) dL_law_843 ?_
    refine W.eq (g2 := F0 m 844 ls [.int (xs (i.toInt.toNat + 1)), .ref q12]) (by rw [lw_xs (xs := xs) h1016.1 hi0.1]) ?_
    clear h1016 h1015 h1013
    refine W.eq (g2 := F0 m 844 ls [.int x956, .ref q12]) (by rw [s957]) ?_
    refine lv_aload_n hx hb dL_law_844 rfl (lv_at hl 4 rfl) ?_
    refine lv_iload hx hb dL_law_845 (lv_at hl 0 rfl) ?_
    refine ty_iconst hx hb (2) dL_law_847 (by decide) (fun x1017 h1018 => ?_)
    refine ty_iadd hx hb dL_law_848 (fun x1019 h1020 => ?_)
    have h1021 := lw_ix (k := 2) h1018 h1020 hi0 hiL hLN (by decide)
    refine va_sld hx hb hXs hbl hbA hS (i := x1019) (ty_ix h1021.2) dL_law_849 ?_
    refine W.eq (g2 := F0 m 850 ls [.int (xs (i.toInt.toNat + 2)), .int x956, .ref q12]) (by rw [lw_xs (xs := xs) h1021.1 hi0.1]) ?_
    clear h1021 h1020 h1018
    refine W.eq (g2 := F0 m 850 ls [.int x963, .int x956, .ref q12]) (by rw [s964]) ?_
    refine lv_aload_n hx hb dL_law_850 rfl (lv_at hl 4 rfl) ?_
    refine lv_iload hx hb dL_law_851 (lv_at hl 0 rfl) ?_
    refine ty_iconst hx hb (3) dL_law_853 (by decide) (fun x1022 h1023 => ?_)
    refine ty_iadd hx hb dL_law_854 (fun x1024 h1025 => ?_)
    have h1026 := lw_ix (k := 3) h1023 h1025 hi0 hiL hLN (by decide)
    refine va_sld hx hb hXs hbl hbA hS (i := x1024) (ty_ix h1026.2) dL_law_855 ?_
    refine W.eq (g2 := F0 m 856 ls [.int (xs (i.toInt.toNat + 3)), .int x963, .int x956, .ref q12]) (by rw [lw_xs (xs := xs) h1026.1 hi0.1]) ?_
    clear h1026 h1025 h1023
    refine W.eq (g2 := F0 m 856 ls [.int x970, .int x963, .int x956, .ref q12]) (by rw [s971]) ?_
    refine ty_if_eq (tgt := 863) hx hb dL_law_856 (by decide) (fun c1027 => ?_) (fun c1027 => ?_)
    · skip
      refine ty_iconst hx hb (0) dL_law_863 (by decide) (fun x1028 h1029 => ?_)
      refine cI (va_runV (C := RX9) (As := [.int x956, .int x963, .int x1028]) (rest := []) ⟨hx, hb, hml, hown, hA⟩ (k_X9_dies l dC dI dA sz X Γ hU g q12 t_q12 x956 x963 x1028   (by first | with_reducible assumption | omega) (by first | with_reducible assumption | omega) (by first | with_reducible assumption | omega) (by (repeat (first | with_reducible assumption | (refine IJ_c (by decide) (by decide) (by decide) ?_) | (refine IJ_take (by omega) (by omega) ?_) | (refine IJ_how (by omega) ?_) | (refine IJ_by (by omega) ?_))))) ⟨callB_of 3 hA (al_A wd_5_205) rfl rfl rfl (hA _ wd_1_7) (hA _ wd_5_202) (by decide +kernel) ⟨Nat.le_of_ble_eq_true rfl, Nat.le_of_ble_eq_true rfl⟩, hA _ wd_5_203, hA _ wd_5_204⟩ ⟨bl, recv_X9 hE hG t_q12, fun U hU9 hW9 => ⟨rfl, by rw [hU9]; exact hG, hE.go hS hU9 hW9⟩⟩ rfl rfl hl.1 rfl (lv_room (Nat.le_of_ble_eq_true rfl)) dL_law_864 ⟨(Nat.le_trans (show kc + 0 ≤ 300000 by omega) (Nat.le_of_ble_eq_true rfl)), (Nat.le_trans (show ks + 0 ≤ 300000 by omega) (Nat.le_of_ble_eq_true rfl))⟩) hS (fun x1032 u1030 H locs w1031 hG hS => ?_)
      obtain ⟨hf1034, hq1033⟩ := w1031
      refine lv_pop hx hb dL_law_867 rfl ?_
      refine lv_goto (tgt := 1047) hx hb dL_law_868 (by decide) ?_
      obtain ⟨x1035, h1036⟩ : ∃ y : Int32, y = i + Int32.ofInt (6) := ⟨_, rfl⟩
      try have h1037 : x1035.toInt = i.toInt + (6) := ty_inc h1036 (by decide) (by omega) (by omega)
      refine lv_iinc (v := x1035) (lv' := [(4, .int x1035), (3, .ref q25), (2, .ref q12), (1, .ref q1), (0, .ref b)]) hx hb dL_law_1047 hl (k := 0) rfl h1036.symm (by decide) rfl (fun ls hl => ?_)
      refine lv_goto (tgt := 23) hx hb dL_law_1050 (by decide) ?_
      have hk1038 : u1030 4 0 = g 4 0 := hf1034 4 0 (by decide) (by decide) (by decide) (by decide) (by decide) (by decide)
      exact ih x1035 Γ u1030 (kc) (ks) _ _ ls (by omega) (by omega) (by rw [hf1034 1 0 (by decide) (by decide) (by decide) (by decide) (by decide) (by decide), hf1034 33 0 (by decide) (by decide) (by decide) (by decide) (by decide) (by decide)]; exact hi1) (by rw [hf1034 2 0 (by decide) (by decide) (by decide) (by decide) (by decide) (by decide), hf1034 34 0 (by decide) (by decide) (by decide) (by decide) (by decide) (by decide)]; exact hi2) (by rw [hf1034 3 0 (by decide) (by decide) (by decide) (by decide) (by decide) (by decide), hf1034 35 0 (by decide) (by decide) (by decide) (by decide) (by decide) (by decide)]; exact hi3) (by rw [hf1034 5 0 (by decide) (by decide) (by decide) (by decide) (by decide) (by decide)]; exact hi4) (by omega) (by rw [hf1034 6 0 (by decide) (by decide) (by decide) (by decide) (by decide) (by decide)]; exact hi6) (by rw [hf1034 7 0 (by decide) (by decide) (by decide) (by decide) (by decide) (by decide), hf1034 36 0 (by decide) (by decide) (by decide) (by decide) (by decide) (by decide)]; exact hi7) (by rw [hf1034 101 0 (by decide) (by decide) (by decide) (by decide) (by decide) (by decide), hf1034 1 0 (by decide) (by decide) (by decide) (by decide) (by decide) (by decide)]; exact hi8) (by rw [hf1034 104 0 (by decide) (by decide) (by decide) (by decide) (by decide) (by decide), hf1034 2 0 (by decide) (by decide) (by decide) (by decide) (by decide) (by decide)]; exact hi9) (by rw [hf1034 112 0 (by decide) (by decide) (by decide) (by decide) (by decide) (by decide), hf1034 5 0 (by decide) (by decide) (by decide) (by decide) (by decide) (by decide)]; exact hi10) (by rw [hf1034 111 0 (by decide) (by decide) (by decide) (by decide) (by decide) (by decide), hf1034 4 0 (by decide) (by decide) (by decide) (by decide) (by decide) (by decide)]; exact hi11) (by rw [hf1034 114 0 (by decide) (by decide) (by decide) (by decide) (by decide) (by decide), hf1034 6 0 (by decide) (by decide) (by decide) (by decide) (by decide) (by decide)]; exact hi12) (by rw [hf1034 126 0 (by decide) (by decide) (by decide) (by decide) (by decide) (by decide)]; exact hi13) (by rw [hf1034 122 0 (by decide) (by decide) (by decide) (by decide) (by decide) (by decide)]; exact hi14) (by rw [hf1034 14 0 (by decide) (by decide) (by decide) (by decide) (by decide) (by decide), hf1034 121 0 (by decide) (by decide) (by decide) (by decide) (by decide) (by decide)]; exact hi15) (by rw [hf1034 18 0 (by decide) (by decide) (by decide) (by decide) (by decide) (by decide), hf1034 118 0 (by decide) (by decide) (by decide) (by decide) (by decide) (by decide)]; exact hi16) (by (repeat (first | with_reducible assumption | (refine IJ_c (by decide) (by decide) (by decide) ?_) | (refine IJ_take (by omega) (by omega) ?_) | (refine IJ_how (by omega) ?_) | (refine IJ_by (by omega) ?_)))) (funext fun j => by show u1030 113 j % 256 = u1030 19 j; rw [hf1034 113 j (by decide) (by decide) (by decide) (by decide) (by decide) (by decide), hf1034 19 j (by decide) (by decide) (by decide) (by decide) (by decide) (by decide)]; exact congrFun hTE j) hU t_q1 t_q12 t_q25 (by omega) (by omega) hG hS (lv_sub hl [0, 1, 2, 3, 4] rfl)
    · skip
      refine ty_iconst hx hb (1) dL_law_859 (by decide) (fun x1039 h1040 => ?_)
      refine lv_goto (tgt := 864) hx hb dL_law_860 (by decide) ?_
      refine cI (va_runV (C := RX9) (As := [.int x956, .int x963, .int x1039]) (rest := []) ⟨hx, hb, hml, hown, hA⟩ (k_X9_dies l dC dI dA sz X Γ hU g q12 t_q12 x956 x963 x1039   (by first | with_reducible assumption | omega) (by first | with_reducible assumption | omega) (by first | with_reducible assumption | omega) (by (repeat (first | with_reducible assumption | (refine IJ_c (by decide) (by decide) (by decide) ?_) | (refine IJ_take (by omega) (by omega) ?_) | (refine IJ_how (by omega) ?_) | (refine IJ_by (by omega) ?_))))) ⟨callB_of 3 hA (al_A wd_5_205) rfl rfl rfl (hA _ wd_1_7) (hA _ wd_5_202) (by decide +kernel) ⟨Nat.le_of_ble_eq_true rfl, Nat.le_of_ble_eq_true rfl⟩, hA _ wd_5_203, hA _ wd_5_204⟩ ⟨bl, recv_X9 hE hG t_q12, fun U hU9 hW9 => ⟨rfl, by rw [hU9]; exact hG, hE.go hS hU9 hW9⟩⟩ rfl rfl hl.1 rfl (lv_room (Nat.le_of_ble_eq_true rfl)) dL_law_864 ⟨(Nat.le_trans (show kc + 0 ≤ 300000 by omega) (Nat.le_of_ble_eq_true rfl)), (Nat.le_trans (show ks + 0 ≤ 300000 by omega) (Nat.le_of_ble_eq_true rfl))⟩) hS (fun x1043 u1041 H locs w1042 hG hS => ?_)
      obtain ⟨hf1045, hq1044⟩ := w1042
      refine lv_pop hx hb dL_law_867 rfl ?_
      refine lv_goto (tgt := 1047) hx hb dL_law_868 (by decide) ?_
      obtain ⟨x1046, h1047⟩ : ∃ y : Int32, y = i + Int32.ofInt (6) := ⟨_, rfl⟩
      try have h1048 : x1046.toInt = i.toInt + (6) := ty_inc h1047 (by decide) (by omega) (by omega)
      refine lv_iinc (v := x1046) (lv' := [(4, .int x1046), (3, .ref q25), (2, .ref q12), (1, .ref q1), (0, .ref b)]) hx hb dL_law_1047 hl (k := 0) rfl h1047.symm (by decide) rfl (fun ls hl => ?_)
      refine lv_goto (tgt := 23) hx hb dL_law_1050 (by decide) ?_
      have hk1049 : u1041 4 0 = g 4 0 := hf1045 4 0 (by decide) (by decide) (by decide) (by decide) (by decide) (by decide)
      exact ih x1046 Γ u1041 (kc) (ks) _ _ ls (by omega) (by omega) (by rw [hf1045 1 0 (by decide) (by decide) (by decide) (by decide) (by decide) (by decide), hf1045 33 0 (by decide) (by decide) (by decide) (by decide) (by decide) (by decide)]; exact hi1) (by rw [hf1045 2 0 (by decide) (by decide) (by decide) (by decide) (by decide) (by decide), hf1045 34 0 (by decide) (by decide) (by decide) (by decide) (by decide) (by decide)]; exact hi2) (by rw [hf1045 3 0 (by decide) (by decide) (by decide) (by decide) (by decide) (by decide), hf1045 35 0 (by decide) (by decide) (by decide) (by decide) (by decide) (by decide)]; exact hi3) (by rw [hf1045 5 0 (by decide) (by decide) (by decide) (by decide) (by decide) (by decide)]; exact hi4) (by omega) (by rw [hf1045 6 0 (by decide) (by decide) (by decide) (by decide) (by decide) (by decide)]; exact hi6) (by rw [hf1045 7 0 (by decide) (by decide) (by decide) (by decide) (by decide) (by decide), hf1045 36 0 (by decide) (by decide) (by decide) (by decide) (by decide) (by decide)]; exact hi7) (by rw [hf1045 101 0 (by decide) (by decide) (by decide) (by decide) (by decide) (by decide), hf1045 1 0 (by decide) (by decide) (by decide) (by decide) (by decide) (by decide)]; exact hi8) (by rw [hf1045 104 0 (by decide) (by decide) (by decide) (by decide) (by decide) (by decide), hf1045 2 0 (by decide) (by decide) (by decide) (by decide) (by decide) (by decide)]; exact hi9) (by rw [hf1045 112 0 (by decide) (by decide) (by decide) (by decide) (by decide) (by decide), hf1045 5 0 (by decide) (by decide) (by decide) (by decide) (by decide) (by decide)]; exact hi10) (by rw [hf1045 111 0 (by decide) (by decide) (by decide) (by decide) (by decide) (by decide), hf1045 4 0 (by decide) (by decide) (by decide) (by decide) (by decide) (by decide)]; exact hi11) (by rw [hf1045 114 0 (by decide) (by decide) (by decide) (by decide) (by decide) (by decide), hf1045 6 0 (by decide) (by decide) (by decide) (by decide) (by decide) (by decide)]; exact hi12) (by rw [hf1045 126 0 (by decide) (by decide) (by decide) (by decide) (by decide) (by decide)]; exact hi13) (by rw [hf1045 122 0 (by decide) (by decide) (by decide) (by decide) (by decide) (by decide)]; exact hi14) (by rw [hf1045 14 0 (by decide) (by decide) (by decide) (by decide) (by decide) (by decide), hf1045 121 0 (by decide) (by decide) (by decide) (by decide) (by decide) (by decide)]; exact hi15) (by rw [hf1045 18 0 (by decide) (by decide) (by decide) (by decide) (by decide) (by decide), hf1045 118 0 (by decide) (by decide) (by decide) (by decide) (by decide) (by decide)]; exact hi16) (by (repeat (first | with_reducible assumption | (refine IJ_c (by decide) (by decide) (by decide) ?_) | (refine IJ_take (by omega) (by omega) ?_) | (refine IJ_how (by omega) ?_) | (refine IJ_by (by omega) ?_)))) (funext fun j => by show u1041 113 j % 256 = u1041 19 j; rw [hf1045 113 j (by decide) (by decide) (by decide) (by decide) (by decide) (by decide), hf1045 19 j (by decide) (by decide) (by decide) (by decide) (by decide) (by decide)]; exact congrFun hTE j) hU t_q1 t_q12 t_q25 (by omega) (by omega) hG hS (lv_sub hl [0, 1, 2, 3, 4] rfl)
set_option maxHeartbeats 40000000 in
set_option maxRecDepth 100000 in
/-- the law's case 19 -/
theorem law_c19 {p : Program} {e : Env} {s : State} {m : MethodId} {below : List Frame} {meth : Method} {c : Code} (l : Launch) (hl9 : l.stackTraces = false) {b L : Nat} {xs : Nat → Int32} (hLN : L ≤ 3072) (hx : p.tables.exec = Jvm.exec) (hb : c.code = code) (hr : meth.sig.returnType = ret) (hml : c.maxLocals = 7) (hown : s.vm.findClass R_law = some m.cls) (hA : ∀ w ∈ AL, w.before #[Value.ref b] s = true) (hXs : va_X b L xs s s.heap) (hbl : b < s.heap.size) (hlocks : meth.locks = false) {dC : Nat → ClassId} {dI : Nat → Nat → Nat} {dA : Nat → ClassId} {sz : Nat} (hE : en dC dI dA sz s) (hsz : sz = s.heap.size) (hbA : ¬ ty_A sz b) (X : va_W) (q1 q12 q25 : Nat) (n : Nat) (ih : LJ p l e s m below meth c b dC dI dA sz X q1 q12 q25 n) (i : Int32) (Γ : ty_G) (g : gh) (kc ks : Nat) (H : Heap) (locs : List Loc) (ls : Array Slot) (hm : (3073 - i.toInt : Int) < (n + 1 : Nat)) (hi0 : 0 ≤ i.toInt ∧ i.toInt ≤ 3072) (hi1 : g 1 0 = g 33 0 ∧ 0 ≤ g 1 0 ∧ g 1 0 ≤ 6) (hi2 : g 2 0 = g 34 0 ∧ 0 ≤ g 2 0 ∧ g 2 0 ≤ 10) (hi3 : g 3 0 = g 35 0 ∧ 0 ≤ g 3 0 ∧ g 3 0 ≤ 200) (hi4 : 0 ≤ g 5 0 ∧ g 5 0 ≤ 52) (hi5 : 0 ≤ g 4 0 ∧ g 4 0 ≤ i.toInt) (hi6 : 0 ≤ g 6 0 ∧ g 6 0 ≤ 300) (hi7 : 0 ≤ g 7 0 ∧ g 7 0 ≤ g 36 0 ∧ g 36 0 ≤ 9) (hi8 : g 101 0 = g 1 0) (hi9 : g 104 0 = g 2 0) (hi10 : g 112 0 = g 5 0) (hi11 : g 111 0 = g 4 0) (hi12 : g 114 0 = g 6 0) (hi13 : 0 ≤ g 126 0 ∧ g 126 0 ≤ 200) (hi14 : 0 ≤ g 122 0 ∧ g 122 0 ≤ 30) (hi15 : g 14 0 = g 121 0) (hi16 : g 18 0 = g 118 0) (hIJ : IJ g) (hTE : pz_t g = g 19) (hU : Un Γ) (t_q1 : ty Γ q1 1) (t_q12 : ty Γ q12 30) (t_q25 : ty Γ q25 25) (hkc : kc ≤ 300 + i.toInt.toNat) (hks : ks ≤ 30000 + 28 * i.toInt.toNat) (hG : ty_ok (dC, dI) vwCl Γ (TP dA Γ g) sz X H) (hS : va_S (ty_A sz) s.heap H locs) (hl : lv_has ls 7 [(4, .int i), (3, .ref q25), (2, .ref q12), (1, .ref q1), (0, .ref b)]) (hiL : i.toInt + 6 ≤ (L : Int)) : W p l e room_1 s m #[Value.ref b] below meth c H locs kc ks (lw_Z below #[Value.ref b] s) (F0 m 871 ls []) := by
  refine lv_aload_n hx hb dL_law_871 rfl (lv_at hl 3 rfl) ?_
  refine lv_aload_n hx hb dL_law_872 rfl (lv_at hl 4 rfl) ?_
  refine lv_iload hx hb dL_law_873 (lv_at hl 0 rfl) ?_
  refine ty_iconst hx hb (1) dL_law_875 (by decide) (fun x1050 h1051 => ?_)
  refine ty_iadd hx hb dL_law_876 (fun x1052 h1053 => ?_)
  have h1054 := lw_ix (k := 1) h1051 h1053 hi0 hiL hLN (by decide)
  refine va_sld hx hb hXs hbl hbA hS (i := x1052) (ty_ix h1054.2) dL_law_877 ?_
  refine W.eq (g2 := F0 m 878 ls [.int (xs (i.toInt.toNat + 1)), .ref q1]) (by rw [lw_xs (xs := xs) h1054.1 hi0.1]) ?_
  clear h1054 h1053 h1051
  refine lv_topi (fun x1055 s1056 => ?_)
  refine lv_aload_n hx hb dL_law_878 rfl (lv_at hl 4 rfl) ?_
  refine lv_iload hx hb dL_law_879 (lv_at hl 0 rfl) ?_
  refine ty_iconst hx hb (2) dL_law_881 (by decide) (fun x1057 h1058 => ?_)
  refine ty_iadd hx hb dL_law_882 (fun x1059 h1060 => ?_)
  have h1061 := lw_ix (k := 2) h1058 h1060 hi0 hiL hLN (by decide)
  refine va_sld hx hb hXs hbl hbA hS (i := x1059) (ty_ix h1061.2) dL_law_883 ?_
  refine W.eq (g2 := F0 m 884 ls [.int (xs (i.toInt.toNat + 2)), .int x1055, .ref q1]) (by rw [lw_xs (xs := xs) h1061.1 hi0.1]) ?_
  clear h1061 h1060 h1058
  refine lv_topi (fun x1062 s1063 => ?_)
  refine cI (va_runV (C := RX8) (As := [.int x1055, .int x1062]) (rest := []) ⟨hx, hb, hml, hown, hA⟩ (k_X8_fees l dC dI dA sz X Γ hU g q1 t_q1 x1055 x1062   (by first | with_reducible assumption | omega)) ⟨callB_of 2 hA (al_A wd_4_4) rfl rfl rfl (hA _ wd_1_1) (hA _ wd_4_1) (by decide +kernel) ⟨Nat.le_of_ble_eq_true rfl, Nat.le_of_ble_eq_true rfl⟩, hA _ wd_4_2, hA _ wd_4_3⟩ ⟨bl, recv_X8 hE hG t_q1, fun U hU9 hW9 => ⟨rfl, by rw [hU9]; exact hG, hE.go hS hU9 hW9⟩⟩ rfl rfl hl.1 rfl (lv_room (Nat.le_of_ble_eq_true rfl)) dL_law_884 ⟨(Nat.le_trans (show kc + 0 ≤ 300000 by omega) (Nat.le_of_ble_eq_true rfl)), (Nat.le_trans (show ks + 0 ≤ 300000 by omega) (Nat.le_of_ble_eq_true rfl))⟩) hS (fun x1066 u1064 H locs w1065 hG hS => ?_)
  have hf1067 := w1065
  have hj1068 : IJ u1064 := IJ_cg (hf1067 126 0 (by decide) (by decide) (by decide)) (fun j => hf1067 132 j (by decide) (by decide) (by decide)) (fun j => hf1067 134 j (by decide) (by decide) (by decide)) (by (repeat (first | with_reducible assumption | (refine IJ_c (by decide) (by decide) (by decide) ?_) | (refine IJ_take (by omega) (by omega) ?_) | (refine IJ_how (by omega) ?_) | (refine IJ_by (by omega) ?_))))
  refine lv_pop hx hb dL_law_887 rfl ?_
  refine lv_aload_n hx hb dL_law_888 rfl (lv_at hl 2 rfl) ?_
  refine lv_aload_n hx hb dL_law_889 rfl (lv_at hl 4 rfl) ?_
  refine lv_iload hx hb dL_law_890 (lv_at hl 0 rfl) ?_
  refine ty_iconst hx hb (1) dL_law_892 (by decide) (fun x1069 h1070 => ?_)
  refine ty_iadd hx hb dL_law_893 (fun x1071 h1072 => ?_)
  have h1073 := lw_ix (k := 1) h1070 h1072 hi0 hiL hLN (by decide)
  refine va_sld hx hb hXs hbl hbA hS (i := x1071) (ty_ix h1073.2) dL_law_894 ?_
  refine W.eq (g2 := F0 m 895 ls [.int (xs (i.toInt.toNat + 1)), .ref q12]) (by rw [lw_xs (xs := xs) h1073.1 hi0.1]) ?_
  clear h1073 h1072 h1070
  refine W.eq (g2 := F0 m 895 ls [.int x1055, .ref q12]) (by rw [s1056]) ?_
  refine lv_aload_n hx hb dL_law_895 rfl (lv_at hl 4 rfl) ?_
  refine lv_iload hx hb dL_law_896 (lv_at hl 0 rfl) ?_
  refine ty_iconst hx hb (2) dL_law_898 (by decide) (fun x1074 h1075 => ?_)
  refine ty_iadd hx hb dL_law_899 (fun x1076 h1077 => ?_)
  have h1078 := lw_ix (k := 2) h1075 h1077 hi0 hiL hLN (by decide)
  refine va_sld hx hb hXs hbl hbA hS (i := x1076) (ty_ix h1078.2) dL_law_900 ?_
  refine W.eq (g2 := F0 m 901 ls [.int (xs (i.toInt.toNat + 2)), .int x1055, .ref q12]) (by rw [lw_xs (xs := xs) h1078.1 hi0.1]) ?_
  clear h1078 h1077 h1075
  refine W.eq (g2 := F0 m 901 ls [.int x1062, .int x1055, .ref q12]) (by rw [s1063]) ?_
  have hk1079 : u1064 104 0 = g 104 0 := hf1067 104 0 (by decide) (by decide) (by decide)
  refine cI (va_runV (C := RX9) (As := [.int x1055, .int x1062]) (rest := []) ⟨hx, hb, hml, hown, hA⟩ (k_X9_fees l dC dI dA sz X Γ hU u1064 q12 t_q12 x1055 x1062   (by first | with_reducible assumption | omega)) ⟨callB_of 2 hA (al_A wd_5_213) rfl rfl rfl (hA _ wd_1_7) (hA _ wd_5_210) (by decide +kernel) ⟨Nat.le_of_ble_eq_true rfl, Nat.le_of_ble_eq_true rfl⟩, hA _ wd_5_211, hA _ wd_5_212⟩ ⟨bl, recv_X9 hE hG t_q12, fun U hU9 hW9 => ⟨rfl, by rw [hU9]; exact hG, hE.go hS hU9 hW9⟩⟩ rfl rfl hl.1 rfl (lv_room (Nat.le_of_ble_eq_true rfl)) dL_law_901 ⟨(Nat.le_trans (show kc + 0 ≤ 300000 by omega) (Nat.le_of_ble_eq_true rfl)), (Nat.le_trans (show ks + 0 ≤ 300000 by omega) (Nat.le_of_ble_eq_true rfl))⟩) hS (fun x1082 u1080 H locs w1081 hG hS => ?_)
  have hf1083 := w1081
  have hj1084 : IJ u1080 := IJ_cg (hf1083 126 0 (by decide) (by decide)) (fun j => hf1083 132 j (by decide) (by decide)) (fun j => hf1083 134 j (by decide) (by decide)) (by (repeat (first | with_reducible assumption | (refine IJ_c (by decide) (by decide) (by decide) ?_) | (refine IJ_take (by omega) (by omega) ?_) | (refine IJ_how (by omega) ?_) | (refine IJ_by (by omega) ?_))))
  refine lv_pop hx hb dL_law_904 rfl ?_
  refine lv_goto (tgt := 1047) hx hb dL_law_905 (by decide) ?_
  obtain ⟨x1085, h1086⟩ : ∃ y : Int32, y = i + Int32.ofInt (6) := ⟨_, rfl⟩
  try have h1087 : x1085.toInt = i.toInt + (6) := ty_inc h1086 (by decide) (by omega) (by omega)
  refine lv_iinc (v := x1085) (lv' := [(4, .int x1085), (3, .ref q25), (2, .ref q12), (1, .ref q1), (0, .ref b)]) hx hb dL_law_1047 hl (k := 0) rfl h1086.symm (by decide) rfl (fun ls hl => ?_)
  refine lv_goto (tgt := 23) hx hb dL_law_1050 (by decide) ?_
  have hk1088 : u1080 4 0 = u1064 4 0 := hf1083 4 0 (by decide) (by decide)
  have hk1089 : u1064 4 0 = g 4 0 := hf1067 4 0 (by decide) (by decide) (by decide)
  exact ih x1085 Γ u1080 (kc) (ks) _ _ ls (by omega) (by omega) (by rw [hf1083 1 0 (by decide) (by decide), hf1067 1 0 (by decide) (by decide) (by decide), hf1083 33 0 (by decide) (by decide), hf1067 33 0 (by decide) (by decide) (by decide)]; exact hi1) (by rw [hf1083 2 0 (by decide) (by decide), hf1067 2 0 (by decide) (by decide) (by decide), hf1083 34 0 (by decide) (by decide), hf1067 34 0 (by decide) (by decide) (by decide)]; exact hi2) (by rw [hf1083 3 0 (by decide) (by decide), hf1067 3 0 (by decide) (by decide) (by decide), hf1083 35 0 (by decide) (by decide), hf1067 35 0 (by decide) (by decide) (by decide)]; exact hi3) (by rw [hf1083 5 0 (by decide) (by decide), hf1067 5 0 (by decide) (by decide) (by decide)]; exact hi4) (by omega) (by rw [hf1083 6 0 (by decide) (by decide), hf1067 6 0 (by decide) (by decide) (by decide)]; exact hi6) (by rw [hf1083 7 0 (by decide) (by decide), hf1067 7 0 (by decide) (by decide) (by decide), hf1083 36 0 (by decide) (by decide), hf1067 36 0 (by decide) (by decide) (by decide)]; exact hi7) (by rw [hf1083 101 0 (by decide) (by decide), hf1067 101 0 (by decide) (by decide) (by decide), hf1083 1 0 (by decide) (by decide), hf1067 1 0 (by decide) (by decide) (by decide)]; exact hi8) (by rw [hf1083 104 0 (by decide) (by decide), hf1067 104 0 (by decide) (by decide) (by decide), hf1083 2 0 (by decide) (by decide), hf1067 2 0 (by decide) (by decide) (by decide)]; exact hi9) (by rw [hf1083 112 0 (by decide) (by decide), hf1067 112 0 (by decide) (by decide) (by decide), hf1083 5 0 (by decide) (by decide), hf1067 5 0 (by decide) (by decide) (by decide)]; exact hi10) (by rw [hf1083 111 0 (by decide) (by decide), hf1067 111 0 (by decide) (by decide) (by decide), hf1083 4 0 (by decide) (by decide), hf1067 4 0 (by decide) (by decide) (by decide)]; exact hi11) (by rw [hf1083 114 0 (by decide) (by decide), hf1067 114 0 (by decide) (by decide) (by decide), hf1083 6 0 (by decide) (by decide), hf1067 6 0 (by decide) (by decide) (by decide)]; exact hi12) (by rw [hf1083 126 0 (by decide) (by decide), hf1067 126 0 (by decide) (by decide) (by decide)]; exact hi13) (by rw [hf1083 122 0 (by decide) (by decide), hf1067 122 0 (by decide) (by decide) (by decide)]; exact hi14) (by rw [hf1083 14 0 (by decide) (by decide), hf1067 14 0 (by decide) (by decide) (by decide), hf1083 121 0 (by decide) (by decide), hf1067 121 0 (by decide) (by decide) (by decide)]; exact hi15) (by rw [hf1083 18 0 (by decide) (by decide), hf1067 18 0 (by decide) (by decide) (by decide), hf1083 118 0 (by decide) (by decide), hf1067 118 0 (by decide) (by decide) (by decide)]; exact hi16) (by (repeat (first | with_reducible assumption | (refine IJ_c (by decide) (by decide) (by decide) ?_) | (refine IJ_take (by omega) (by omega) ?_) | (refine IJ_how (by omega) ?_) | (refine IJ_by (by omega) ?_)))) (funext fun j => by show u1080 113 j % 256 = u1080 19 j; rw [hf1083 113 j (by decide) (by decide), hf1067 113 j (by decide) (by decide) (by decide), hf1083 19 j (by decide) (by decide), hf1067 19 j (by decide) (by decide) (by decide)]; exact congrFun hTE j) hU t_q1 t_q12 t_q25 (by omega) (by omega) hG hS (lv_sub hl [0, 1, 2, 3, 4] rfl)
set_option maxHeartbeats 40000000 in
set_option maxRecDepth 100000 in
/-- the law's case 20 -/
theorem law_c20 {p : Program} {e : Env} {s : State} {m : MethodId} {below : List Frame} {meth : Method} {c : Code} (l : Launch) (hl9 : l.stackTraces = false) {b L : Nat} {xs : Nat → Int32} (hLN : L ≤ 3072) (hx : p.tables.exec = Jvm.exec) (hb : c.code = code) (hr : meth.sig.returnType = ret) (hml : c.maxLocals = 7) (hown : s.vm.findClass R_law = some m.cls) (hA : ∀ w ∈ AL, w.before #[Value.ref b] s = true) (hXs : va_X b L xs s s.heap) (hbl : b < s.heap.size) (hlocks : meth.locks = false) {dC : Nat → ClassId} {dI : Nat → Nat → Nat} {dA : Nat → ClassId} {sz : Nat} (hE : en dC dI dA sz s) (hsz : sz = s.heap.size) (hbA : ¬ ty_A sz b) (X : va_W) (q1 q12 q25 : Nat) (n : Nat) (ih : LJ p l e s m below meth c b dC dI dA sz X q1 q12 q25 n) (i : Int32) (Γ : ty_G) (g : gh) (kc ks : Nat) (H : Heap) (locs : List Loc) (ls : Array Slot) (hm : (3073 - i.toInt : Int) < (n + 1 : Nat)) (hi0 : 0 ≤ i.toInt ∧ i.toInt ≤ 3072) (hi1 : g 1 0 = g 33 0 ∧ 0 ≤ g 1 0 ∧ g 1 0 ≤ 6) (hi2 : g 2 0 = g 34 0 ∧ 0 ≤ g 2 0 ∧ g 2 0 ≤ 10) (hi3 : g 3 0 = g 35 0 ∧ 0 ≤ g 3 0 ∧ g 3 0 ≤ 200) (hi4 : 0 ≤ g 5 0 ∧ g 5 0 ≤ 52) (hi5 : 0 ≤ g 4 0 ∧ g 4 0 ≤ i.toInt) (hi6 : 0 ≤ g 6 0 ∧ g 6 0 ≤ 300) (hi7 : 0 ≤ g 7 0 ∧ g 7 0 ≤ g 36 0 ∧ g 36 0 ≤ 9) (hi8 : g 101 0 = g 1 0) (hi9 : g 104 0 = g 2 0) (hi10 : g 112 0 = g 5 0) (hi11 : g 111 0 = g 4 0) (hi12 : g 114 0 = g 6 0) (hi13 : 0 ≤ g 126 0 ∧ g 126 0 ≤ 200) (hi14 : 0 ≤ g 122 0 ∧ g 122 0 ≤ 30) (hi15 : g 14 0 = g 121 0) (hi16 : g 18 0 = g 118 0) (hIJ : IJ g) (hTE : pz_t g = g 19) (hU : Un Γ) (t_q1 : ty Γ q1 1) (t_q12 : ty Γ q12 30) (t_q25 : ty Γ q25 25) (hkc : kc ≤ 300 + i.toInt.toNat) (hks : ks ≤ 30000 + 28 * i.toInt.toNat) (hG : ty_ok (dC, dI) vwCl Γ (TP dA Γ g) sz X H) (hS : va_S (ty_A sz) s.heap H locs) (hl : lv_has ls 7 [(4, .int i), (3, .ref q25), (2, .ref q12), (1, .ref q1), (0, .ref b)]) (hiL : i.toInt + 6 ≤ (L : Int)) : W p l e room_1 s m #[Value.ref b] below meth c H locs kc ks (lw_Z below #[Value.ref b] s) (F0 m 908 ls []) := by
  refine lv_aload_n hx hb dL_law_908 rfl (lv_at hl 3 rfl) ?_
  refine lv_aload_n hx hb dL_law_909 rfl (lv_at hl 4 rfl) ?_
  refine lv_iload hx hb dL_law_910 (lv_at hl 0 rfl) ?_
  refine ty_iconst hx hb (1) dL_law_912 (by decide) (fun x1090 h1091 => ?_)
  refine ty_iadd hx hb dL_law_913 (fun x1092 h1093 => ?_)
  have h1094 := lw_ix (k := 1) h1091 h1093 hi0 hiL hLN (by decide)
  refine va_sld hx hb hXs hbl hbA hS (i := x1092) (ty_ix h1094.2) dL_law_914 ?_
  refine W.eq (g2 := F0 m 915 ls [.int (xs (i.toInt.toNat + 1)), .ref q1]) (by rw [lw_xs (xs := xs) h1094.1 hi0.1]) ?_
  clear h1094 h1093 h1091
  refine lv_topi (fun x1095 s1096 => ?_)
  refine lv_aload_n hx hb dL_law_915 rfl (lv_at hl 4 rfl) ?_
  refine lv_iload hx hb dL_law_916 (lv_at hl 0 rfl) ?_
  refine ty_iconst hx hb (2) dL_law_918 (by decide) (fun x1097 h1098 => ?_)
  refine ty_iadd hx hb dL_law_919 (fun x1099 h1100 => ?_)
  have h1101 := lw_ix (k := 2) h1098 h1100 hi0 hiL hLN (by decide)
  refine va_sld hx hb hXs hbl hbA hS (i := x1099) (ty_ix h1101.2) dL_law_920 ?_
  refine W.eq (g2 := F0 m 921 ls [.int (xs (i.toInt.toNat + 2)), .int x1095, .ref q1]) (by rw [lw_xs (xs := xs) h1101.1 hi0.1]) ?_
  clear h1101 h1100 h1098
  refine lv_topi (fun x1102 s1103 => ?_)
  refine cI (va_runV (C := RX8) (As := [.int x1095, .int x1102]) (rest := []) ⟨hx, hb, hml, hown, hA⟩ (k_X8_party l dC dI dA sz X Γ hU g q1 t_q1 x1095 x1102   (by first | with_reducible assumption | omega)) ⟨callB_of 2 hA (al_A wd_4_33) rfl rfl rfl (hA _ wd_1_1) (hA _ wd_4_30) (by decide +kernel) ⟨Nat.le_of_ble_eq_true rfl, Nat.le_of_ble_eq_true rfl⟩, hA _ wd_4_31, hA _ wd_4_32⟩ ⟨bl, recv_X8 hE hG t_q1, fun U hU9 hW9 => ⟨rfl, by rw [hU9]; exact hG, hE.go hS hU9 hW9⟩⟩ rfl rfl hl.1 rfl (lv_room (Nat.le_of_ble_eq_true rfl)) dL_law_921 ⟨(Nat.le_trans (show kc + 0 ≤ 300000 by omega) (Nat.le_of_ble_eq_true rfl)), (Nat.le_trans (show ks + 0 ≤ 300000 by omega) (Nat.le_of_ble_eq_true rfl))⟩) hS (fun x1106 u1104 H locs w1105 hG hS => ?_)
  have eu1107 := w1105
  rw [eu1107] at hG
  refine lv_pop hx hb dL_law_924 rfl ?_
  refine lv_aload_n hx hb dL_law_925 rfl (lv_at hl 2 rfl) ?_
  refine lv_aload_n hx hb dL_law_926 rfl (lv_at hl 4 rfl) ?_
  refine lv_iload hx hb dL_law_927 (lv_at hl 0 rfl) ?_
  refine ty_iconst hx hb (1) dL_law_929 (by decide) (fun x1108 h1109 => ?_)
  refine ty_iadd hx hb dL_law_930 (fun x1110 h1111 => ?_)
  have h1112 := lw_ix (k := 1) h1109 h1111 hi0 hiL hLN (by decide)
  refine va_sld hx hb hXs hbl hbA hS (i := x1110) (ty_ix h1112.2) dL_law_931 ?_
  refine W.eq (g2 := F0 m 932 ls [.int (xs (i.toInt.toNat + 1)), .ref q12]) (by rw [lw_xs (xs := xs) h1112.1 hi0.1]) ?_
  clear h1112 h1111 h1109
  refine W.eq (g2 := F0 m 932 ls [.int x1095, .ref q12]) (by rw [s1096]) ?_
  refine lv_aload_n hx hb dL_law_932 rfl (lv_at hl 4 rfl) ?_
  refine lv_iload hx hb dL_law_933 (lv_at hl 0 rfl) ?_
  refine ty_iconst hx hb (2) dL_law_935 (by decide) (fun x1113 h1114 => ?_)
  refine ty_iadd hx hb dL_law_936 (fun x1115 h1116 => ?_)
  have h1117 := lw_ix (k := 2) h1114 h1116 hi0 hiL hLN (by decide)
  refine va_sld hx hb hXs hbl hbA hS (i := x1115) (ty_ix h1117.2) dL_law_937 ?_
  refine W.eq (g2 := F0 m 938 ls [.int (xs (i.toInt.toNat + 2)), .int x1095, .ref q12]) (by rw [lw_xs (xs := xs) h1117.1 hi0.1]) ?_
  clear h1117 h1116 h1114
  refine W.eq (g2 := F0 m 938 ls [.int x1102, .int x1095, .ref q12]) (by rw [s1103]) ?_
  refine cI (va_runV (C := RX9) (As := [.int x1095, .int x1102]) (rest := []) ⟨hx, hb, hml, hown, hA⟩ (k_X9_party l dC dI dA sz X Γ hU g q12 t_q12 x1095 x1102   (by first | with_reducible assumption | omega) (by first | with_reducible assumption | omega)) ⟨callB_of 2 hA (al_A wd_5_226) rfl rfl rfl (hA _ wd_1_7) (hA _ wd_5_223) (by decide +kernel) ⟨Nat.le_of_ble_eq_true rfl, Nat.le_of_ble_eq_true rfl⟩, hA _ wd_5_224, hA _ wd_5_225⟩ ⟨bl, recv_X9 hE hG t_q12, fun U hU9 hW9 => ⟨rfl, by rw [hU9]; exact hG, hE.go hS hU9 hW9⟩⟩ rfl rfl hl.1 rfl (lv_room (Nat.le_of_ble_eq_true rfl)) dL_law_938 ⟨(Nat.le_trans (show kc + 0 ≤ 300000 by omega) (Nat.le_of_ble_eq_true rfl)), (Nat.le_trans (show ks + 0 ≤ 300000 by omega) (Nat.le_of_ble_eq_true rfl))⟩) hS (fun x1120 u1118 H locs w1119 hG hS => ?_)
  have hf1121 := w1119
  have hj1122 : IJ u1118 := IJ_cg (hf1121 126 0 (by decide)) (fun j => hf1121 132 j (by decide)) (fun j => hf1121 134 j (by decide)) (by (repeat (first | with_reducible assumption | (refine IJ_c (by decide) (by decide) (by decide) ?_) | (refine IJ_take (by omega) (by omega) ?_) | (refine IJ_how (by omega) ?_) | (refine IJ_by (by omega) ?_))))
  refine lv_pop hx hb dL_law_941 rfl ?_
  refine lv_goto (tgt := 1047) hx hb dL_law_942 (by decide) ?_
  obtain ⟨x1123, h1124⟩ : ∃ y : Int32, y = i + Int32.ofInt (6) := ⟨_, rfl⟩
  try have h1125 : x1123.toInt = i.toInt + (6) := ty_inc h1124 (by decide) (by omega) (by omega)
  refine lv_iinc (v := x1123) (lv' := [(4, .int x1123), (3, .ref q25), (2, .ref q12), (1, .ref q1), (0, .ref b)]) hx hb dL_law_1047 hl (k := 0) rfl h1124.symm (by decide) rfl (fun ls hl => ?_)
  refine lv_goto (tgt := 23) hx hb dL_law_1050 (by decide) ?_
  have hk1126 : u1118 4 0 = g 4 0 := hf1121 4 0 (by decide)
  exact ih x1123 Γ u1118 (kc) (ks) _ _ ls (by omega) (by omega) (by rw [hf1121 1 0 (by decide), hf1121 33 0 (by decide)]; exact hi1) (by rw [hf1121 2 0 (by decide), hf1121 34 0 (by decide)]; exact hi2) (by rw [hf1121 3 0 (by decide), hf1121 35 0 (by decide)]; exact hi3) (by rw [hf1121 5 0 (by decide)]; exact hi4) (by omega) (by rw [hf1121 6 0 (by decide)]; exact hi6) (by rw [hf1121 7 0 (by decide), hf1121 36 0 (by decide)]; exact hi7) (by rw [hf1121 101 0 (by decide), hf1121 1 0 (by decide)]; exact hi8) (by rw [hf1121 104 0 (by decide), hf1121 2 0 (by decide)]; exact hi9) (by rw [hf1121 112 0 (by decide), hf1121 5 0 (by decide)]; exact hi10) (by rw [hf1121 111 0 (by decide), hf1121 4 0 (by decide)]; exact hi11) (by rw [hf1121 114 0 (by decide), hf1121 6 0 (by decide)]; exact hi12) (by rw [hf1121 126 0 (by decide)]; exact hi13) (by rw [hf1121 122 0 (by decide)]; exact hi14) (by rw [hf1121 14 0 (by decide), hf1121 121 0 (by decide)]; exact hi15) (by rw [hf1121 18 0 (by decide), hf1121 118 0 (by decide)]; exact hi16) (by (repeat (first | with_reducible assumption | (refine IJ_c (by decide) (by decide) (by decide) ?_) | (refine IJ_take (by omega) (by omega) ?_) | (refine IJ_how (by omega) ?_) | (refine IJ_by (by omega) ?_)))) (funext fun j => by show u1118 113 j % 256 = u1118 19 j; rw [hf1121 113 j (by decide), hf1121 19 j (by decide)]; exact congrFun hTE j) hU t_q1 t_q12 t_q25 (by omega) (by omega) hG hS (lv_sub hl [0, 1, 2, 3, 4] rfl)
set_option maxHeartbeats 40000000 in
set_option maxRecDepth 100000 in
/-- the law's case 21 -/
theorem law_c21 {p : Program} {e : Env} {s : State} {m : MethodId} {below : List Frame} {meth : Method} {c : Code} (l : Launch) (hl9 : l.stackTraces = false) {b L : Nat} {xs : Nat → Int32} (hLN : L ≤ 3072) (hx : p.tables.exec = Jvm.exec) (hb : c.code = code) (hr : meth.sig.returnType = ret) (hml : c.maxLocals = 7) (hown : s.vm.findClass R_law = some m.cls) (hA : ∀ w ∈ AL, w.before #[Value.ref b] s = true) (hXs : va_X b L xs s s.heap) (hbl : b < s.heap.size) (hlocks : meth.locks = false) {dC : Nat → ClassId} {dI : Nat → Nat → Nat} {dA : Nat → ClassId} {sz : Nat} (hE : en dC dI dA sz s) (hsz : sz = s.heap.size) (hbA : ¬ ty_A sz b) (X : va_W) (q1 q12 q25 : Nat) (n : Nat) (ih : LJ p l e s m below meth c b dC dI dA sz X q1 q12 q25 n) (i : Int32) (Γ : ty_G) (g : gh) (kc ks : Nat) (H : Heap) (locs : List Loc) (ls : Array Slot) (hm : (3073 - i.toInt : Int) < (n + 1 : Nat)) (hi0 : 0 ≤ i.toInt ∧ i.toInt ≤ 3072) (hi1 : g 1 0 = g 33 0 ∧ 0 ≤ g 1 0 ∧ g 1 0 ≤ 6) (hi2 : g 2 0 = g 34 0 ∧ 0 ≤ g 2 0 ∧ g 2 0 ≤ 10) (hi3 : g 3 0 = g 35 0 ∧ 0 ≤ g 3 0 ∧ g 3 0 ≤ 200) (hi4 : 0 ≤ g 5 0 ∧ g 5 0 ≤ 52) (hi5 : 0 ≤ g 4 0 ∧ g 4 0 ≤ i.toInt) (hi6 : 0 ≤ g 6 0 ∧ g 6 0 ≤ 300) (hi7 : 0 ≤ g 7 0 ∧ g 7 0 ≤ g 36 0 ∧ g 36 0 ≤ 9) (hi8 : g 101 0 = g 1 0) (hi9 : g 104 0 = g 2 0) (hi10 : g 112 0 = g 5 0) (hi11 : g 111 0 = g 4 0) (hi12 : g 114 0 = g 6 0) (hi13 : 0 ≤ g 126 0 ∧ g 126 0 ≤ 200) (hi14 : 0 ≤ g 122 0 ∧ g 122 0 ≤ 30) (hi15 : g 14 0 = g 121 0) (hi16 : g 18 0 = g 118 0) (hIJ : IJ g) (hTE : pz_t g = g 19) (hU : Un Γ) (t_q1 : ty Γ q1 1) (t_q12 : ty Γ q12 30) (t_q25 : ty Γ q25 25) (hkc : kc ≤ 300 + i.toInt.toNat) (hks : ks ≤ 30000 + 28 * i.toInt.toNat) (hG : ty_ok (dC, dI) vwCl Γ (TP dA Γ g) sz X H) (hS : va_S (ty_A sz) s.heap H locs) (hl : lv_has ls 7 [(4, .int i), (3, .ref q25), (2, .ref q12), (1, .ref q1), (0, .ref b)]) (hiL : i.toInt + 6 ≤ (L : Int)) : W p l e room_1 s m #[Value.ref b] below meth c H locs kc ks (lw_Z below #[Value.ref b] s) (F0 m 945 ls []) := by
  refine lv_aload_n hx hb dL_law_945 rfl (lv_at hl 3 rfl) ?_
  refine lv_aload_n hx hb dL_law_946 rfl (lv_at hl 4 rfl) ?_
  refine lv_iload hx hb dL_law_947 (lv_at hl 0 rfl) ?_
  refine ty_iconst hx hb (1) dL_law_949 (by decide) (fun x1127 h1128 => ?_)
  refine ty_iadd hx hb dL_law_950 (fun x1129 h1130 => ?_)
  have h1131 := lw_ix (k := 1) h1128 h1130 hi0 hiL hLN (by decide)
  refine va_sld hx hb hXs hbl hbA hS (i := x1129) (ty_ix h1131.2) dL_law_951 ?_
  refine W.eq (g2 := F0 m 952 ls [.int (xs (i.toInt.toNat + 1)), .ref q1]) (by rw [lw_xs (xs := xs) h1131.1 hi0.1]) ?_
  clear h1131 h1130 h1128
  refine lv_topi (fun x1132 s1133 => ?_)
  refine lv_aload_n hx hb dL_law_952 rfl (lv_at hl 4 rfl) ?_
  refine lv_iload hx hb dL_law_953 (lv_at hl 0 rfl) ?_
  refine ty_iconst hx hb (2) dL_law_955 (by decide) (fun x1134 h1135 => ?_)
  refine ty_iadd hx hb dL_law_956 (fun x1136 h1137 => ?_)
  have h1138 := lw_ix (k := 2) h1135 h1137 hi0 hiL hLN (by decide)
  refine va_sld hx hb hXs hbl hbA hS (i := x1136) (ty_ix h1138.2) dL_law_957 ?_
  refine W.eq (g2 := F0 m 958 ls [.int (xs (i.toInt.toNat + 2)), .int x1132, .ref q1]) (by rw [lw_xs (xs := xs) h1138.1 hi0.1]) ?_
  clear h1138 h1137 h1135
  refine lv_topi (fun x1139 s1140 => ?_)
  refine lv_aload_n hx hb dL_law_958 rfl (lv_at hl 1 rfl) ?_
  refine vx_calli (vx_runSX (As := [.ref q1, .int x1132, .int x1139, .ref q25]) (rest := []) ⟨hx, hb, hml, hown, hA⟩ (k_L_of l hl9 dC dI dA sz X Γ hU g q1 t_q1 x1132 x1139 q25 t_q25 (by omega)) (vx_cwSW 4 hA (al_s4 (al wt_4_52 rfl) wd_4_50 wd_4_51 wd_1_0) rfl rfl rfl (by decide +kernel) ⟨Nat.le_of_ble_eq_true rfl, Nat.le_of_ble_eq_true rfl⟩) ⟨bl, fun U hU9 hW9 => ⟨rfl, by rw [hU9]; exact hG, hE.go hS hU9 hW9⟩⟩ rfl rfl hl.1 rfl (lv_room (Nat.le_of_ble_eq_true rfl)) dL_law_959 ⟨(Nat.le_trans (show kc + 1 ≤ 300000 by omega) (Nat.le_of_ble_eq_true rfl)), (Nat.le_trans (show ks + 6 ≤ 300000 by omega) (Nat.le_of_ble_eq_true rfl))⟩) hS (fun _ _ h => h) (fun _ h => h) (fun _ _ h => h) (fun E ce q9 u t H1 locs1 ht _ hp hB _ _ hS hce hcv hcl => hp.elim) (fun x1141 u1142 t9 H locs ht9 _ w1143 hB _ _ hS => ?_)
  have hG : ty_ok (dC, dI) vwCl Γ (TP dA Γ u1142) sz X H := by rw [← ht9]; exact hB
  rw [show u1142 = g from w1143] at hG
  clear hB
  refine lv_istore (lv' := [(5, .int x1141), (4, .int i), (3, .ref q25), (2, .ref q12), (1, .ref q1), (0, .ref b)]) hx hb dL_law_962 hl (by decide) rfl (fun ls hl => ?_)
  refine lv_aload_n hx hb dL_law_964 rfl (lv_at hl 3 rfl) ?_
  refine lv_aload_n hx hb dL_law_965 rfl (lv_at hl 5 rfl) ?_
  refine lv_iload hx hb dL_law_966 (lv_at hl 1 rfl) ?_
  refine ty_iconst hx hb (1) dL_law_968 (by decide) (fun x1144 h1145 => ?_)
  refine ty_iadd hx hb dL_law_969 (fun x1146 h1147 => ?_)
  have h1148 := lw_ix (k := 1) h1145 h1147 hi0 hiL hLN (by decide)
  refine va_sld hx hb hXs hbl hbA hS (i := x1146) (ty_ix h1148.2) dL_law_970 ?_
  refine W.eq (g2 := F0 m 971 ls [.int (xs (i.toInt.toNat + 1)), .ref q12]) (by rw [lw_xs (xs := xs) h1148.1 hi0.1]) ?_
  clear h1148 h1147 h1145
  refine W.eq (g2 := F0 m 971 ls [.int x1132, .ref q12]) (by rw [s1133]) ?_
  refine lv_aload_n hx hb dL_law_971 rfl (lv_at hl 5 rfl) ?_
  refine lv_iload hx hb dL_law_972 (lv_at hl 1 rfl) ?_
  refine ty_iconst hx hb (2) dL_law_974 (by decide) (fun x1149 h1150 => ?_)
  refine ty_iadd hx hb dL_law_975 (fun x1151 h1152 => ?_)
  have h1153 := lw_ix (k := 2) h1150 h1152 hi0 hiL hLN (by decide)
  refine va_sld hx hb hXs hbl hbA hS (i := x1151) (ty_ix h1153.2) dL_law_976 ?_
  refine W.eq (g2 := F0 m 977 ls [.int (xs (i.toInt.toNat + 2)), .int x1132, .ref q12]) (by rw [lw_xs (xs := xs) h1153.1 hi0.1]) ?_
  clear h1153 h1152 h1150
  refine W.eq (g2 := F0 m 977 ls [.int x1139, .int x1132, .ref q12]) (by rw [s1140]) ?_
  refine cI (va_runV (C := RX9) (As := [.int x1132, .int x1139]) (rest := []) ⟨hx, hb, hml, hown, hA⟩ (k_X9_of l dC dI dA sz X Γ hU g q12 t_q12 x1132 x1139   (by first | with_reducible assumption | omega)) ⟨callB_of 2 hA (al_A wd_5_230) rfl rfl rfl (hA _ wd_1_7) (hA _ wd_5_227) (by decide +kernel) ⟨Nat.le_of_ble_eq_true rfl, Nat.le_of_ble_eq_true rfl⟩, hA _ wd_5_228, hA _ wd_5_229⟩ ⟨bl, recv_X9 hE hG t_q12, fun U hU9 hW9 => ⟨rfl, by rw [hU9]; exact hG, hE.go hS hU9 hW9⟩⟩ rfl rfl hl.1 rfl (lv_room (Nat.le_of_ble_eq_true rfl)) dL_law_977 ⟨(Nat.le_trans (show (kc + 1) + 0 ≤ 300000 by omega) (Nat.le_of_ble_eq_true rfl)), (Nat.le_trans (show (ks + 6) + 0 ≤ 300000 by omega) (Nat.le_of_ble_eq_true rfl))⟩) hS (fun x1156 u1154 H locs w1155 hG hS => ?_)
  have hf1157 := w1155
  have hj1158 : IJ u1154 := IJ_cg (hf1157 126 0 (by decide)) (fun j => hf1157 132 j (by decide)) (fun j => hf1157 134 j (by decide)) (by (repeat (first | with_reducible assumption | (refine IJ_c (by decide) (by decide) (by decide) ?_) | (refine IJ_take (by omega) (by omega) ?_) | (refine IJ_how (by omega) ?_) | (refine IJ_by (by omega) ?_))))
  refine lv_istore (lv' := [(6, .int x1156), (5, .int x1141), (4, .int i), (3, .ref q25), (2, .ref q12), (1, .ref q1), (0, .ref b)]) hx hb dL_law_980 hl (by decide) rfl (fun ls hl => ?_)
  refine lv_goto (tgt := 1047) hx hb dL_law_982 (by decide) ?_
  obtain ⟨x1159, h1160⟩ : ∃ y : Int32, y = i + Int32.ofInt (6) := ⟨_, rfl⟩
  try have h1161 : x1159.toInt = i.toInt + (6) := ty_inc h1160 (by decide) (by omega) (by omega)
  refine lv_iinc (v := x1159) (lv' := [(4, .int x1159), (6, .int x1156), (5, .int x1141), (3, .ref q25), (2, .ref q12), (1, .ref q1), (0, .ref b)]) hx hb dL_law_1047 hl (k := 2) rfl h1160.symm (by decide) rfl (fun ls hl => ?_)
  refine lv_goto (tgt := 23) hx hb dL_law_1050 (by decide) ?_
  have hk1162 : u1154 4 0 = g 4 0 := hf1157 4 0 (by decide)
  exact ih x1159 Γ u1154 ((kc + 1)) ((ks + 6)) _ _ ls (by omega) (by omega) (by rw [hf1157 1 0 (by decide), hf1157 33 0 (by decide)]; exact hi1) (by rw [hf1157 2 0 (by decide), hf1157 34 0 (by decide)]; exact hi2) (by rw [hf1157 3 0 (by decide), hf1157 35 0 (by decide)]; exact hi3) (by rw [hf1157 5 0 (by decide)]; exact hi4) (by omega) (by rw [hf1157 6 0 (by decide)]; exact hi6) (by rw [hf1157 7 0 (by decide), hf1157 36 0 (by decide)]; exact hi7) (by rw [hf1157 101 0 (by decide), hf1157 1 0 (by decide)]; exact hi8) (by rw [hf1157 104 0 (by decide), hf1157 2 0 (by decide)]; exact hi9) (by rw [hf1157 112 0 (by decide), hf1157 5 0 (by decide)]; exact hi10) (by rw [hf1157 111 0 (by decide), hf1157 4 0 (by decide)]; exact hi11) (by rw [hf1157 114 0 (by decide), hf1157 6 0 (by decide)]; exact hi12) (by rw [hf1157 126 0 (by decide)]; exact hi13) (by rw [hf1157 122 0 (by decide)]; exact hi14) (by rw [hf1157 14 0 (by decide), hf1157 121 0 (by decide)]; exact hi15) (by rw [hf1157 18 0 (by decide), hf1157 118 0 (by decide)]; exact hi16) (by (repeat (first | with_reducible assumption | (refine IJ_c (by decide) (by decide) (by decide) ?_) | (refine IJ_take (by omega) (by omega) ?_) | (refine IJ_how (by omega) ?_) | (refine IJ_by (by omega) ?_)))) (funext fun j => by show u1154 113 j % 256 = u1154 19 j; rw [hf1157 113 j (by decide), hf1157 19 j (by decide)]; exact congrFun hTE j) hU t_q1 t_q12 t_q25 (by omega) (by omega) hG hS (lv_sub hl [0, 3, 4, 5, 6] rfl)
set_option maxHeartbeats 40000000 in
set_option maxRecDepth 100000 in
/-- the law's case 22 -/
theorem law_c22 {p : Program} {e : Env} {s : State} {m : MethodId} {below : List Frame} {meth : Method} {c : Code} (l : Launch) (hl9 : l.stackTraces = false) {b L : Nat} {xs : Nat → Int32} (hLN : L ≤ 3072) (hx : p.tables.exec = Jvm.exec) (hb : c.code = code) (hr : meth.sig.returnType = ret) (hml : c.maxLocals = 7) (hown : s.vm.findClass R_law = some m.cls) (hA : ∀ w ∈ AL, w.before #[Value.ref b] s = true) (hXs : va_X b L xs s s.heap) (hbl : b < s.heap.size) (hlocks : meth.locks = false) {dC : Nat → ClassId} {dI : Nat → Nat → Nat} {dA : Nat → ClassId} {sz : Nat} (hE : en dC dI dA sz s) (hsz : sz = s.heap.size) (hbA : ¬ ty_A sz b) (X : va_W) (q1 q12 q25 : Nat) (n : Nat) (ih : LJ p l e s m below meth c b dC dI dA sz X q1 q12 q25 n) (i : Int32) (Γ : ty_G) (g : gh) (kc ks : Nat) (H : Heap) (locs : List Loc) (ls : Array Slot) (hm : (3073 - i.toInt : Int) < (n + 1 : Nat)) (hi0 : 0 ≤ i.toInt ∧ i.toInt ≤ 3072) (hi1 : g 1 0 = g 33 0 ∧ 0 ≤ g 1 0 ∧ g 1 0 ≤ 6) (hi2 : g 2 0 = g 34 0 ∧ 0 ≤ g 2 0 ∧ g 2 0 ≤ 10) (hi3 : g 3 0 = g 35 0 ∧ 0 ≤ g 3 0 ∧ g 3 0 ≤ 200) (hi4 : 0 ≤ g 5 0 ∧ g 5 0 ≤ 52) (hi5 : 0 ≤ g 4 0 ∧ g 4 0 ≤ i.toInt) (hi6 : 0 ≤ g 6 0 ∧ g 6 0 ≤ 300) (hi7 : 0 ≤ g 7 0 ∧ g 7 0 ≤ g 36 0 ∧ g 36 0 ≤ 9) (hi8 : g 101 0 = g 1 0) (hi9 : g 104 0 = g 2 0) (hi10 : g 112 0 = g 5 0) (hi11 : g 111 0 = g 4 0) (hi12 : g 114 0 = g 6 0) (hi13 : 0 ≤ g 126 0 ∧ g 126 0 ≤ 200) (hi14 : 0 ≤ g 122 0 ∧ g 122 0 ≤ 30) (hi15 : g 14 0 = g 121 0) (hi16 : g 18 0 = g 118 0) (hIJ : IJ g) (hTE : pz_t g = g 19) (hU : Un Γ) (t_q1 : ty Γ q1 1) (t_q12 : ty Γ q12 30) (t_q25 : ty Γ q25 25) (hkc : kc ≤ 300 + i.toInt.toNat) (hks : ks ≤ 30000 + 28 * i.toInt.toNat) (hG : ty_ok (dC, dI) vwCl Γ (TP dA Γ g) sz X H) (hS : va_S (ty_A sz) s.heap H locs) (hl : lv_has ls 7 [(4, .int i), (3, .ref q25), (2, .ref q12), (1, .ref q1), (0, .ref b)]) (hiL : i.toInt + 6 ≤ (L : Int)) : W p l e room_1 s m #[Value.ref b] below meth c H locs kc ks (lw_Z below #[Value.ref b] s) (F0 m 985 ls []) := by
  refine lv_aload_n hx hb dL_law_985 rfl (lv_at hl 3 rfl) ?_
  refine lv_aload_n hx hb dL_law_986 rfl (lv_at hl 4 rfl) ?_
  refine lv_iload hx hb dL_law_987 (lv_at hl 0 rfl) ?_
  refine ty_iconst hx hb (1) dL_law_989 (by decide) (fun x1163 h1164 => ?_)
  refine ty_iadd hx hb dL_law_990 (fun x1165 h1166 => ?_)
  have h1167 := lw_ix (k := 1) h1164 h1166 hi0 hiL hLN (by decide)
  refine va_sld hx hb hXs hbl hbA hS (i := x1165) (ty_ix h1167.2) dL_law_991 ?_
  refine W.eq (g2 := F0 m 992 ls [.int (xs (i.toInt.toNat + 1)), .ref q1]) (by rw [lw_xs (xs := xs) h1167.1 hi0.1]) ?_
  clear h1167 h1166 h1164
  refine lv_topi (fun x1168 s1169 => ?_)
  refine lv_aload_n hx hb dL_law_992 rfl (lv_at hl 4 rfl) ?_
  refine lv_iload hx hb dL_law_993 (lv_at hl 0 rfl) ?_
  refine ty_iconst hx hb (2) dL_law_995 (by decide) (fun x1170 h1171 => ?_)
  refine ty_iadd hx hb dL_law_996 (fun x1172 h1173 => ?_)
  have h1174 := lw_ix (k := 2) h1171 h1173 hi0 hiL hLN (by decide)
  refine va_sld hx hb hXs hbl hbA hS (i := x1172) (ty_ix h1174.2) dL_law_997 ?_
  refine W.eq (g2 := F0 m 998 ls [.int (xs (i.toInt.toNat + 2)), .int x1168, .ref q1]) (by rw [lw_xs (xs := xs) h1174.1 hi0.1]) ?_
  clear h1174 h1173 h1171
  refine lv_topi (fun x1175 s1176 => ?_)
  refine cI (va_runV (C := RX8) (As := [.int x1168, .int x1175]) (rest := []) ⟨hx, hb, hml, hown, hA⟩ (k_X8_ownerOf l dC dI dA sz X Γ hU g q1 t_q1 x1168 x1175   (by first | with_reducible assumption | omega)) ⟨callB_of 2 hA (al_A wd_4_41) rfl rfl rfl (hA _ wd_1_1) (hA _ wd_4_38) (by decide +kernel) ⟨Nat.le_of_ble_eq_true rfl, Nat.le_of_ble_eq_true rfl⟩, hA _ wd_4_39, hA _ wd_4_40⟩ ⟨bl, recv_X8 hE hG t_q1, fun U hU9 hW9 => ⟨rfl, by rw [hU9]; exact hG, hE.go hS hU9 hW9⟩⟩ rfl rfl hl.1 rfl (lv_room (Nat.le_of_ble_eq_true rfl)) dL_law_998 ⟨(Nat.le_trans (show kc + 0 ≤ 300000 by omega) (Nat.le_of_ble_eq_true rfl)), (Nat.le_trans (show ks + 0 ≤ 300000 by omega) (Nat.le_of_ble_eq_true rfl))⟩) hS (fun x1179 u1177 H locs w1178 hG hS => ?_)
  have eu1180 := w1178
  rw [eu1180] at hG
  refine lv_pop hx hb dL_law_1001 rfl ?_
  refine lv_aload_n hx hb dL_law_1002 rfl (lv_at hl 2 rfl) ?_
  refine lv_aload_n hx hb dL_law_1003 rfl (lv_at hl 4 rfl) ?_
  refine lv_iload hx hb dL_law_1004 (lv_at hl 0 rfl) ?_
  refine ty_iconst hx hb (1) dL_law_1006 (by decide) (fun x1181 h1182 => ?_)
  refine ty_iadd hx hb dL_law_1007 (fun x1183 h1184 => ?_)
  have h1185 := lw_ix (k := 1) h1182 h1184 hi0 hiL hLN (by decide)
  refine va_sld hx hb hXs hbl hbA hS (i := x1183) (ty_ix h1185.2) dL_law_1008 ?_
  refine W.eq (g2 := F0 m 1009 ls [.int (xs (i.toInt.toNat + 1)), .ref q12]) (by rw [lw_xs (xs := xs) h1185.1 hi0.1]) ?_
  clear h1185 h1184 h1182
  refine W.eq (g2 := F0 m 1009 ls [.int x1168, .ref q12]) (by rw [s1169]) ?_
  refine lv_aload_n hx hb dL_law_1009 rfl (lv_at hl 4 rfl) ?_
  refine lv_iload hx hb dL_law_1010 (lv_at hl 0 rfl) ?_
  refine ty_iconst hx hb (2) dL_law_1012 (by decide) (fun x1186 h1187 => ?_)
  refine ty_iadd hx hb dL_law_1013 (fun x1188 h1189 => ?_)
  have h1190 := lw_ix (k := 2) h1187 h1189 hi0 hiL hLN (by decide)
  refine va_sld hx hb hXs hbl hbA hS (i := x1188) (ty_ix h1190.2) dL_law_1014 ?_
  refine W.eq (g2 := F0 m 1015 ls [.int (xs (i.toInt.toNat + 2)), .int x1168, .ref q12]) (by rw [lw_xs (xs := xs) h1190.1 hi0.1]) ?_
  clear h1190 h1189 h1187
  refine W.eq (g2 := F0 m 1015 ls [.int x1175, .int x1168, .ref q12]) (by rw [s1176]) ?_
  refine cI (va_runV (C := RX9) (As := [.int x1168, .int x1175]) (rest := []) ⟨hx, hb, hml, hown, hA⟩ (k_X9_ownerOf l dC dI dA sz X Γ hU g q12 t_q12 x1168 x1175   (by first | with_reducible assumption | omega)) ⟨callB_of 2 hA (al_A wd_5_234) rfl rfl rfl (hA _ wd_1_7) (hA _ wd_5_231) (by decide +kernel) ⟨Nat.le_of_ble_eq_true rfl, Nat.le_of_ble_eq_true rfl⟩, hA _ wd_5_232, hA _ wd_5_233⟩ ⟨bl, recv_X9 hE hG t_q12, fun U hU9 hW9 => ⟨rfl, by rw [hU9]; exact hG, hE.go hS hU9 hW9⟩⟩ rfl rfl hl.1 rfl (lv_room (Nat.le_of_ble_eq_true rfl)) dL_law_1015 ⟨(Nat.le_trans (show kc + 0 ≤ 300000 by omega) (Nat.le_of_ble_eq_true rfl)), (Nat.le_trans (show ks + 0 ≤ 300000 by omega) (Nat.le_of_ble_eq_true rfl))⟩) hS (fun x1193 u1191 H locs w1192 hG hS => ?_)
  have hf1194 := w1192
  have hj1195 : IJ u1191 := IJ_cg (hf1194 126 0 (by decide)) (fun j => hf1194 132 j (by decide)) (fun j => hf1194 134 j (by decide)) (by (repeat (first | with_reducible assumption | (refine IJ_c (by decide) (by decide) (by decide) ?_) | (refine IJ_take (by omega) (by omega) ?_) | (refine IJ_how (by omega) ?_) | (refine IJ_by (by omega) ?_))))
  refine lv_pop hx hb dL_law_1018 rfl ?_
  refine lv_goto (tgt := 1047) hx hb dL_law_1019 (by decide) ?_
  obtain ⟨x1196, h1197⟩ : ∃ y : Int32, y = i + Int32.ofInt (6) := ⟨_, rfl⟩
  try have h1198 : x1196.toInt = i.toInt + (6) := ty_inc h1197 (by decide) (by omega) (by omega)
  refine lv_iinc (v := x1196) (lv' := [(4, .int x1196), (3, .ref q25), (2, .ref q12), (1, .ref q1), (0, .ref b)]) hx hb dL_law_1047 hl (k := 0) rfl h1197.symm (by decide) rfl (fun ls hl => ?_)
  refine lv_goto (tgt := 23) hx hb dL_law_1050 (by decide) ?_
  have hk1199 : u1191 4 0 = g 4 0 := hf1194 4 0 (by decide)
  exact ih x1196 Γ u1191 (kc) (ks) _ _ ls (by omega) (by omega) (by rw [hf1194 1 0 (by decide), hf1194 33 0 (by decide)]; exact hi1) (by rw [hf1194 2 0 (by decide), hf1194 34 0 (by decide)]; exact hi2) (by rw [hf1194 3 0 (by decide), hf1194 35 0 (by decide)]; exact hi3) (by rw [hf1194 5 0 (by decide)]; exact hi4) (by omega) (by rw [hf1194 6 0 (by decide)]; exact hi6) (by rw [hf1194 7 0 (by decide), hf1194 36 0 (by decide)]; exact hi7) (by rw [hf1194 101 0 (by decide), hf1194 1 0 (by decide)]; exact hi8) (by rw [hf1194 104 0 (by decide), hf1194 2 0 (by decide)]; exact hi9) (by rw [hf1194 112 0 (by decide), hf1194 5 0 (by decide)]; exact hi10) (by rw [hf1194 111 0 (by decide), hf1194 4 0 (by decide)]; exact hi11) (by rw [hf1194 114 0 (by decide), hf1194 6 0 (by decide)]; exact hi12) (by rw [hf1194 126 0 (by decide)]; exact hi13) (by rw [hf1194 122 0 (by decide)]; exact hi14) (by rw [hf1194 14 0 (by decide), hf1194 121 0 (by decide)]; exact hi15) (by rw [hf1194 18 0 (by decide), hf1194 118 0 (by decide)]; exact hi16) (by (repeat (first | with_reducible assumption | (refine IJ_c (by decide) (by decide) (by decide) ?_) | (refine IJ_take (by omega) (by omega) ?_) | (refine IJ_how (by omega) ?_) | (refine IJ_by (by omega) ?_)))) (funext fun j => by show u1191 113 j % 256 = u1191 19 j; rw [hf1194 113 j (by decide), hf1194 19 j (by decide)]; exact congrFun hTE j) hU t_q1 t_q12 t_q25 (by omega) (by omega) hG hS (lv_sub hl [0, 1, 2, 3, 4] rfl)
set_option maxHeartbeats 40000000 in
set_option maxRecDepth 100000 in
/-- the law's case 23 -/
theorem law_c23 {p : Program} {e : Env} {s : State} {m : MethodId} {below : List Frame} {meth : Method} {c : Code} (l : Launch) (hl9 : l.stackTraces = false) {b L : Nat} {xs : Nat → Int32} (hLN : L ≤ 3072) (hx : p.tables.exec = Jvm.exec) (hb : c.code = code) (hr : meth.sig.returnType = ret) (hml : c.maxLocals = 7) (hown : s.vm.findClass R_law = some m.cls) (hA : ∀ w ∈ AL, w.before #[Value.ref b] s = true) (hXs : va_X b L xs s s.heap) (hbl : b < s.heap.size) (hlocks : meth.locks = false) {dC : Nat → ClassId} {dI : Nat → Nat → Nat} {dA : Nat → ClassId} {sz : Nat} (hE : en dC dI dA sz s) (hsz : sz = s.heap.size) (hbA : ¬ ty_A sz b) (X : va_W) (q1 q12 q25 : Nat) (n : Nat) (ih : LJ p l e s m below meth c b dC dI dA sz X q1 q12 q25 n) (i : Int32) (Γ : ty_G) (g : gh) (kc ks : Nat) (H : Heap) (locs : List Loc) (ls : Array Slot) (hm : (3073 - i.toInt : Int) < (n + 1 : Nat)) (hi0 : 0 ≤ i.toInt ∧ i.toInt ≤ 3072) (hi1 : g 1 0 = g 33 0 ∧ 0 ≤ g 1 0 ∧ g 1 0 ≤ 6) (hi2 : g 2 0 = g 34 0 ∧ 0 ≤ g 2 0 ∧ g 2 0 ≤ 10) (hi3 : g 3 0 = g 35 0 ∧ 0 ≤ g 3 0 ∧ g 3 0 ≤ 200) (hi4 : 0 ≤ g 5 0 ∧ g 5 0 ≤ 52) (hi5 : 0 ≤ g 4 0 ∧ g 4 0 ≤ i.toInt) (hi6 : 0 ≤ g 6 0 ∧ g 6 0 ≤ 300) (hi7 : 0 ≤ g 7 0 ∧ g 7 0 ≤ g 36 0 ∧ g 36 0 ≤ 9) (hi8 : g 101 0 = g 1 0) (hi9 : g 104 0 = g 2 0) (hi10 : g 112 0 = g 5 0) (hi11 : g 111 0 = g 4 0) (hi12 : g 114 0 = g 6 0) (hi13 : 0 ≤ g 126 0 ∧ g 126 0 ≤ 200) (hi14 : 0 ≤ g 122 0 ∧ g 122 0 ≤ 30) (hi15 : g 14 0 = g 121 0) (hi16 : g 18 0 = g 118 0) (hIJ : IJ g) (hTE : pz_t g = g 19) (hU : Un Γ) (t_q1 : ty Γ q1 1) (t_q12 : ty Γ q12 30) (t_q25 : ty Γ q25 25) (hkc : kc ≤ 300 + i.toInt.toNat) (hks : ks ≤ 30000 + 28 * i.toInt.toNat) (hG : ty_ok (dC, dI) vwCl Γ (TP dA Γ g) sz X H) (hS : va_S (ty_A sz) s.heap H locs) (hl : lv_has ls 7 [(4, .int i), (3, .ref q25), (2, .ref q12), (1, .ref q1), (0, .ref b)]) (hiL : i.toInt + 6 ≤ (L : Int)) : W p l e room_1 s m #[Value.ref b] below meth c H locs kc ks (lw_Z below #[Value.ref b] s) (F0 m 1022 ls []) := by
  refine lv_aload_n hx hb dL_law_1022 rfl (lv_at hl 3 rfl) ?_
  refine lv_aload_n hx hb dL_law_1023 rfl (lv_at hl 4 rfl) ?_
  refine lv_iload hx hb dL_law_1024 (lv_at hl 0 rfl) ?_
  refine ty_iconst hx hb (1) dL_law_1026 (by decide) (fun x1200 h1201 => ?_)
  refine ty_iadd hx hb dL_law_1027 (fun x1202 h1203 => ?_)
  have h1204 := lw_ix (k := 1) h1201 h1203 hi0 hiL hLN (by decide)
  refine va_sld hx hb hXs hbl hbA hS (i := x1202) (ty_ix h1204.2) dL_law_1028 ?_
  refine W.eq (g2 := F0 m 1029 ls [.int (xs (i.toInt.toNat + 1)), .ref q1]) (by rw [lw_xs (xs := xs) h1204.1 hi0.1]) ?_
  clear h1204 h1203 h1201
  refine lv_topi (fun x1205 s1206 => ?_)
  refine cI (va_runV (C := RX8) (As := [.int x1205]) (rest := []) ⟨hx, hb, hml, hown, hA⟩ (k_X8_count l dC dI dA sz X Γ hU g q1 t_q1 x1205   (by first | with_reducible assumption | omega) (by first | with_reducible assumption | omega)) ⟨callB_of 1 hA (al_A wd_4_45) rfl rfl rfl (hA _ wd_1_1) (hA _ wd_4_42) (by decide +kernel) ⟨Nat.le_of_ble_eq_true rfl, Nat.le_of_ble_eq_true rfl⟩, hA _ wd_4_43, hA _ wd_4_44⟩ ⟨bl, recv_X8 hE hG t_q1, fun U hU9 hW9 => ⟨rfl, by rw [hU9]; exact hG, hE.go hS hU9 hW9⟩⟩ rfl rfl hl.1 rfl (lv_room (Nat.le_of_ble_eq_true rfl)) dL_law_1029 ⟨(Nat.le_trans (show kc + 0 ≤ 300000 by omega) (Nat.le_of_ble_eq_true rfl)), (Nat.le_trans (show ks + 0 ≤ 300000 by omega) (Nat.le_of_ble_eq_true rfl))⟩) hS (fun x1209 u1207 H locs w1208 hG hS => ?_)
  have eu1210 := w1208
  rw [eu1210] at hG
  refine lv_pop hx hb dL_law_1032 rfl ?_
  refine lv_aload_n hx hb dL_law_1033 rfl (lv_at hl 2 rfl) ?_
  refine lv_aload_n hx hb dL_law_1034 rfl (lv_at hl 4 rfl) ?_
  refine lv_iload hx hb dL_law_1035 (lv_at hl 0 rfl) ?_
  refine ty_iconst hx hb (1) dL_law_1037 (by decide) (fun x1211 h1212 => ?_)
  refine ty_iadd hx hb dL_law_1038 (fun x1213 h1214 => ?_)
  have h1215 := lw_ix (k := 1) h1212 h1214 hi0 hiL hLN (by decide)
  refine va_sld hx hb hXs hbl hbA hS (i := x1213) (ty_ix h1215.2) dL_law_1039 ?_
  refine W.eq (g2 := F0 m 1040 ls [.int (xs (i.toInt.toNat + 1)), .ref q12]) (by rw [lw_xs (xs := xs) h1215.1 hi0.1]) ?_
  clear h1215 h1214 h1212
  refine W.eq (g2 := F0 m 1040 ls [.int x1205, .ref q12]) (by rw [s1206]) ?_
  refine cI (va_runV (C := RX9) (As := [.int x1205]) (rest := []) ⟨hx, hb, hml, hown, hA⟩ (k_X9_count l dC dI dA sz X Γ hU g q12 t_q12 x1205   (by first | with_reducible assumption | omega) (by first | with_reducible assumption | omega) (by first | with_reducible assumption | omega)) ⟨callB_of 1 hA (al_A wd_5_238) rfl rfl rfl (hA _ wd_1_7) (hA _ wd_5_235) (by decide +kernel) ⟨Nat.le_of_ble_eq_true rfl, Nat.le_of_ble_eq_true rfl⟩, hA _ wd_5_236, hA _ wd_5_237⟩ ⟨bl, recv_X9 hE hG t_q12, fun U hU9 hW9 => ⟨rfl, by rw [hU9]; exact hG, hE.go hS hU9 hW9⟩⟩ rfl rfl hl.1 rfl (lv_room (Nat.le_of_ble_eq_true rfl)) dL_law_1040 ⟨(Nat.le_trans (show kc + 0 ≤ 300000 by omega) (Nat.le_of_ble_eq_true rfl)), (Nat.le_trans (show ks + 0 ≤ 300000 by omega) (Nat.le_of_ble_eq_true rfl))⟩) hS (fun x1218 u1216 H locs w1217 hG hS => ?_)
  have hf1219 := w1217
  have hj1220 : IJ u1216 := IJ_cg (hf1219 126 0 (by decide)) (fun j => hf1219 132 j (by decide)) (fun j => hf1219 134 j (by decide)) (by (repeat (first | with_reducible assumption | (refine IJ_c (by decide) (by decide) (by decide) ?_) | (refine IJ_take (by omega) (by omega) ?_) | (refine IJ_how (by omega) ?_) | (refine IJ_by (by omega) ?_))))
  refine lv_pop hx hb dL_law_1043 rfl ?_
  refine lv_goto (tgt := 1047) hx hb dL_law_1044 (by decide) ?_
  obtain ⟨x1221, h1222⟩ : ∃ y : Int32, y = i + Int32.ofInt (6) := ⟨_, rfl⟩
  try have h1223 : x1221.toInt = i.toInt + (6) := ty_inc h1222 (by decide) (by omega) (by omega)
  refine lv_iinc (v := x1221) (lv' := [(4, .int x1221), (3, .ref q25), (2, .ref q12), (1, .ref q1), (0, .ref b)]) hx hb dL_law_1047 hl (k := 0) rfl h1222.symm (by decide) rfl (fun ls hl => ?_)
  refine lv_goto (tgt := 23) hx hb dL_law_1050 (by decide) ?_
  have hk1224 : u1216 4 0 = g 4 0 := hf1219 4 0 (by decide)
  exact ih x1221 Γ u1216 (kc) (ks) _ _ ls (by omega) (by omega) (by rw [hf1219 1 0 (by decide), hf1219 33 0 (by decide)]; exact hi1) (by rw [hf1219 2 0 (by decide), hf1219 34 0 (by decide)]; exact hi2) (by rw [hf1219 3 0 (by decide), hf1219 35 0 (by decide)]; exact hi3) (by rw [hf1219 5 0 (by decide)]; exact hi4) (by omega) (by rw [hf1219 6 0 (by decide)]; exact hi6) (by rw [hf1219 7 0 (by decide), hf1219 36 0 (by decide)]; exact hi7) (by rw [hf1219 101 0 (by decide), hf1219 1 0 (by decide)]; exact hi8) (by rw [hf1219 104 0 (by decide), hf1219 2 0 (by decide)]; exact hi9) (by rw [hf1219 112 0 (by decide), hf1219 5 0 (by decide)]; exact hi10) (by rw [hf1219 111 0 (by decide), hf1219 4 0 (by decide)]; exact hi11) (by rw [hf1219 114 0 (by decide), hf1219 6 0 (by decide)]; exact hi12) (by rw [hf1219 126 0 (by decide)]; exact hi13) (by rw [hf1219 122 0 (by decide)]; exact hi14) (by rw [hf1219 14 0 (by decide), hf1219 121 0 (by decide)]; exact hi15) (by rw [hf1219 18 0 (by decide), hf1219 118 0 (by decide)]; exact hi16) (by (repeat (first | with_reducible assumption | (refine IJ_c (by decide) (by decide) (by decide) ?_) | (refine IJ_take (by omega) (by omega) ?_) | (refine IJ_how (by omega) ?_) | (refine IJ_by (by omega) ?_)))) (funext fun j => by show u1216 113 j % 256 = u1216 19 j; rw [hf1219 113 j (by decide), hf1219 19 j (by decide)]; exact congrFun hTE j) hU t_q1 t_q12 t_q25 (by omega) (by omega) hG hS (lv_sub hl [0, 1, 2, 3, 4] rfl)
