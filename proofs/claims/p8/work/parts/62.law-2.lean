set_option maxHeartbeats 40000000 in
set_option maxRecDepth 100000 in
/-- the law's case 8 -/
theorem law_c8 {p : Program} {e : Env} {s : State} {m : MethodId} {below : List Frame} {meth : Method} {c : Code} (l : Launch) (hl9 : l.stackTraces = false) {b L : Nat} {xs : Nat → Int32} (hLN : L ≤ 3072) (hx : p.tables.exec = Jvm.exec) (hb : c.code = code) (hr : meth.sig.returnType = ret) (hml : c.maxLocals = 7) (hown : s.vm.findClass R_law = some m.cls) (hA : ∀ w ∈ AL, w.before #[Value.ref b] s = true) (hXs : va_X b L xs s s.heap) (hbl : b < s.heap.size) (hlocks : meth.locks = false) {dC : Nat → ClassId} {dI : Nat → Nat → Nat} {dA : Nat → ClassId} {sz : Nat} (hE : en dC dI dA sz s) (hsz : sz = s.heap.size) (hbA : ¬ ty_A sz b) (X : va_W) (q1 q12 q25 : Nat) (n : Nat) (ih : LJ p l e s m below meth c b dC dI dA sz X q1 q12 q25 n) (i : Int32) (Γ : ty_G) (g : gh) (kc ks : Nat) (H : Heap) (locs : List Loc) (ls : Array Slot) (hm : (3073 - i.toInt : Int) < (n + 1 : Nat)) (hi0 : 0 ≤ i.toInt ∧ i.toInt ≤ 3072) (hi1 : g 1 0 = g 33 0 ∧ 0 ≤ g 1 0 ∧ g 1 0 ≤ 6) (hi2 : g 2 0 = g 34 0 ∧ 0 ≤ g 2 0 ∧ g 2 0 ≤ 10) (hi3 : g 3 0 = g 35 0 ∧ 0 ≤ g 3 0 ∧ g 3 0 ≤ 200) (hi4 : 0 ≤ g 5 0 ∧ g 5 0 ≤ 52) (hi5 : 0 ≤ g 4 0 ∧ g 4 0 ≤ i.toInt) (hi6 : 0 ≤ g 6 0 ∧ g 6 0 ≤ 300) (hi7 : 0 ≤ g 7 0 ∧ g 7 0 ≤ g 36 0 ∧ g 36 0 ≤ 9) (hi8 : g 101 0 = g 1 0) (hi9 : g 104 0 = g 2 0) (hi10 : g 112 0 = g 5 0) (hi11 : g 111 0 = g 4 0) (hi12 : g 114 0 = g 6 0) (hi13 : 0 ≤ g 126 0 ∧ g 126 0 ≤ 200) (hi14 : 0 ≤ g 122 0 ∧ g 122 0 ≤ 30) (hi15 : g 14 0 = g 121 0) (hi16 : g 18 0 = g 118 0) (hIJ : IJ g) (hTE : pz_t g = g 19) (hU : Un Γ) (t_q1 : ty Γ q1 1) (t_q12 : ty Γ q12 30) (t_q25 : ty Γ q25 25) (hkc : kc ≤ 300 + i.toInt.toNat) (hks : ks ≤ 30000 + 28 * i.toInt.toNat) (hG : ty_ok (dC, dI) vwCl Γ (TP dA Γ g) sz X H) (hS : va_S (ty_A sz) s.heap H locs) (hl : lv_has ls 7 [(4, .int i), (3, .ref q25), (2, .ref q12), (1, .ref q1), (0, .ref b)]) (hiL : i.toInt + 6 ≤ (L : Int)) : W p l e room_1 s m #[Value.ref b] below meth c H locs kc ks (lw_Z below #[Value.ref b] s) (F0 m 424 ls []) := by
  refine lv_aload_n hx hb dL_law_424 rfl (lv_at hl 3 rfl) ?_
  refine lv_aload_n hx hb dL_law_425 rfl (lv_at hl 4 rfl) ?_
  refine lv_iload hx hb dL_law_426 (lv_at hl 0 rfl) ?_
  refine ty_iconst hx hb (1) dL_law_428 (by decide) (fun x511 h512 => ?_)
  refine ty_iadd hx hb dL_law_429 (fun x513 h514 => ?_)
  have h515 := lw_ix (k := 1) h512 h514 hi0 hiL hLN (by decide)
  refine va_sld hx hb hXs hbl hbA hS (i := x513) (ty_ix h515.2) dL_law_430 ?_
  refine W.eq (g2 := F0 m 431 ls [.int (xs (i.toInt.toNat + 1)), .ref q1]) (by rw [lw_xs (xs := xs) h515.1 hi0.1]) ?_
  clear h515 h514 h512
  refine lv_topi (fun x516 s517 => ?_)
  refine lv_aload_n hx hb dL_law_431 rfl (lv_at hl 4 rfl) ?_
  refine lv_iload hx hb dL_law_432 (lv_at hl 0 rfl) ?_
  refine ty_iconst hx hb (2) dL_law_434 (by decide) (fun x518 h519 => ?_)
  refine ty_iadd hx hb dL_law_435 (fun x520 h521 => ?_)
  have h522 := lw_ix (k := 2) h519 h521 hi0 hiL hLN (by decide)
  refine va_sld hx hb hXs hbl hbA hS (i := x520) (ty_ix h522.2) dL_law_436 ?_
  refine W.eq (g2 := F0 m 437 ls [.int (xs (i.toInt.toNat + 2)), .int x516, .ref q1]) (by rw [lw_xs (xs := xs) h522.1 hi0.1]) ?_
  clear h522 h521 h519
  refine lv_topi (fun x523 s524 => ?_)
  refine lv_aload_n hx hb dL_law_437 rfl (lv_at hl 4 rfl) ?_
  refine lv_iload hx hb dL_law_438 (lv_at hl 0 rfl) ?_
  refine ty_iconst hx hb (3) dL_law_440 (by decide) (fun x525 h526 => ?_)
  refine ty_iadd hx hb dL_law_441 (fun x527 h528 => ?_)
  have h529 := lw_ix (k := 3) h526 h528 hi0 hiL hLN (by decide)
  refine va_sld hx hb hXs hbl hbA hS (i := x527) (ty_ix h529.2) dL_law_442 ?_
  refine W.eq (g2 := F0 m 443 ls [.int (xs (i.toInt.toNat + 3)), .int x523, .int x516, .ref q1]) (by rw [lw_xs (xs := xs) h529.1 hi0.1]) ?_
  clear h529 h528 h526
  refine lv_topi (fun x530 s531 => ?_)
  refine cIB (va_runV (C := RX8) (As := [.int x516, .int x523, .int x530]) (rest := []) ⟨hx, hb, hml, hown, hA⟩ (k_X8_give l dC dI dA sz X Γ hU g q1 t_q1 x516 x523 x530   (by first | with_reducible assumption | omega) (by first | with_reducible assumption | omega) (by first | with_reducible assumption | omega)) ⟨callB_of 3 hA (al_A wd_3_4) rfl rfl rfl (hA _ wd_1_1) (hA _ wd_3_1) (by decide +kernel) ⟨Nat.le_of_ble_eq_true rfl, Nat.le_of_ble_eq_true rfl⟩, hA _ wd_3_2, hA _ wd_3_3⟩ ⟨bl, recv_X8 hE hG t_q1, fun U hU9 hW9 => ⟨rfl, by rw [hU9]; exact hG, hE.go hS hU9 hW9⟩⟩ rfl rfl hl.1 rfl (lv_room (Nat.le_of_ble_eq_true rfl)) dL_law_443 ⟨(Nat.le_trans (show kc + 1 ≤ 300000 by omega) (Nat.le_of_ble_eq_true rfl)), (Nat.le_trans (show ks + 10 ≤ 300000 by omega) (Nat.le_of_ble_eq_true rfl))⟩) hS (fun x534 u532 H locs w533 hG hS => ?_)
  obtain ⟨Γ535, g536⟩ := u532
  dsimp only at w533 hG
  obtain ⟨hx537, hU, hf538, w539⟩ := w533
  have hj541 : IJ g536 := IJ_cg (hf538 126 0 (by decide) (by decide)) (fun j => hf538 132 j (by decide) (by decide)) (fun j => hf538 134 j (by decide) (by decide)) (by (repeat (first | with_reducible assumption | (refine IJ_c (by decide) (by decide) (by decide) ?_) | (refine IJ_take (by omega) (by omega) ?_) | (refine IJ_how (by omega) ?_) | (refine IJ_by (by omega) ?_))))
  have hX542 : ext Γ Γ535 := ext.trans ext.rf hx537
  replace t_q25 : ty Γ535 q25 25 := hx537.one t_q25 (by decide)
  replace t_q12 : ty Γ535 q12 30 := hx537.one t_q12 (by decide)
  replace t_q1 : ty Γ535 q1 1 := hx537.one t_q1 (by decide)
  refine lv_pop hx hb dL_law_446 rfl ?_
  refine lv_aload_n hx hb dL_law_447 rfl (lv_at hl 2 rfl) ?_
  refine lv_aload_n hx hb dL_law_448 rfl (lv_at hl 4 rfl) ?_
  refine lv_iload hx hb dL_law_449 (lv_at hl 0 rfl) ?_
  refine ty_iconst hx hb (1) dL_law_451 (by decide) (fun x543 h544 => ?_)
  refine ty_iadd hx hb dL_law_452 (fun x545 h546 => ?_)
  have h547 := lw_ix (k := 1) h544 h546 hi0 hiL hLN (by decide)
  refine va_sld hx hb hXs hbl hbA hS (i := x545) (ty_ix h547.2) dL_law_453 ?_
  refine W.eq (g2 := F0 m 454 ls [.int (xs (i.toInt.toNat + 1)), .ref q12]) (by rw [lw_xs (xs := xs) h547.1 hi0.1]) ?_
  clear h547 h546 h544
  refine W.eq (g2 := F0 m 454 ls [.int x516, .ref q12]) (by rw [s517]) ?_
  refine lv_aload_n hx hb dL_law_454 rfl (lv_at hl 4 rfl) ?_
  refine lv_iload hx hb dL_law_455 (lv_at hl 0 rfl) ?_
  refine ty_iconst hx hb (2) dL_law_457 (by decide) (fun x548 h549 => ?_)
  refine ty_iadd hx hb dL_law_458 (fun x550 h551 => ?_)
  have h552 := lw_ix (k := 2) h549 h551 hi0 hiL hLN (by decide)
  refine va_sld hx hb hXs hbl hbA hS (i := x550) (ty_ix h552.2) dL_law_459 ?_
  refine W.eq (g2 := F0 m 460 ls [.int (xs (i.toInt.toNat + 2)), .int x516, .ref q12]) (by rw [lw_xs (xs := xs) h552.1 hi0.1]) ?_
  clear h552 h551 h549
  refine W.eq (g2 := F0 m 460 ls [.int x523, .int x516, .ref q12]) (by rw [s524]) ?_
  refine lv_aload_n hx hb dL_law_460 rfl (lv_at hl 4 rfl) ?_
  refine lv_iload hx hb dL_law_461 (lv_at hl 0 rfl) ?_
  refine ty_iconst hx hb (3) dL_law_463 (by decide) (fun x553 h554 => ?_)
  refine ty_iadd hx hb dL_law_464 (fun x555 h556 => ?_)
  have h557 := lw_ix (k := 3) h554 h556 hi0 hiL hLN (by decide)
  refine va_sld hx hb hXs hbl hbA hS (i := x555) (ty_ix h557.2) dL_law_465 ?_
  refine W.eq (g2 := F0 m 466 ls [.int (xs (i.toInt.toNat + 3)), .int x523, .int x516, .ref q12]) (by rw [lw_xs (xs := xs) h557.1 hi0.1]) ?_
  clear h557 h556 h554
  refine W.eq (g2 := F0 m 466 ls [.int x530, .int x523, .int x516, .ref q12]) (by rw [s531]) ?_
  have hk558 : g536 101 0 = g 101 0 := hf538 101 0 (by decide) (by decide)
  have hk559 : g536 104 0 = g 104 0 := hf538 104 0 (by decide) (by decide)
  have hk560 : g536 126 0 = g 126 0 := hf538 126 0 (by decide) (by decide)
  have hk561 : g536 122 0 = g 122 0 := hf538 122 0 (by decide) (by decide)
  refine cI (va_runV (C := RX9) (As := [.int x516, .int x523, .int x530]) (rest := []) ⟨hx, hb, hml, hown, hA⟩ (k_X9_give l dC dI dA sz X Γ535 hU g536 q12 t_q12 x516 x523 x530   (by first | with_reducible assumption | omega) (by first | with_reducible assumption | omega) (by first | with_reducible assumption | omega) (by first | with_reducible assumption | omega) (by (repeat (first | with_reducible assumption | (refine IJ_c (by decide) (by decide) (by decide) ?_) | (refine IJ_take (by omega) (by omega) ?_) | (refine IJ_how (by omega) ?_) | (refine IJ_by (by omega) ?_))))) ⟨callB_of 3 hA (al_A wd_5_124) rfl rfl rfl (hA _ wd_1_7) (hA _ wd_5_121) (by decide +kernel) ⟨Nat.le_of_ble_eq_true rfl, Nat.le_of_ble_eq_true rfl⟩, hA _ wd_5_122, hA _ wd_5_123⟩ ⟨bl, recv_X9 hE hG t_q12, fun U hU9 hW9 => ⟨rfl, by rw [hU9]; exact hG, hE.go hS hU9 hW9⟩⟩ rfl rfl hl.1 rfl (lv_room (Nat.le_of_ble_eq_true rfl)) dL_law_466 ⟨(Nat.le_trans (show (kc + 1) + 0 ≤ 300000 by omega) (Nat.le_of_ble_eq_true rfl)), (Nat.le_trans (show (ks + 10) + 0 ≤ 300000 by omega) (Nat.le_of_ble_eq_true rfl))⟩) hS (fun x564 u562 H locs w563 hG hS => ?_)
  obtain ⟨hf566, w563, hq565⟩ := w563
  refine lv_pop hx hb dL_law_469 rfl ?_
  refine lv_goto (tgt := 1047) hx hb dL_law_470 (by decide) ?_
  obtain ⟨x567, h568⟩ : ∃ y : Int32, y = i + Int32.ofInt (6) := ⟨_, rfl⟩
  try have h569 : x567.toInt = i.toInt + (6) := ty_inc h568 (by decide) (by omega) (by omega)
  refine lv_iinc (v := x567) (lv' := [(4, .int x567), (3, .ref q25), (2, .ref q12), (1, .ref q1), (0, .ref b)]) hx hb dL_law_1047 hl (k := 0) rfl h568.symm (by decide) rfl (fun ls hl => ?_)
  refine lv_goto (tgt := 23) hx hb dL_law_1050 (by decide) ?_
  have hk570 : u562 3 0 = g536 3 0 := hf566 3 0 (by decide) (by decide) (by decide) (by decide) (by decide) (by decide) (by decide) (by decide) (by decide) (by decide) (by decide)
  have hk571 : u562 4 0 = g536 4 0 := hf566 4 0 (by decide) (by decide) (by decide) (by decide) (by decide) (by decide) (by decide) (by decide) (by decide) (by decide) (by decide)
  have hk572 : g536 4 0 = g 4 0 := hf538 4 0 (by decide) (by decide)
  have hk573 : u562 35 0 = g536 35 0 := hf566 35 0 (by decide) (by decide) (by decide) (by decide) (by decide) (by decide) (by decide) (by decide) (by decide) (by decide) (by decide)
  exact ih x567 Γ535 u562 ((kc + 1)) ((ks + 10)) _ _ ls (by omega) (by omega) (by rw [hf566 1 0 (by decide) (by decide) (by decide) (by decide) (by decide) (by decide) (by decide) (by decide) (by decide) (by decide) (by decide), hf538 1 0 (by decide) (by decide), hf566 33 0 (by decide) (by decide) (by decide) (by decide) (by decide) (by decide) (by decide) (by decide) (by decide) (by decide) (by decide), hf538 33 0 (by decide) (by decide)]; exact hi1) (by rw [hf566 2 0 (by decide) (by decide) (by decide) (by decide) (by decide) (by decide) (by decide) (by decide) (by decide) (by decide) (by decide), hf538 2 0 (by decide) (by decide), hf566 34 0 (by decide) (by decide) (by decide) (by decide) (by decide) (by decide) (by decide) (by decide) (by decide) (by decide) (by decide), hf538 34 0 (by decide) (by decide)]; exact hi2) (by omega) (by rw [hf566 5 0 (by decide) (by decide) (by decide) (by decide) (by decide) (by decide) (by decide) (by decide) (by decide) (by decide) (by decide), hf538 5 0 (by decide) (by decide)]; exact hi4) (by omega) (by rw [hf566 6 0 (by decide) (by decide) (by decide) (by decide) (by decide) (by decide) (by decide) (by decide) (by decide) (by decide) (by decide), hf538 6 0 (by decide) (by decide)]; exact hi6) (by rw [hf566 7 0 (by decide) (by decide) (by decide) (by decide) (by decide) (by decide) (by decide) (by decide) (by decide) (by decide) (by decide), hf538 7 0 (by decide) (by decide), hf566 36 0 (by decide) (by decide) (by decide) (by decide) (by decide) (by decide) (by decide) (by decide) (by decide) (by decide) (by decide), hf538 36 0 (by decide) (by decide)]; exact hi7) (by rw [hf566 101 0 (by decide) (by decide) (by decide) (by decide) (by decide) (by decide) (by decide) (by decide) (by decide) (by decide) (by decide), hf538 101 0 (by decide) (by decide), hf566 1 0 (by decide) (by decide) (by decide) (by decide) (by decide) (by decide) (by decide) (by decide) (by decide) (by decide) (by decide), hf538 1 0 (by decide) (by decide)]; exact hi8) (by rw [hf566 104 0 (by decide) (by decide) (by decide) (by decide) (by decide) (by decide) (by decide) (by decide) (by decide) (by decide) (by decide), hf538 104 0 (by decide) (by decide), hf566 2 0 (by decide) (by decide) (by decide) (by decide) (by decide) (by decide) (by decide) (by decide) (by decide) (by decide) (by decide), hf538 2 0 (by decide) (by decide)]; exact hi9) (by rw [hf566 112 0 (by decide) (by decide) (by decide) (by decide) (by decide) (by decide) (by decide) (by decide) (by decide) (by decide) (by decide), hf538 112 0 (by decide) (by decide), hf566 5 0 (by decide) (by decide) (by decide) (by decide) (by decide) (by decide) (by decide) (by decide) (by decide) (by decide) (by decide), hf538 5 0 (by decide) (by decide)]; exact hi10) (by rw [hf566 111 0 (by decide) (by decide) (by decide) (by decide) (by decide) (by decide) (by decide) (by decide) (by decide) (by decide) (by decide), hf538 111 0 (by decide) (by decide), hf566 4 0 (by decide) (by decide) (by decide) (by decide) (by decide) (by decide) (by decide) (by decide) (by decide) (by decide) (by decide), hf538 4 0 (by decide) (by decide)]; exact hi11) (by rw [hf566 114 0 (by decide) (by decide) (by decide) (by decide) (by decide) (by decide) (by decide) (by decide) (by decide) (by decide) (by decide), hf538 114 0 (by decide) (by decide), hf566 6 0 (by decide) (by decide) (by decide) (by decide) (by decide) (by decide) (by decide) (by decide) (by decide) (by decide) (by decide), hf538 6 0 (by decide) (by decide)]; exact hi12) (by omega) (by rw [hf566 122 0 (by decide) (by decide) (by decide) (by decide) (by decide) (by decide) (by decide) (by decide) (by decide) (by decide) (by decide), hf538 122 0 (by decide) (by decide)]; exact hi14) (by rw [hf566 14 0 (by decide) (by decide) (by decide) (by decide) (by decide) (by decide) (by decide) (by decide) (by decide) (by decide) (by decide), hf538 14 0 (by decide) (by decide), hf566 121 0 (by decide) (by decide) (by decide) (by decide) (by decide) (by decide) (by decide) (by decide) (by decide) (by decide) (by decide), hf538 121 0 (by decide) (by decide)]; exact hi15) (by rw [hf566 18 0 (by decide) (by decide) (by decide) (by decide) (by decide) (by decide) (by decide) (by decide) (by decide) (by decide) (by decide), hf538 18 0 (by decide) (by decide), hf566 118 0 (by decide) (by decide) (by decide) (by decide) (by decide) (by decide) (by decide) (by decide) (by decide) (by decide) (by decide), hf538 118 0 (by decide) (by decide)]; exact hi16) (by (repeat (first | with_reducible assumption | (refine IJ_c (by decide) (by decide) (by decide) ?_) | (refine IJ_take (by omega) (by omega) ?_) | (refine IJ_how (by omega) ?_) | (refine IJ_by (by omega) ?_)))) (funext fun j => by show u562 113 j % 256 = u562 19 j; rw [hf566 113 j (by decide) (by decide) (by decide) (by decide) (by decide) (by decide) (by decide) (by decide) (by decide) (by decide) (by decide), hf538 113 j (by decide) (by decide), hf566 19 j (by decide) (by decide) (by decide) (by decide) (by decide) (by decide) (by decide) (by decide) (by decide) (by decide) (by decide), hf538 19 j (by decide) (by decide)]; exact congrFun hTE j) hU t_q1 t_q12 t_q25 (by omega) (by omega) hG hS (lv_sub hl [0, 1, 2, 3, 4] rfl)
set_option maxHeartbeats 40000000 in
set_option maxRecDepth 100000 in
/-- the law's case 9 -/
theorem law_c9 {p : Program} {e : Env} {s : State} {m : MethodId} {below : List Frame} {meth : Method} {c : Code} (l : Launch) (hl9 : l.stackTraces = false) {b L : Nat} {xs : Nat → Int32} (hLN : L ≤ 3072) (hx : p.tables.exec = Jvm.exec) (hb : c.code = code) (hr : meth.sig.returnType = ret) (hml : c.maxLocals = 7) (hown : s.vm.findClass R_law = some m.cls) (hA : ∀ w ∈ AL, w.before #[Value.ref b] s = true) (hXs : va_X b L xs s s.heap) (hbl : b < s.heap.size) (hlocks : meth.locks = false) {dC : Nat → ClassId} {dI : Nat → Nat → Nat} {dA : Nat → ClassId} {sz : Nat} (hE : en dC dI dA sz s) (hsz : sz = s.heap.size) (hbA : ¬ ty_A sz b) (X : va_W) (q1 q12 q25 : Nat) (n : Nat) (ih : LJ p l e s m below meth c b dC dI dA sz X q1 q12 q25 n) (i : Int32) (Γ : ty_G) (g : gh) (kc ks : Nat) (H : Heap) (locs : List Loc) (ls : Array Slot) (hm : (3073 - i.toInt : Int) < (n + 1 : Nat)) (hi0 : 0 ≤ i.toInt ∧ i.toInt ≤ 3072) (hi1 : g 1 0 = g 33 0 ∧ 0 ≤ g 1 0 ∧ g 1 0 ≤ 6) (hi2 : g 2 0 = g 34 0 ∧ 0 ≤ g 2 0 ∧ g 2 0 ≤ 10) (hi3 : g 3 0 = g 35 0 ∧ 0 ≤ g 3 0 ∧ g 3 0 ≤ 200) (hi4 : 0 ≤ g 5 0 ∧ g 5 0 ≤ 52) (hi5 : 0 ≤ g 4 0 ∧ g 4 0 ≤ i.toInt) (hi6 : 0 ≤ g 6 0 ∧ g 6 0 ≤ 300) (hi7 : 0 ≤ g 7 0 ∧ g 7 0 ≤ g 36 0 ∧ g 36 0 ≤ 9) (hi8 : g 101 0 = g 1 0) (hi9 : g 104 0 = g 2 0) (hi10 : g 112 0 = g 5 0) (hi11 : g 111 0 = g 4 0) (hi12 : g 114 0 = g 6 0) (hi13 : 0 ≤ g 126 0 ∧ g 126 0 ≤ 200) (hi14 : 0 ≤ g 122 0 ∧ g 122 0 ≤ 30) (hi15 : g 14 0 = g 121 0) (hi16 : g 18 0 = g 118 0) (hIJ : IJ g) (hTE : pz_t g = g 19) (hU : Un Γ) (t_q1 : ty Γ q1 1) (t_q12 : ty Γ q12 30) (t_q25 : ty Γ q25 25) (hkc : kc ≤ 300 + i.toInt.toNat) (hks : ks ≤ 30000 + 28 * i.toInt.toNat) (hG : ty_ok (dC, dI) vwCl Γ (TP dA Γ g) sz X H) (hS : va_S (ty_A sz) s.heap H locs) (hl : lv_has ls 7 [(4, .int i), (3, .ref q25), (2, .ref q12), (1, .ref q1), (0, .ref b)]) (hiL : i.toInt + 6 ≤ (L : Int)) : W p l e room_1 s m #[Value.ref b] below meth c H locs kc ks (lw_Z below #[Value.ref b] s) (F0 m 473 ls []) := by
  refine lv_aload_n hx hb dL_law_473 rfl (lv_at hl 3 rfl) ?_
  refine lv_aload_n hx hb dL_law_474 rfl (lv_at hl 4 rfl) ?_
  refine lv_iload hx hb dL_law_475 (lv_at hl 0 rfl) ?_
  refine ty_iconst hx hb (1) dL_law_477 (by decide) (fun x574 h575 => ?_)
  refine ty_iadd hx hb dL_law_478 (fun x576 h577 => ?_)
  have h578 := lw_ix (k := 1) h575 h577 hi0 hiL hLN (by decide)
  refine va_sld hx hb hXs hbl hbA hS (i := x576) (ty_ix h578.2) dL_law_479 ?_
  refine W.eq (g2 := F0 m 480 ls [.int (xs (i.toInt.toNat + 1)), .ref q1]) (by rw [lw_xs (xs := xs) h578.1 hi0.1]) ?_
  clear h578 h577 h575
  refine lv_topi (fun x579 s580 => ?_)
  refine lv_aload_n hx hb dL_law_480 rfl (lv_at hl 4 rfl) ?_
  refine lv_iload hx hb dL_law_481 (lv_at hl 0 rfl) ?_
  refine ty_iconst hx hb (2) dL_law_483 (by decide) (fun x581 h582 => ?_)
  refine ty_iadd hx hb dL_law_484 (fun x583 h584 => ?_)
  have h585 := lw_ix (k := 2) h582 h584 hi0 hiL hLN (by decide)
  refine va_sld hx hb hXs hbl hbA hS (i := x583) (ty_ix h585.2) dL_law_485 ?_
  refine W.eq (g2 := F0 m 486 ls [.int (xs (i.toInt.toNat + 2)), .int x579, .ref q1]) (by rw [lw_xs (xs := xs) h585.1 hi0.1]) ?_
  clear h585 h584 h582
  refine lv_topi (fun x586 s587 => ?_)
  refine lv_aload_n hx hb dL_law_486 rfl (lv_at hl 4 rfl) ?_
  refine lv_iload hx hb dL_law_487 (lv_at hl 0 rfl) ?_
  refine ty_iconst hx hb (3) dL_law_489 (by decide) (fun x588 h589 => ?_)
  refine ty_iadd hx hb dL_law_490 (fun x590 h591 => ?_)
  have h592 := lw_ix (k := 3) h589 h591 hi0 hiL hLN (by decide)
  refine va_sld hx hb hXs hbl hbA hS (i := x590) (ty_ix h592.2) dL_law_491 ?_
  refine W.eq (g2 := F0 m 492 ls [.int (xs (i.toInt.toNat + 3)), .int x586, .int x579, .ref q1]) (by rw [lw_xs (xs := xs) h592.1 hi0.1]) ?_
  clear h592 h591 h589
  refine lv_topi (fun x593 s594 => ?_)
  refine lv_aload_n hx hb dL_law_492 rfl (lv_at hl 4 rfl) ?_
  refine lv_iload hx hb dL_law_493 (lv_at hl 0 rfl) ?_
  refine ty_iconst hx hb (4) dL_law_495 (by decide) (fun x595 h596 => ?_)
  refine ty_iadd hx hb dL_law_496 (fun x597 h598 => ?_)
  have h599 := lw_ix (k := 4) h596 h598 hi0 hiL hLN (by decide)
  refine va_sld hx hb hXs hbl hbA hS (i := x597) (ty_ix h599.2) dL_law_497 ?_
  refine W.eq (g2 := F0 m 498 ls [.int (xs (i.toInt.toNat + 4)), .int x593, .int x586, .int x579, .ref q1]) (by rw [lw_xs (xs := xs) h599.1 hi0.1]) ?_
  clear h599 h598 h596
  refine lv_topi (fun x600 s601 => ?_)
  refine lv_aload_n hx hb dL_law_498 rfl (lv_at hl 4 rfl) ?_
  refine lv_iload hx hb dL_law_499 (lv_at hl 0 rfl) ?_
  refine ty_iconst hx hb (5) dL_law_501 (by decide) (fun x602 h603 => ?_)
  refine ty_iadd hx hb dL_law_502 (fun x604 h605 => ?_)
  have h606 := lw_ix (k := 5) h603 h605 hi0 hiL hLN (by decide)
  refine va_sld hx hb hXs hbl hbA hS (i := x604) (ty_ix h606.2) dL_law_503 ?_
  refine W.eq (g2 := F0 m 504 ls [.int (xs (i.toInt.toNat + 5)), .int x600, .int x593, .int x586, .int x579, .ref q1]) (by rw [lw_xs (xs := xs) h606.1 hi0.1]) ?_
  clear h606 h605 h603
  refine lv_topi (fun x607 s608 => ?_)
  refine cIB (va_runV (C := RX8) (As := [.int x579, .int x586, .int x593, .int x600, .int x607]) (rest := []) ⟨hx, hb, hml, hown, hA⟩ (k_X8_wish l dC dI dA sz X Γ hU g q1 t_q1 x579 x586 x593 x600 x607   (by first | with_reducible assumption | omega)) ⟨callB_of 5 hA (al_A wd_3_68) rfl rfl rfl (hA _ wd_1_1) (hA _ wd_3_65) (by decide +kernel) ⟨Nat.le_of_ble_eq_true rfl, Nat.le_of_ble_eq_true rfl⟩, hA _ wd_3_66, hA _ wd_3_67⟩ ⟨bl, recv_X8 hE hG t_q1, fun U hU9 hW9 => ⟨rfl, by rw [hU9]; exact hG, hE.go hS hU9 hW9⟩⟩ rfl rfl hl.1 rfl (lv_room (Nat.le_of_ble_eq_true rfl)) dL_law_504 ⟨(Nat.le_trans (show kc + 1 ≤ 300000 by omega) (Nat.le_of_ble_eq_true rfl)), (Nat.le_trans (show ks + 4 ≤ 300000 by omega) (Nat.le_of_ble_eq_true rfl))⟩) hS (fun x611 u609 H locs w610 hG hS => ?_)
  obtain ⟨Γ612, g613⟩ := u609
  dsimp only at w610 hG
  obtain ⟨hx614, hU, eu617⟩ := w610
  rw [eu617] at hG
  have hX618 : ext Γ Γ612 := ext.trans ext.rf hx614
  replace t_q25 : ty Γ612 q25 25 := hx614.one t_q25 (by decide)
  replace t_q12 : ty Γ612 q12 30 := hx614.one t_q12 (by decide)
  replace t_q1 : ty Γ612 q1 1 := hx614.one t_q1 (by decide)
  refine lv_pop hx hb dL_law_507 rfl ?_
  refine lv_aload_n hx hb dL_law_508 rfl (lv_at hl 2 rfl) ?_
  refine lv_aload_n hx hb dL_law_509 rfl (lv_at hl 4 rfl) ?_
  refine lv_iload hx hb dL_law_510 (lv_at hl 0 rfl) ?_
  refine ty_iconst hx hb (1) dL_law_512 (by decide) (fun x619 h620 => ?_)
  refine ty_iadd hx hb dL_law_513 (fun x621 h622 => ?_)
  have h623 := lw_ix (k := 1) h620 h622 hi0 hiL hLN (by decide)
  refine va_sld hx hb hXs hbl hbA hS (i := x621) (ty_ix h623.2) dL_law_514 ?_
  refine W.eq (g2 := F0 m 515 ls [.int (xs (i.toInt.toNat + 1)), .ref q12]) (by rw [lw_xs (xs := xs) h623.1 hi0.1]) ?_
  clear h623 h622 h620
  refine W.eq (g2 := F0 m 515 ls [.int x579, .ref q12]) (by rw [s580]) ?_
  refine lv_aload_n hx hb dL_law_515 rfl (lv_at hl 4 rfl) ?_
  refine lv_iload hx hb dL_law_516 (lv_at hl 0 rfl) ?_
  refine ty_iconst hx hb (2) dL_law_518 (by decide) (fun x624 h625 => ?_)
  refine ty_iadd hx hb dL_law_519 (fun x626 h627 => ?_)
  have h628 := lw_ix (k := 2) h625 h627 hi0 hiL hLN (by decide)
  refine va_sld hx hb hXs hbl hbA hS (i := x626) (ty_ix h628.2) dL_law_520 ?_
  refine W.eq (g2 := F0 m 521 ls [.int (xs (i.toInt.toNat + 2)), .int x579, .ref q12]) (by rw [lw_xs (xs := xs) h628.1 hi0.1]) ?_
  clear h628 h627 h625
  refine W.eq (g2 := F0 m 521 ls [.int x586, .int x579, .ref q12]) (by rw [s587]) ?_
  refine lv_aload_n hx hb dL_law_521 rfl (lv_at hl 4 rfl) ?_
  refine lv_iload hx hb dL_law_522 (lv_at hl 0 rfl) ?_
  refine ty_iconst hx hb (3) dL_law_524 (by decide) (fun x629 h630 => ?_)
  refine ty_iadd hx hb dL_law_525 (fun x631 h632 => ?_)
  have h633 := lw_ix (k := 3) h630 h632 hi0 hiL hLN (by decide)
  refine va_sld hx hb hXs hbl hbA hS (i := x631) (ty_ix h633.2) dL_law_526 ?_
  refine W.eq (g2 := F0 m 527 ls [.int (xs (i.toInt.toNat + 3)), .int x586, .int x579, .ref q12]) (by rw [lw_xs (xs := xs) h633.1 hi0.1]) ?_
  clear h633 h632 h630
  refine W.eq (g2 := F0 m 527 ls [.int x593, .int x586, .int x579, .ref q12]) (by rw [s594]) ?_
  refine lv_aload_n hx hb dL_law_527 rfl (lv_at hl 4 rfl) ?_
  refine lv_iload hx hb dL_law_528 (lv_at hl 0 rfl) ?_
  refine ty_iconst hx hb (4) dL_law_530 (by decide) (fun x634 h635 => ?_)
  refine ty_iadd hx hb dL_law_531 (fun x636 h637 => ?_)
  have h638 := lw_ix (k := 4) h635 h637 hi0 hiL hLN (by decide)
  refine va_sld hx hb hXs hbl hbA hS (i := x636) (ty_ix h638.2) dL_law_532 ?_
  refine W.eq (g2 := F0 m 533 ls [.int (xs (i.toInt.toNat + 4)), .int x593, .int x586, .int x579, .ref q12]) (by rw [lw_xs (xs := xs) h638.1 hi0.1]) ?_
  clear h638 h637 h635
  refine W.eq (g2 := F0 m 533 ls [.int x600, .int x593, .int x586, .int x579, .ref q12]) (by rw [s601]) ?_
  refine lv_aload_n hx hb dL_law_533 rfl (lv_at hl 4 rfl) ?_
  refine lv_iload hx hb dL_law_534 (lv_at hl 0 rfl) ?_
  refine ty_iconst hx hb (5) dL_law_536 (by decide) (fun x639 h640 => ?_)
  refine ty_iadd hx hb dL_law_537 (fun x641 h642 => ?_)
  have h643 := lw_ix (k := 5) h640 h642 hi0 hiL hLN (by decide)
  refine va_sld hx hb hXs hbl hbA hS (i := x641) (ty_ix h643.2) dL_law_538 ?_
  refine W.eq (g2 := F0 m 539 ls [.int (xs (i.toInt.toNat + 5)), .int x600, .int x593, .int x586, .int x579, .ref q12]) (by rw [lw_xs (xs := xs) h643.1 hi0.1]) ?_
  clear h643 h642 h640
  refine W.eq (g2 := F0 m 539 ls [.int x607, .int x600, .int x593, .int x586, .int x579, .ref q12]) (by rw [s608]) ?_
  refine cI (va_runV (C := RX9) (As := [.int x579, .int x586, .int x593, .int x600, .int x607]) (rest := []) ⟨hx, hb, hml, hown, hA⟩ (k_X9_wish l dC dI dA sz X Γ612 hU g q12 t_q12 x579 x586 x593 x600 x607   (by first | with_reducible assumption | omega)) ⟨callB_of 5 hA (al_A wd_5_132) rfl rfl rfl (hA _ wd_1_7) (hA _ wd_5_129) (by decide +kernel) ⟨Nat.le_of_ble_eq_true rfl, Nat.le_of_ble_eq_true rfl⟩, hA _ wd_5_130, hA _ wd_5_131⟩ ⟨bl, recv_X9 hE hG t_q12, fun U hU9 hW9 => ⟨rfl, by rw [hU9]; exact hG, hE.go hS hU9 hW9⟩⟩ rfl rfl hl.1 rfl (lv_room (Nat.le_of_ble_eq_true rfl)) dL_law_539 ⟨(Nat.le_trans (show (kc + 1) + 0 ≤ 300000 by omega) (Nat.le_of_ble_eq_true rfl)), (Nat.le_trans (show (ks + 4) + 0 ≤ 300000 by omega) (Nat.le_of_ble_eq_true rfl))⟩) hS (fun x646 u644 H locs w645 hG hS => ?_)
  have hf647 := w645
  have hj648 : IJ u644 := IJ_cg (hf647 126 0 (by decide) (by decide)) (fun j => hf647 132 j (by decide) (by decide)) (fun j => hf647 134 j (by decide) (by decide)) (by (repeat (first | with_reducible assumption | (refine IJ_c (by decide) (by decide) (by decide) ?_) | (refine IJ_take (by omega) (by omega) ?_) | (refine IJ_how (by omega) ?_) | (refine IJ_by (by omega) ?_))))
  refine lv_pop hx hb dL_law_542 rfl ?_
  refine lv_goto (tgt := 1047) hx hb dL_law_543 (by decide) ?_
  obtain ⟨x649, h650⟩ : ∃ y : Int32, y = i + Int32.ofInt (6) := ⟨_, rfl⟩
  try have h651 : x649.toInt = i.toInt + (6) := ty_inc h650 (by decide) (by omega) (by omega)
  refine lv_iinc (v := x649) (lv' := [(4, .int x649), (3, .ref q25), (2, .ref q12), (1, .ref q1), (0, .ref b)]) hx hb dL_law_1047 hl (k := 0) rfl h650.symm (by decide) rfl (fun ls hl => ?_)
  refine lv_goto (tgt := 23) hx hb dL_law_1050 (by decide) ?_
  have hk652 : u644 4 0 = g 4 0 := hf647 4 0 (by decide) (by decide)
  exact ih x649 Γ612 u644 ((kc + 1)) ((ks + 4)) _ _ ls (by omega) (by omega) (by rw [hf647 1 0 (by decide) (by decide), hf647 33 0 (by decide) (by decide)]; exact hi1) (by rw [hf647 2 0 (by decide) (by decide), hf647 34 0 (by decide) (by decide)]; exact hi2) (by rw [hf647 3 0 (by decide) (by decide), hf647 35 0 (by decide) (by decide)]; exact hi3) (by rw [hf647 5 0 (by decide) (by decide)]; exact hi4) (by omega) (by rw [hf647 6 0 (by decide) (by decide)]; exact hi6) (by rw [hf647 7 0 (by decide) (by decide), hf647 36 0 (by decide) (by decide)]; exact hi7) (by rw [hf647 101 0 (by decide) (by decide), hf647 1 0 (by decide) (by decide)]; exact hi8) (by rw [hf647 104 0 (by decide) (by decide), hf647 2 0 (by decide) (by decide)]; exact hi9) (by rw [hf647 112 0 (by decide) (by decide), hf647 5 0 (by decide) (by decide)]; exact hi10) (by rw [hf647 111 0 (by decide) (by decide), hf647 4 0 (by decide) (by decide)]; exact hi11) (by rw [hf647 114 0 (by decide) (by decide), hf647 6 0 (by decide) (by decide)]; exact hi12) (by rw [hf647 126 0 (by decide) (by decide)]; exact hi13) (by rw [hf647 122 0 (by decide) (by decide)]; exact hi14) (by rw [hf647 14 0 (by decide) (by decide), hf647 121 0 (by decide) (by decide)]; exact hi15) (by rw [hf647 18 0 (by decide) (by decide), hf647 118 0 (by decide) (by decide)]; exact hi16) (by (repeat (first | with_reducible assumption | (refine IJ_c (by decide) (by decide) (by decide) ?_) | (refine IJ_take (by omega) (by omega) ?_) | (refine IJ_how (by omega) ?_) | (refine IJ_by (by omega) ?_)))) (funext fun j => by show u644 113 j % 256 = u644 19 j; rw [hf647 113 j (by decide) (by decide), hf647 19 j (by decide) (by decide)]; exact congrFun hTE j) hU t_q1 t_q12 t_q25 (by omega) (by omega) hG hS (lv_sub hl [0, 1, 2, 3, 4] rfl)
set_option maxHeartbeats 40000000 in
set_option maxRecDepth 100000 in
/-- the law's case 10 -/
theorem law_c10 {p : Program} {e : Env} {s : State} {m : MethodId} {below : List Frame} {meth : Method} {c : Code} (l : Launch) (hl9 : l.stackTraces = false) {b L : Nat} {xs : Nat → Int32} (hLN : L ≤ 3072) (hx : p.tables.exec = Jvm.exec) (hb : c.code = code) (hr : meth.sig.returnType = ret) (hml : c.maxLocals = 7) (hown : s.vm.findClass R_law = some m.cls) (hA : ∀ w ∈ AL, w.before #[Value.ref b] s = true) (hXs : va_X b L xs s s.heap) (hbl : b < s.heap.size) (hlocks : meth.locks = false) {dC : Nat → ClassId} {dI : Nat → Nat → Nat} {dA : Nat → ClassId} {sz : Nat} (hE : en dC dI dA sz s) (hsz : sz = s.heap.size) (hbA : ¬ ty_A sz b) (X : va_W) (q1 q12 q25 : Nat) (n : Nat) (ih : LJ p l e s m below meth c b dC dI dA sz X q1 q12 q25 n) (i : Int32) (Γ : ty_G) (g : gh) (kc ks : Nat) (H : Heap) (locs : List Loc) (ls : Array Slot) (hm : (3073 - i.toInt : Int) < (n + 1 : Nat)) (hi0 : 0 ≤ i.toInt ∧ i.toInt ≤ 3072) (hi1 : g 1 0 = g 33 0 ∧ 0 ≤ g 1 0 ∧ g 1 0 ≤ 6) (hi2 : g 2 0 = g 34 0 ∧ 0 ≤ g 2 0 ∧ g 2 0 ≤ 10) (hi3 : g 3 0 = g 35 0 ∧ 0 ≤ g 3 0 ∧ g 3 0 ≤ 200) (hi4 : 0 ≤ g 5 0 ∧ g 5 0 ≤ 52) (hi5 : 0 ≤ g 4 0 ∧ g 4 0 ≤ i.toInt) (hi6 : 0 ≤ g 6 0 ∧ g 6 0 ≤ 300) (hi7 : 0 ≤ g 7 0 ∧ g 7 0 ≤ g 36 0 ∧ g 36 0 ≤ 9) (hi8 : g 101 0 = g 1 0) (hi9 : g 104 0 = g 2 0) (hi10 : g 112 0 = g 5 0) (hi11 : g 111 0 = g 4 0) (hi12 : g 114 0 = g 6 0) (hi13 : 0 ≤ g 126 0 ∧ g 126 0 ≤ 200) (hi14 : 0 ≤ g 122 0 ∧ g 122 0 ≤ 30) (hi15 : g 14 0 = g 121 0) (hi16 : g 18 0 = g 118 0) (hIJ : IJ g) (hTE : pz_t g = g 19) (hU : Un Γ) (t_q1 : ty Γ q1 1) (t_q12 : ty Γ q12 30) (t_q25 : ty Γ q25 25) (hkc : kc ≤ 300 + i.toInt.toNat) (hks : ks ≤ 30000 + 28 * i.toInt.toNat) (hG : ty_ok (dC, dI) vwCl Γ (TP dA Γ g) sz X H) (hS : va_S (ty_A sz) s.heap H locs) (hl : lv_has ls 7 [(4, .int i), (3, .ref q25), (2, .ref q12), (1, .ref q1), (0, .ref b)]) (hiL : i.toInt + 6 ≤ (L : Int)) : W p l e room_1 s m #[Value.ref b] below meth c H locs kc ks (lw_Z below #[Value.ref b] s) (F0 m 546 ls []) := by
  refine lv_aload_n hx hb dL_law_546 rfl (lv_at hl 3 rfl) ?_
  refine lv_aload_n hx hb dL_law_547 rfl (lv_at hl 4 rfl) ?_
  refine lv_iload hx hb dL_law_548 (lv_at hl 0 rfl) ?_
  refine ty_iconst hx hb (1) dL_law_550 (by decide) (fun x653 h654 => ?_)
  refine ty_iadd hx hb dL_law_551 (fun x655 h656 => ?_)
  have h657 := lw_ix (k := 1) h654 h656 hi0 hiL hLN (by decide)
  refine va_sld hx hb hXs hbl hbA hS (i := x655) (ty_ix h657.2) dL_law_552 ?_
  refine W.eq (g2 := F0 m 553 ls [.int (xs (i.toInt.toNat + 1)), .ref q1]) (by rw [lw_xs (xs := xs) h657.1 hi0.1]) ?_
  clear h657 h656 h654
  refine lv_topi (fun x658 s659 => ?_)
  refine lv_aload_n hx hb dL_law_553 rfl (lv_at hl 4 rfl) ?_
  refine lv_iload hx hb dL_law_554 (lv_at hl 0 rfl) ?_
  refine ty_iconst hx hb (2) dL_law_556 (by decide) (fun x660 h661 => ?_)
  refine ty_iadd hx hb dL_law_557 (fun x662 h663 => ?_)
  have h664 := lw_ix (k := 2) h661 h663 hi0 hiL hLN (by decide)
  refine va_sld hx hb hXs hbl hbA hS (i := x662) (ty_ix h664.2) dL_law_558 ?_
  refine W.eq (g2 := F0 m 559 ls [.int (xs (i.toInt.toNat + 2)), .int x658, .ref q1]) (by rw [lw_xs (xs := xs) h664.1 hi0.1]) ?_
  clear h664 h663 h661
  refine lv_topi (fun x665 s666 => ?_)
  refine lv_aload_n hx hb dL_law_559 rfl (lv_at hl 4 rfl) ?_
  refine lv_iload hx hb dL_law_560 (lv_at hl 0 rfl) ?_
  refine ty_iconst hx hb (3) dL_law_562 (by decide) (fun x667 h668 => ?_)
  refine ty_iadd hx hb dL_law_563 (fun x669 h670 => ?_)
  have h671 := lw_ix (k := 3) h668 h670 hi0 hiL hLN (by decide)
  refine va_sld hx hb hXs hbl hbA hS (i := x669) (ty_ix h671.2) dL_law_564 ?_
  refine W.eq (g2 := F0 m 565 ls [.int (xs (i.toInt.toNat + 3)), .int x665, .int x658, .ref q1]) (by rw [lw_xs (xs := xs) h671.1 hi0.1]) ?_
  clear h671 h670 h668
  refine lv_topi (fun x672 s673 => ?_)
  refine lv_aload_n hx hb dL_law_565 rfl (lv_at hl 4 rfl) ?_
  refine lv_iload hx hb dL_law_566 (lv_at hl 0 rfl) ?_
  refine ty_iconst hx hb (4) dL_law_568 (by decide) (fun x674 h675 => ?_)
  refine ty_iadd hx hb dL_law_569 (fun x676 h677 => ?_)
  have h678 := lw_ix (k := 4) h675 h677 hi0 hiL hLN (by decide)
  refine va_sld hx hb hXs hbl hbA hS (i := x676) (ty_ix h678.2) dL_law_570 ?_
  refine W.eq (g2 := F0 m 571 ls [.int (xs (i.toInt.toNat + 4)), .int x672, .int x665, .int x658, .ref q1]) (by rw [lw_xs (xs := xs) h678.1 hi0.1]) ?_
  clear h678 h677 h675
  refine lv_topi (fun x679 s680 => ?_)
  refine lv_aload_n hx hb dL_law_571 rfl (lv_at hl 4 rfl) ?_
  refine lv_iload hx hb dL_law_572 (lv_at hl 0 rfl) ?_
  refine ty_iconst hx hb (5) dL_law_574 (by decide) (fun x681 h682 => ?_)
  refine ty_iadd hx hb dL_law_575 (fun x683 h684 => ?_)
  have h685 := lw_ix (k := 5) h682 h684 hi0 hiL hLN (by decide)
  refine va_sld hx hb hXs hbl hbA hS (i := x683) (ty_ix h685.2) dL_law_576 ?_
  refine W.eq (g2 := F0 m 577 ls [.int (xs (i.toInt.toNat + 5)), .int x679, .int x672, .int x665, .int x658, .ref q1]) (by rw [lw_xs (xs := xs) h685.1 hi0.1]) ?_
  clear h685 h684 h682
  refine lv_topi (fun x686 s687 => ?_)
  refine cIB (va_runV (C := RX8) (As := [.int x658, .int x665, .int x672, .int x679, .int x686]) (rest := []) ⟨hx, hb, hml, hown, hA⟩ (k_X8_rushWish l dC dI dA sz X Γ hU g q1 t_q1 x658 x665 x672 x679 x686   (by first | with_reducible assumption | omega)) ⟨callB_of 5 hA (al_A wd_3_106) rfl rfl rfl (hA _ wd_1_1) (hA _ wd_3_103) (by decide +kernel) ⟨Nat.le_of_ble_eq_true rfl, Nat.le_of_ble_eq_true rfl⟩, hA _ wd_3_104, hA _ wd_3_105⟩ ⟨bl, recv_X8 hE hG t_q1, fun U hU9 hW9 => ⟨rfl, by rw [hU9]; exact hG, hE.go hS hU9 hW9⟩⟩ rfl rfl hl.1 rfl (lv_room (Nat.le_of_ble_eq_true rfl)) dL_law_577 ⟨(Nat.le_trans (show kc + 1 ≤ 300000 by omega) (Nat.le_of_ble_eq_true rfl)), (Nat.le_trans (show ks + 4 ≤ 300000 by omega) (Nat.le_of_ble_eq_true rfl))⟩) hS (fun x690 u688 H locs w689 hG hS => ?_)
  obtain ⟨Γ691, g692⟩ := u688
  dsimp only at w689 hG
  obtain ⟨hx693, hU, eu696⟩ := w689
  rw [eu696] at hG
  have hX697 : ext Γ Γ691 := ext.trans ext.rf hx693
  replace t_q25 : ty Γ691 q25 25 := hx693.one t_q25 (by decide)
  replace t_q12 : ty Γ691 q12 30 := hx693.one t_q12 (by decide)
  replace t_q1 : ty Γ691 q1 1 := hx693.one t_q1 (by decide)
  refine lv_pop hx hb dL_law_580 rfl ?_
  refine lv_aload_n hx hb dL_law_581 rfl (lv_at hl 2 rfl) ?_
  refine lv_aload_n hx hb dL_law_582 rfl (lv_at hl 4 rfl) ?_
  refine lv_iload hx hb dL_law_583 (lv_at hl 0 rfl) ?_
  refine ty_iconst hx hb (1) dL_law_585 (by decide) (fun x698 h699 => ?_)
  refine ty_iadd hx hb dL_law_586 (fun x700 h701 => ?_)
  have h702 := lw_ix (k := 1) h699 h701 hi0 hiL hLN (by decide)
  refine va_sld hx hb hXs hbl hbA hS (i := x700) (ty_ix h702.2) dL_law_587 ?_
  refine W.eq (g2 := F0 m 588 ls [.int (xs (i.toInt.toNat + 1)), .ref q12]) (by rw [lw_xs (xs := xs) h702.1 hi0.1]) ?_
  clear h702 h701 h699
  refine W.eq (g2 := F0 m 588 ls [.int x658, .ref q12]) (by rw [s659]) ?_
  refine lv_aload_n hx hb dL_law_588 rfl (lv_at hl 4 rfl) ?_
  refine lv_iload hx hb dL_law_589 (lv_at hl 0 rfl) ?_
  refine ty_iconst hx hb (2) dL_law_591 (by decide) (fun x703 h704 => ?_)
  refine ty_iadd hx hb dL_law_592 (fun x705 h706 => ?_)
  have h707 := lw_ix (k := 2) h704 h706 hi0 hiL hLN (by decide)
  refine va_sld hx hb hXs hbl hbA hS (i := x705) (ty_ix h707.2) dL_law_593 ?_
  refine W.eq (g2 := F0 m 594 ls [.int (xs (i.toInt.toNat + 2)), .int x658, .ref q12]) (by rw [lw_xs (xs := xs) h707.1 hi0.1]) ?_
  clear h707 h706 h704
  refine W.eq (g2 := F0 m 594 ls [.int x665, .int x658, .ref q12]) (by rw [s666]) ?_
  refine lv_aload_n hx hb dL_law_594 rfl (lv_at hl 4 rfl) ?_
  refine lv_iload hx hb dL_law_595 (lv_at hl 0 rfl) ?_
  refine ty_iconst hx hb (3) dL_law_597 (by decide) (fun x708 h709 => ?_)
  refine ty_iadd hx hb dL_law_598 (fun x710 h711 => ?_)
  have h712 := lw_ix (k := 3) h709 h711 hi0 hiL hLN (by decide)
  refine va_sld hx hb hXs hbl hbA hS (i := x710) (ty_ix h712.2) dL_law_599 ?_
  refine W.eq (g2 := F0 m 600 ls [.int (xs (i.toInt.toNat + 3)), .int x665, .int x658, .ref q12]) (by rw [lw_xs (xs := xs) h712.1 hi0.1]) ?_
  clear h712 h711 h709
  refine W.eq (g2 := F0 m 600 ls [.int x672, .int x665, .int x658, .ref q12]) (by rw [s673]) ?_
  refine lv_aload_n hx hb dL_law_600 rfl (lv_at hl 4 rfl) ?_
  refine lv_iload hx hb dL_law_601 (lv_at hl 0 rfl) ?_
  refine ty_iconst hx hb (4) dL_law_603 (by decide) (fun x713 h714 => ?_)
  refine ty_iadd hx hb dL_law_604 (fun x715 h716 => ?_)
  have h717 := lw_ix (k := 4) h714 h716 hi0 hiL hLN (by decide)
  refine va_sld hx hb hXs hbl hbA hS (i := x715) (ty_ix h717.2) dL_law_605 ?_
  refine W.eq (g2 := F0 m 606 ls [.int (xs (i.toInt.toNat + 4)), .int x672, .int x665, .int x658, .ref q12]) (by rw [lw_xs (xs := xs) h717.1 hi0.1]) ?_
  clear h717 h716 h714
  refine W.eq (g2 := F0 m 606 ls [.int x679, .int x672, .int x665, .int x658, .ref q12]) (by rw [s680]) ?_
  refine lv_aload_n hx hb dL_law_606 rfl (lv_at hl 4 rfl) ?_
  refine lv_iload hx hb dL_law_607 (lv_at hl 0 rfl) ?_
  refine ty_iconst hx hb (5) dL_law_609 (by decide) (fun x718 h719 => ?_)
  refine ty_iadd hx hb dL_law_610 (fun x720 h721 => ?_)
  have h722 := lw_ix (k := 5) h719 h721 hi0 hiL hLN (by decide)
  refine va_sld hx hb hXs hbl hbA hS (i := x720) (ty_ix h722.2) dL_law_611 ?_
  refine W.eq (g2 := F0 m 612 ls [.int (xs (i.toInt.toNat + 5)), .int x679, .int x672, .int x665, .int x658, .ref q12]) (by rw [lw_xs (xs := xs) h722.1 hi0.1]) ?_
  clear h722 h721 h719
  refine W.eq (g2 := F0 m 612 ls [.int x686, .int x679, .int x672, .int x665, .int x658, .ref q12]) (by rw [s687]) ?_
  refine cI (va_runV (C := RX9) (As := [.int x658, .int x665, .int x672, .int x679, .int x686]) (rest := []) ⟨hx, hb, hml, hown, hA⟩ (k_X9_rushWish l dC dI dA sz X Γ691 hU g q12 t_q12 x658 x665 x672 x679 x686   (by first | with_reducible assumption | omega)) ⟨callB_of 5 hA (al_A wd_5_144) rfl rfl rfl (hA _ wd_1_7) (hA _ wd_5_141) (by decide +kernel) ⟨Nat.le_of_ble_eq_true rfl, Nat.le_of_ble_eq_true rfl⟩, hA _ wd_5_142, hA _ wd_5_143⟩ ⟨bl, recv_X9 hE hG t_q12, fun U hU9 hW9 => ⟨rfl, by rw [hU9]; exact hG, hE.go hS hU9 hW9⟩⟩ rfl rfl hl.1 rfl (lv_room (Nat.le_of_ble_eq_true rfl)) dL_law_612 ⟨(Nat.le_trans (show (kc + 1) + 0 ≤ 300000 by omega) (Nat.le_of_ble_eq_true rfl)), (Nat.le_trans (show (ks + 4) + 0 ≤ 300000 by omega) (Nat.le_of_ble_eq_true rfl))⟩) hS (fun x725 u723 H locs w724 hG hS => ?_)
  have hf726 := w724
  have hj727 : IJ u723 := IJ_cg (hf726 126 0 (by decide) (by decide)) (fun j => hf726 132 j (by decide) (by decide)) (fun j => hf726 134 j (by decide) (by decide)) (by (repeat (first | with_reducible assumption | (refine IJ_c (by decide) (by decide) (by decide) ?_) | (refine IJ_take (by omega) (by omega) ?_) | (refine IJ_how (by omega) ?_) | (refine IJ_by (by omega) ?_))))
  refine lv_pop hx hb dL_law_615 rfl ?_
  refine lv_goto (tgt := 1047) hx hb dL_law_616 (by decide) ?_
  obtain ⟨x728, h729⟩ : ∃ y : Int32, y = i + Int32.ofInt (6) := ⟨_, rfl⟩
  try have h730 : x728.toInt = i.toInt + (6) := ty_inc h729 (by decide) (by omega) (by omega)
  refine lv_iinc (v := x728) (lv' := [(4, .int x728), (3, .ref q25), (2, .ref q12), (1, .ref q1), (0, .ref b)]) hx hb dL_law_1047 hl (k := 0) rfl h729.symm (by decide) rfl (fun ls hl => ?_)
  refine lv_goto (tgt := 23) hx hb dL_law_1050 (by decide) ?_
  have hk731 : u723 4 0 = g 4 0 := hf726 4 0 (by decide) (by decide)
  exact ih x728 Γ691 u723 ((kc + 1)) ((ks + 4)) _ _ ls (by omega) (by omega) (by rw [hf726 1 0 (by decide) (by decide), hf726 33 0 (by decide) (by decide)]; exact hi1) (by rw [hf726 2 0 (by decide) (by decide), hf726 34 0 (by decide) (by decide)]; exact hi2) (by rw [hf726 3 0 (by decide) (by decide), hf726 35 0 (by decide) (by decide)]; exact hi3) (by rw [hf726 5 0 (by decide) (by decide)]; exact hi4) (by omega) (by rw [hf726 6 0 (by decide) (by decide)]; exact hi6) (by rw [hf726 7 0 (by decide) (by decide), hf726 36 0 (by decide) (by decide)]; exact hi7) (by rw [hf726 101 0 (by decide) (by decide), hf726 1 0 (by decide) (by decide)]; exact hi8) (by rw [hf726 104 0 (by decide) (by decide), hf726 2 0 (by decide) (by decide)]; exact hi9) (by rw [hf726 112 0 (by decide) (by decide), hf726 5 0 (by decide) (by decide)]; exact hi10) (by rw [hf726 111 0 (by decide) (by decide), hf726 4 0 (by decide) (by decide)]; exact hi11) (by rw [hf726 114 0 (by decide) (by decide), hf726 6 0 (by decide) (by decide)]; exact hi12) (by rw [hf726 126 0 (by decide) (by decide)]; exact hi13) (by rw [hf726 122 0 (by decide) (by decide)]; exact hi14) (by rw [hf726 14 0 (by decide) (by decide), hf726 121 0 (by decide) (by decide)]; exact hi15) (by rw [hf726 18 0 (by decide) (by decide), hf726 118 0 (by decide) (by decide)]; exact hi16) (by (repeat (first | with_reducible assumption | (refine IJ_c (by decide) (by decide) (by decide) ?_) | (refine IJ_take (by omega) (by omega) ?_) | (refine IJ_how (by omega) ?_) | (refine IJ_by (by omega) ?_)))) (funext fun j => by show u723 113 j % 256 = u723 19 j; rw [hf726 113 j (by decide) (by decide), hf726 19 j (by decide) (by decide)]; exact congrFun hTE j) hU t_q1 t_q12 t_q25 (by omega) (by omega) hG hS (lv_sub hl [0, 1, 2, 3, 4] rfl)
set_option maxHeartbeats 40000000 in
set_option maxRecDepth 100000 in
/-- the law's case 11 -/
theorem law_c11 {p : Program} {e : Env} {s : State} {m : MethodId} {below : List Frame} {meth : Method} {c : Code} (l : Launch) (hl9 : l.stackTraces = false) {b L : Nat} {xs : Nat → Int32} (hLN : L ≤ 3072) (hx : p.tables.exec = Jvm.exec) (hb : c.code = code) (hr : meth.sig.returnType = ret) (hml : c.maxLocals = 7) (hown : s.vm.findClass R_law = some m.cls) (hA : ∀ w ∈ AL, w.before #[Value.ref b] s = true) (hXs : va_X b L xs s s.heap) (hbl : b < s.heap.size) (hlocks : meth.locks = false) {dC : Nat → ClassId} {dI : Nat → Nat → Nat} {dA : Nat → ClassId} {sz : Nat} (hE : en dC dI dA sz s) (hsz : sz = s.heap.size) (hbA : ¬ ty_A sz b) (X : va_W) (q1 q12 q25 : Nat) (n : Nat) (ih : LJ p l e s m below meth c b dC dI dA sz X q1 q12 q25 n) (i : Int32) (Γ : ty_G) (g : gh) (kc ks : Nat) (H : Heap) (locs : List Loc) (ls : Array Slot) (hm : (3073 - i.toInt : Int) < (n + 1 : Nat)) (hi0 : 0 ≤ i.toInt ∧ i.toInt ≤ 3072) (hi1 : g 1 0 = g 33 0 ∧ 0 ≤ g 1 0 ∧ g 1 0 ≤ 6) (hi2 : g 2 0 = g 34 0 ∧ 0 ≤ g 2 0 ∧ g 2 0 ≤ 10) (hi3 : g 3 0 = g 35 0 ∧ 0 ≤ g 3 0 ∧ g 3 0 ≤ 200) (hi4 : 0 ≤ g 5 0 ∧ g 5 0 ≤ 52) (hi5 : 0 ≤ g 4 0 ∧ g 4 0 ≤ i.toInt) (hi6 : 0 ≤ g 6 0 ∧ g 6 0 ≤ 300) (hi7 : 0 ≤ g 7 0 ∧ g 7 0 ≤ g 36 0 ∧ g 36 0 ≤ 9) (hi8 : g 101 0 = g 1 0) (hi9 : g 104 0 = g 2 0) (hi10 : g 112 0 = g 5 0) (hi11 : g 111 0 = g 4 0) (hi12 : g 114 0 = g 6 0) (hi13 : 0 ≤ g 126 0 ∧ g 126 0 ≤ 200) (hi14 : 0 ≤ g 122 0 ∧ g 122 0 ≤ 30) (hi15 : g 14 0 = g 121 0) (hi16 : g 18 0 = g 118 0) (hIJ : IJ g) (hTE : pz_t g = g 19) (hU : Un Γ) (t_q1 : ty Γ q1 1) (t_q12 : ty Γ q12 30) (t_q25 : ty Γ q25 25) (hkc : kc ≤ 300 + i.toInt.toNat) (hks : ks ≤ 30000 + 28 * i.toInt.toNat) (hG : ty_ok (dC, dI) vwCl Γ (TP dA Γ g) sz X H) (hS : va_S (ty_A sz) s.heap H locs) (hl : lv_has ls 7 [(4, .int i), (3, .ref q25), (2, .ref q12), (1, .ref q1), (0, .ref b)]) (hiL : i.toInt + 6 ≤ (L : Int)) : W p l e room_1 s m #[Value.ref b] below meth c H locs kc ks (lw_Z below #[Value.ref b] s) (F0 m 619 ls []) := by
  refine lv_aload_n hx hb dL_law_619 rfl (lv_at hl 3 rfl) ?_
  refine lv_aload_n hx hb dL_law_620 rfl (lv_at hl 4 rfl) ?_
  refine lv_iload hx hb dL_law_621 (lv_at hl 0 rfl) ?_
  refine ty_iconst hx hb (1) dL_law_623 (by decide) (fun x732 h733 => ?_)
  refine ty_iadd hx hb dL_law_624 (fun x734 h735 => ?_)
  have h736 := lw_ix (k := 1) h733 h735 hi0 hiL hLN (by decide)
  refine va_sld hx hb hXs hbl hbA hS (i := x734) (ty_ix h736.2) dL_law_625 ?_
  refine W.eq (g2 := F0 m 626 ls [.int (xs (i.toInt.toNat + 1)), .ref q1]) (by rw [lw_xs (xs := xs) h736.1 hi0.1]) ?_
  clear h736 h735 h733
  refine lv_topi (fun x737 s738 => ?_)
  refine cI (va_runV (C := RX8) (As := [.int x737]) (rest := []) ⟨hx, hb, hml, hown, hA⟩ (k_X8_rings l dC dI dA sz X Γ hU g q1 t_q1 x737   (by first | with_reducible assumption | omega) (by first | with_reducible assumption | omega)) ⟨callB_of 1 hA (al_A wd_3_110) rfl rfl rfl (hA _ wd_1_1) (hA _ wd_3_107) (by decide +kernel) ⟨Nat.le_of_ble_eq_true rfl, Nat.le_of_ble_eq_true rfl⟩, hA _ wd_3_108, hA _ wd_3_109⟩ ⟨bl, recv_X8 hE hG t_q1, fun U hU9 hW9 => ⟨rfl, by rw [hU9]; exact hG, hE.go hS hU9 hW9⟩⟩ rfl rfl hl.1 rfl (lv_room (Nat.le_of_ble_eq_true rfl)) dL_law_626 ⟨(Nat.le_trans (show kc + 0 ≤ 300000 by omega) (Nat.le_of_ble_eq_true rfl)), (Nat.le_trans (show ks + 0 ≤ 300000 by omega) (Nat.le_of_ble_eq_true rfl))⟩) hS (fun x741 u739 H locs w740 hG hS => ?_)
  obtain ⟨hf742, w740⟩ := w740
  have hj743 : IJ u739 := IJ_cg (hf742 126 0 (by decide) (by decide) (by decide)) (fun j => hf742 132 j (by decide) (by decide) (by decide)) (fun j => hf742 134 j (by decide) (by decide) (by decide)) (by (repeat (first | with_reducible assumption | (refine IJ_c (by decide) (by decide) (by decide) ?_) | (refine IJ_take (by omega) (by omega) ?_) | (refine IJ_how (by omega) ?_) | (refine IJ_by (by omega) ?_))))
  refine lv_pop hx hb dL_law_629 rfl ?_
  refine lv_aload_n hx hb dL_law_630 rfl (lv_at hl 2 rfl) ?_
  refine lv_aload_n hx hb dL_law_631 rfl (lv_at hl 4 rfl) ?_
  refine lv_iload hx hb dL_law_632 (lv_at hl 0 rfl) ?_
  refine ty_iconst hx hb (1) dL_law_634 (by decide) (fun x744 h745 => ?_)
  refine ty_iadd hx hb dL_law_635 (fun x746 h747 => ?_)
  have h748 := lw_ix (k := 1) h745 h747 hi0 hiL hLN (by decide)
  refine va_sld hx hb hXs hbl hbA hS (i := x746) (ty_ix h748.2) dL_law_636 ?_
  refine W.eq (g2 := F0 m 637 ls [.int (xs (i.toInt.toNat + 1)), .ref q12]) (by rw [lw_xs (xs := xs) h748.1 hi0.1]) ?_
  clear h748 h747 h745
  refine W.eq (g2 := F0 m 637 ls [.int x737, .ref q12]) (by rw [s738]) ?_
  have hk749 : u739 126 0 = g 126 0 := hf742 126 0 (by decide) (by decide) (by decide)
  refine cI (va_runV (C := RX9) (As := [.int x737]) (rest := []) ⟨hx, hb, hml, hown, hA⟩ (k_X9_rings l dC dI dA sz X Γ hU u739 q12 t_q12 x737   (by first | with_reducible assumption | omega) (by (repeat (first | with_reducible assumption | (refine IJ_c (by decide) (by decide) (by decide) ?_) | (refine IJ_take (by omega) (by omega) ?_) | (refine IJ_how (by omega) ?_) | (refine IJ_by (by omega) ?_))))) ⟨callB_of 1 hA (al_A wd_5_148) rfl rfl rfl (hA _ wd_1_7) (hA _ wd_5_145) (by decide +kernel) ⟨Nat.le_of_ble_eq_true rfl, Nat.le_of_ble_eq_true rfl⟩, hA _ wd_5_146, hA _ wd_5_147⟩ ⟨bl, recv_X9 hE hG t_q12, fun U hU9 hW9 => ⟨rfl, by rw [hU9]; exact hG, hE.go hS hU9 hW9⟩⟩ rfl rfl hl.1 rfl (lv_room (Nat.le_of_ble_eq_true rfl)) dL_law_637 ⟨(Nat.le_trans (show kc + 0 ≤ 300000 by omega) (Nat.le_of_ble_eq_true rfl)), (Nat.le_trans (show ks + 0 ≤ 300000 by omega) (Nat.le_of_ble_eq_true rfl))⟩) hS (fun x752 u750 H locs w751 hG hS => ?_)
  obtain ⟨hf754, hq753⟩ := w751
  refine lv_pop hx hb dL_law_640 rfl ?_
  refine lv_goto (tgt := 1047) hx hb dL_law_641 (by decide) ?_
  obtain ⟨x755, h756⟩ : ∃ y : Int32, y = i + Int32.ofInt (6) := ⟨_, rfl⟩
  try have h757 : x755.toInt = i.toInt + (6) := ty_inc h756 (by decide) (by omega) (by omega)
  refine lv_iinc (v := x755) (lv' := [(4, .int x755), (3, .ref q25), (2, .ref q12), (1, .ref q1), (0, .ref b)]) hx hb dL_law_1047 hl (k := 0) rfl h756.symm (by decide) rfl (fun ls hl => ?_)
  refine lv_goto (tgt := 23) hx hb dL_law_1050 (by decide) ?_
  have hk758 : u750 4 0 = u739 4 0 := hf754 4 0 (by decide) (by decide) (by decide) (by decide) (by decide) (by decide) (by decide) (by decide) (by decide) (by decide) (by decide) (by decide)
  have hk759 : u739 4 0 = g 4 0 := hf742 4 0 (by decide) (by decide) (by decide)
  have hk760 : u750 7 0 = u739 7 0 := hf754 7 0 (by decide) (by decide) (by decide) (by decide) (by decide) (by decide) (by decide) (by decide) (by decide) (by decide) (by decide) (by decide)
  have hk761 : u750 36 0 = u739 36 0 := hf754 36 0 (by decide) (by decide) (by decide) (by decide) (by decide) (by decide) (by decide) (by decide) (by decide) (by decide) (by decide) (by decide)
  exact ih x755 Γ u750 (kc) (ks) _ _ ls (by omega) (by omega) (by rw [hf754 1 0 (by decide) (by decide) (by decide) (by decide) (by decide) (by decide) (by decide) (by decide) (by decide) (by decide) (by decide) (by decide), hf742 1 0 (by decide) (by decide) (by decide), hf754 33 0 (by decide) (by decide) (by decide) (by decide) (by decide) (by decide) (by decide) (by decide) (by decide) (by decide) (by decide) (by decide), hf742 33 0 (by decide) (by decide) (by decide)]; exact hi1) (by rw [hf754 2 0 (by decide) (by decide) (by decide) (by decide) (by decide) (by decide) (by decide) (by decide) (by decide) (by decide) (by decide) (by decide), hf742 2 0 (by decide) (by decide) (by decide), hf754 34 0 (by decide) (by decide) (by decide) (by decide) (by decide) (by decide) (by decide) (by decide) (by decide) (by decide) (by decide) (by decide), hf742 34 0 (by decide) (by decide) (by decide)]; exact hi2) (by rw [hf754 3 0 (by decide) (by decide) (by decide) (by decide) (by decide) (by decide) (by decide) (by decide) (by decide) (by decide) (by decide) (by decide), hf742 3 0 (by decide) (by decide) (by decide), hf754 35 0 (by decide) (by decide) (by decide) (by decide) (by decide) (by decide) (by decide) (by decide) (by decide) (by decide) (by decide) (by decide), hf742 35 0 (by decide) (by decide) (by decide)]; exact hi3) (by rw [hf754 5 0 (by decide) (by decide) (by decide) (by decide) (by decide) (by decide) (by decide) (by decide) (by decide) (by decide) (by decide) (by decide), hf742 5 0 (by decide) (by decide) (by decide)]; exact hi4) (by omega) (by rw [hf754 6 0 (by decide) (by decide) (by decide) (by decide) (by decide) (by decide) (by decide) (by decide) (by decide) (by decide) (by decide) (by decide), hf742 6 0 (by decide) (by decide) (by decide)]; exact hi6) (by omega) (by rw [hf754 101 0 (by decide) (by decide) (by decide) (by decide) (by decide) (by decide) (by decide) (by decide) (by decide) (by decide) (by decide) (by decide), hf742 101 0 (by decide) (by decide) (by decide), hf754 1 0 (by decide) (by decide) (by decide) (by decide) (by decide) (by decide) (by decide) (by decide) (by decide) (by decide) (by decide) (by decide), hf742 1 0 (by decide) (by decide) (by decide)]; exact hi8) (by rw [hf754 104 0 (by decide) (by decide) (by decide) (by decide) (by decide) (by decide) (by decide) (by decide) (by decide) (by decide) (by decide) (by decide), hf742 104 0 (by decide) (by decide) (by decide), hf754 2 0 (by decide) (by decide) (by decide) (by decide) (by decide) (by decide) (by decide) (by decide) (by decide) (by decide) (by decide) (by decide), hf742 2 0 (by decide) (by decide) (by decide)]; exact hi9) (by rw [hf754 112 0 (by decide) (by decide) (by decide) (by decide) (by decide) (by decide) (by decide) (by decide) (by decide) (by decide) (by decide) (by decide), hf742 112 0 (by decide) (by decide) (by decide), hf754 5 0 (by decide) (by decide) (by decide) (by decide) (by decide) (by decide) (by decide) (by decide) (by decide) (by decide) (by decide) (by decide), hf742 5 0 (by decide) (by decide) (by decide)]; exact hi10) (by rw [hf754 111 0 (by decide) (by decide) (by decide) (by decide) (by decide) (by decide) (by decide) (by decide) (by decide) (by decide) (by decide) (by decide), hf742 111 0 (by decide) (by decide) (by decide), hf754 4 0 (by decide) (by decide) (by decide) (by decide) (by decide) (by decide) (by decide) (by decide) (by decide) (by decide) (by decide) (by decide), hf742 4 0 (by decide) (by decide) (by decide)]; exact hi11) (by rw [hf754 114 0 (by decide) (by decide) (by decide) (by decide) (by decide) (by decide) (by decide) (by decide) (by decide) (by decide) (by decide) (by decide), hf742 114 0 (by decide) (by decide) (by decide), hf754 6 0 (by decide) (by decide) (by decide) (by decide) (by decide) (by decide) (by decide) (by decide) (by decide) (by decide) (by decide) (by decide), hf742 6 0 (by decide) (by decide) (by decide)]; exact hi12) (by rw [hf754 126 0 (by decide) (by decide) (by decide) (by decide) (by decide) (by decide) (by decide) (by decide) (by decide) (by decide) (by decide) (by decide), hf742 126 0 (by decide) (by decide) (by decide)]; exact hi13) (by rw [hf754 122 0 (by decide) (by decide) (by decide) (by decide) (by decide) (by decide) (by decide) (by decide) (by decide) (by decide) (by decide) (by decide), hf742 122 0 (by decide) (by decide) (by decide)]; exact hi14) (by rw [hf754 14 0 (by decide) (by decide) (by decide) (by decide) (by decide) (by decide) (by decide) (by decide) (by decide) (by decide) (by decide) (by decide), hf742 14 0 (by decide) (by decide) (by decide), hf754 121 0 (by decide) (by decide) (by decide) (by decide) (by decide) (by decide) (by decide) (by decide) (by decide) (by decide) (by decide) (by decide), hf742 121 0 (by decide) (by decide) (by decide)]; exact hi15) (by rw [hf754 18 0 (by decide) (by decide) (by decide) (by decide) (by decide) (by decide) (by decide) (by decide) (by decide) (by decide) (by decide) (by decide), hf742 18 0 (by decide) (by decide) (by decide), hf754 118 0 (by decide) (by decide) (by decide) (by decide) (by decide) (by decide) (by decide) (by decide) (by decide) (by decide) (by decide) (by decide), hf742 118 0 (by decide) (by decide) (by decide)]; exact hi16) (by (repeat (first | with_reducible assumption | (refine IJ_c (by decide) (by decide) (by decide) ?_) | (refine IJ_take (by omega) (by omega) ?_) | (refine IJ_how (by omega) ?_) | (refine IJ_by (by omega) ?_)))) (funext fun j => by show u750 113 j % 256 = u750 19 j; rw [hf754 113 j (by decide) (by decide) (by decide) (by decide) (by decide) (by decide) (by decide) (by decide) (by decide) (by decide) (by decide) (by decide), hf742 113 j (by decide) (by decide) (by decide), hf754 19 j (by decide) (by decide) (by decide) (by decide) (by decide) (by decide) (by decide) (by decide) (by decide) (by decide) (by decide) (by decide), hf742 19 j (by decide) (by decide) (by decide)]; exact congrFun hTE j) hU t_q1 t_q12 t_q25 (by omega) (by omega) hG hS (lv_sub hl [0, 1, 2, 3, 4] rfl)
set_option maxHeartbeats 40000000 in
set_option maxRecDepth 100000 in
/-- the law's case 12 -/
theorem law_c12 {p : Program} {e : Env} {s : State} {m : MethodId} {below : List Frame} {meth : Method} {c : Code} (l : Launch) (hl9 : l.stackTraces = false) {b L : Nat} {xs : Nat → Int32} (hLN : L ≤ 3072) (hx : p.tables.exec = Jvm.exec) (hb : c.code = code) (hr : meth.sig.returnType = ret) (hml : c.maxLocals = 7) (hown : s.vm.findClass R_law = some m.cls) (hA : ∀ w ∈ AL, w.before #[Value.ref b] s = true) (hXs : va_X b L xs s s.heap) (hbl : b < s.heap.size) (hlocks : meth.locks = false) {dC : Nat → ClassId} {dI : Nat → Nat → Nat} {dA : Nat → ClassId} {sz : Nat} (hE : en dC dI dA sz s) (hsz : sz = s.heap.size) (hbA : ¬ ty_A sz b) (X : va_W) (q1 q12 q25 : Nat) (n : Nat) (ih : LJ p l e s m below meth c b dC dI dA sz X q1 q12 q25 n) (i : Int32) (Γ : ty_G) (g : gh) (kc ks : Nat) (H : Heap) (locs : List Loc) (ls : Array Slot) (hm : (3073 - i.toInt : Int) < (n + 1 : Nat)) (hi0 : 0 ≤ i.toInt ∧ i.toInt ≤ 3072) (hi1 : g 1 0 = g 33 0 ∧ 0 ≤ g 1 0 ∧ g 1 0 ≤ 6) (hi2 : g 2 0 = g 34 0 ∧ 0 ≤ g 2 0 ∧ g 2 0 ≤ 10) (hi3 : g 3 0 = g 35 0 ∧ 0 ≤ g 3 0 ∧ g 3 0 ≤ 200) (hi4 : 0 ≤ g 5 0 ∧ g 5 0 ≤ 52) (hi5 : 0 ≤ g 4 0 ∧ g 4 0 ≤ i.toInt) (hi6 : 0 ≤ g 6 0 ∧ g 6 0 ≤ 300) (hi7 : 0 ≤ g 7 0 ∧ g 7 0 ≤ g 36 0 ∧ g 36 0 ≤ 9) (hi8 : g 101 0 = g 1 0) (hi9 : g 104 0 = g 2 0) (hi10 : g 112 0 = g 5 0) (hi11 : g 111 0 = g 4 0) (hi12 : g 114 0 = g 6 0) (hi13 : 0 ≤ g 126 0 ∧ g 126 0 ≤ 200) (hi14 : 0 ≤ g 122 0 ∧ g 122 0 ≤ 30) (hi15 : g 14 0 = g 121 0) (hi16 : g 18 0 = g 118 0) (hIJ : IJ g) (hTE : pz_t g = g 19) (hU : Un Γ) (t_q1 : ty Γ q1 1) (t_q12 : ty Γ q12 30) (t_q25 : ty Γ q25 25) (hkc : kc ≤ 300 + i.toInt.toNat) (hks : ks ≤ 30000 + 28 * i.toInt.toNat) (hG : ty_ok (dC, dI) vwCl Γ (TP dA Γ g) sz X H) (hS : va_S (ty_A sz) s.heap H locs) (hl : lv_has ls 7 [(4, .int i), (3, .ref q25), (2, .ref q12), (1, .ref q1), (0, .ref b)]) (hiL : i.toInt + 6 ≤ (L : Int)) : W p l e room_1 s m #[Value.ref b] below meth c H locs kc ks (lw_Z below #[Value.ref b] s) (F0 m 644 ls []) := by
  refine lv_aload_n hx hb dL_law_644 rfl (lv_at hl 3 rfl) ?_
  refine lv_aload_n hx hb dL_law_645 rfl (lv_at hl 4 rfl) ?_
  refine lv_iload hx hb dL_law_646 (lv_at hl 0 rfl) ?_
  refine ty_iconst hx hb (1) dL_law_648 (by decide) (fun x762 h763 => ?_)
  refine ty_iadd hx hb dL_law_649 (fun x764 h765 => ?_)
  have h766 := lw_ix (k := 1) h763 h765 hi0 hiL hLN (by decide)
  refine va_sld hx hb hXs hbl hbA hS (i := x764) (ty_ix h766.2) dL_law_650 ?_
  refine W.eq (g2 := F0 m 651 ls [.int (xs (i.toInt.toNat + 1)), .ref q1]) (by rw [lw_xs (xs := xs) h766.1 hi0.1]) ?_
  clear h766 h765 h763
  refine lv_topi (fun x767 s768 => ?_)
  refine cI (va_runV (C := RX8) (As := [.int x767]) (rest := []) ⟨hx, hb, hml, hown, hA⟩ (k_X8_bank l dC dI dA sz X Γ hU g q1 t_q1 x767   (by first | with_reducible assumption | omega)) ⟨callB_of 1 hA (al_A wd_3_186) rfl rfl rfl (hA _ wd_1_1) (hA _ wd_3_183) (by decide +kernel) ⟨Nat.le_of_ble_eq_true rfl, Nat.le_of_ble_eq_true rfl⟩, hA _ wd_3_184, hA _ wd_3_185⟩ ⟨bl, recv_X8 hE hG t_q1, fun U hU9 hW9 => ⟨rfl, by rw [hU9]; exact hG, hE.go hS hU9 hW9⟩⟩ rfl rfl hl.1 rfl (lv_room (Nat.le_of_ble_eq_true rfl)) dL_law_651 ⟨(Nat.le_trans (show kc + 0 ≤ 300000 by omega) (Nat.le_of_ble_eq_true rfl)), (Nat.le_trans (show ks + 0 ≤ 300000 by omega) (Nat.le_of_ble_eq_true rfl))⟩) hS (fun x771 u769 H locs w770 hG hS => ?_)
  have eu772 := w770
  rw [eu772] at hG
  refine lv_pop hx hb dL_law_654 rfl ?_
  refine lv_aload_n hx hb dL_law_655 rfl (lv_at hl 2 rfl) ?_
  refine lv_aload_n hx hb dL_law_656 rfl (lv_at hl 4 rfl) ?_
  refine lv_iload hx hb dL_law_657 (lv_at hl 0 rfl) ?_
  refine ty_iconst hx hb (1) dL_law_659 (by decide) (fun x773 h774 => ?_)
  refine ty_iadd hx hb dL_law_660 (fun x775 h776 => ?_)
  have h777 := lw_ix (k := 1) h774 h776 hi0 hiL hLN (by decide)
  refine va_sld hx hb hXs hbl hbA hS (i := x775) (ty_ix h777.2) dL_law_661 ?_
  refine W.eq (g2 := F0 m 662 ls [.int (xs (i.toInt.toNat + 1)), .ref q12]) (by rw [lw_xs (xs := xs) h777.1 hi0.1]) ?_
  clear h777 h776 h774
  refine W.eq (g2 := F0 m 662 ls [.int x767, .ref q12]) (by rw [s768]) ?_
  refine cI (va_runV (C := RX9) (As := [.int x767]) (rest := []) ⟨hx, hb, hml, hown, hA⟩ (k_X9_bank l dC dI dA sz X Γ hU g q12 t_q12 x767   (by first | with_reducible assumption | omega) (by (repeat (first | with_reducible assumption | (refine IJ_c (by decide) (by decide) (by decide) ?_) | (refine IJ_take (by omega) (by omega) ?_) | (refine IJ_how (by omega) ?_) | (refine IJ_by (by omega) ?_))))) ⟨callB_of 1 hA (al_A wd_5_168) rfl rfl rfl (hA _ wd_1_7) (hA _ wd_5_165) (by decide +kernel) ⟨Nat.le_of_ble_eq_true rfl, Nat.le_of_ble_eq_true rfl⟩, hA _ wd_5_166, hA _ wd_5_167⟩ ⟨bl, recv_X9 hE hG t_q12, fun U hU9 hW9 => ⟨rfl, by rw [hU9]; exact hG, hE.go hS hU9 hW9⟩⟩ rfl rfl hl.1 rfl (lv_room (Nat.le_of_ble_eq_true rfl)) dL_law_662 ⟨(Nat.le_trans (show kc + 0 ≤ 300000 by omega) (Nat.le_of_ble_eq_true rfl)), (Nat.le_trans (show ks + 0 ≤ 300000 by omega) (Nat.le_of_ble_eq_true rfl))⟩) hS (fun x780 u778 H locs w779 hG hS => ?_)
  obtain ⟨hf782, hq781⟩ := w779
  refine lv_pop hx hb dL_law_665 rfl ?_
  refine lv_goto (tgt := 1047) hx hb dL_law_666 (by decide) ?_
  obtain ⟨x783, h784⟩ : ∃ y : Int32, y = i + Int32.ofInt (6) := ⟨_, rfl⟩
  try have h785 : x783.toInt = i.toInt + (6) := ty_inc h784 (by decide) (by omega) (by omega)
  refine lv_iinc (v := x783) (lv' := [(4, .int x783), (3, .ref q25), (2, .ref q12), (1, .ref q1), (0, .ref b)]) hx hb dL_law_1047 hl (k := 0) rfl h784.symm (by decide) rfl (fun ls hl => ?_)
  refine lv_goto (tgt := 23) hx hb dL_law_1050 (by decide) ?_
  have hk786 : u778 4 0 = g 4 0 := hf782 4 0 (by decide) (by decide) (by decide)
  exact ih x783 Γ u778 (kc) (ks) _ _ ls (by omega) (by omega) (by rw [hf782 1 0 (by decide) (by decide) (by decide), hf782 33 0 (by decide) (by decide) (by decide)]; exact hi1) (by rw [hf782 2 0 (by decide) (by decide) (by decide), hf782 34 0 (by decide) (by decide) (by decide)]; exact hi2) (by rw [hf782 3 0 (by decide) (by decide) (by decide), hf782 35 0 (by decide) (by decide) (by decide)]; exact hi3) (by rw [hf782 5 0 (by decide) (by decide) (by decide)]; exact hi4) (by omega) (by rw [hf782 6 0 (by decide) (by decide) (by decide)]; exact hi6) (by rw [hf782 7 0 (by decide) (by decide) (by decide), hf782 36 0 (by decide) (by decide) (by decide)]; exact hi7) (by rw [hf782 101 0 (by decide) (by decide) (by decide), hf782 1 0 (by decide) (by decide) (by decide)]; exact hi8) (by rw [hf782 104 0 (by decide) (by decide) (by decide), hf782 2 0 (by decide) (by decide) (by decide)]; exact hi9) (by rw [hf782 112 0 (by decide) (by decide) (by decide), hf782 5 0 (by decide) (by decide) (by decide)]; exact hi10) (by rw [hf782 111 0 (by decide) (by decide) (by decide), hf782 4 0 (by decide) (by decide) (by decide)]; exact hi11) (by rw [hf782 114 0 (by decide) (by decide) (by decide), hf782 6 0 (by decide) (by decide) (by decide)]; exact hi12) (by rw [hf782 126 0 (by decide) (by decide) (by decide)]; exact hi13) (by rw [hf782 122 0 (by decide) (by decide) (by decide)]; exact hi14) (by rw [hf782 14 0 (by decide) (by decide) (by decide), hf782 121 0 (by decide) (by decide) (by decide)]; exact hi15) (by rw [hf782 18 0 (by decide) (by decide) (by decide), hf782 118 0 (by decide) (by decide) (by decide)]; exact hi16) (by (repeat (first | with_reducible assumption | (refine IJ_c (by decide) (by decide) (by decide) ?_) | (refine IJ_take (by omega) (by omega) ?_) | (refine IJ_how (by omega) ?_) | (refine IJ_by (by omega) ?_)))) (funext fun j => by show u778 113 j % 256 = u778 19 j; rw [hf782 113 j (by decide) (by decide) (by decide), hf782 19 j (by decide) (by decide) (by decide)]; exact congrFun hTE j) hU t_q1 t_q12 t_q25 (by omega) (by omega) hG hS (lv_sub hl [0, 1, 2, 3, 4] rfl)
set_option maxHeartbeats 40000000 in
set_option maxRecDepth 100000 in
/-- the law's case 13 -/
theorem law_c13 {p : Program} {e : Env} {s : State} {m : MethodId} {below : List Frame} {meth : Method} {c : Code} (l : Launch) (hl9 : l.stackTraces = false) {b L : Nat} {xs : Nat → Int32} (hLN : L ≤ 3072) (hx : p.tables.exec = Jvm.exec) (hb : c.code = code) (hr : meth.sig.returnType = ret) (hml : c.maxLocals = 7) (hown : s.vm.findClass R_law = some m.cls) (hA : ∀ w ∈ AL, w.before #[Value.ref b] s = true) (hXs : va_X b L xs s s.heap) (hbl : b < s.heap.size) (hlocks : meth.locks = false) {dC : Nat → ClassId} {dI : Nat → Nat → Nat} {dA : Nat → ClassId} {sz : Nat} (hE : en dC dI dA sz s) (hsz : sz = s.heap.size) (hbA : ¬ ty_A sz b) (X : va_W) (q1 q12 q25 : Nat) (n : Nat) (ih : LJ p l e s m below meth c b dC dI dA sz X q1 q12 q25 n) (i : Int32) (Γ : ty_G) (g : gh) (kc ks : Nat) (H : Heap) (locs : List Loc) (ls : Array Slot) (hm : (3073 - i.toInt : Int) < (n + 1 : Nat)) (hi0 : 0 ≤ i.toInt ∧ i.toInt ≤ 3072) (hi1 : g 1 0 = g 33 0 ∧ 0 ≤ g 1 0 ∧ g 1 0 ≤ 6) (hi2 : g 2 0 = g 34 0 ∧ 0 ≤ g 2 0 ∧ g 2 0 ≤ 10) (hi3 : g 3 0 = g 35 0 ∧ 0 ≤ g 3 0 ∧ g 3 0 ≤ 200) (hi4 : 0 ≤ g 5 0 ∧ g 5 0 ≤ 52) (hi5 : 0 ≤ g 4 0 ∧ g 4 0 ≤ i.toInt) (hi6 : 0 ≤ g 6 0 ∧ g 6 0 ≤ 300) (hi7 : 0 ≤ g 7 0 ∧ g 7 0 ≤ g 36 0 ∧ g 36 0 ≤ 9) (hi8 : g 101 0 = g 1 0) (hi9 : g 104 0 = g 2 0) (hi10 : g 112 0 = g 5 0) (hi11 : g 111 0 = g 4 0) (hi12 : g 114 0 = g 6 0) (hi13 : 0 ≤ g 126 0 ∧ g 126 0 ≤ 200) (hi14 : 0 ≤ g 122 0 ∧ g 122 0 ≤ 30) (hi15 : g 14 0 = g 121 0) (hi16 : g 18 0 = g 118 0) (hIJ : IJ g) (hTE : pz_t g = g 19) (hU : Un Γ) (t_q1 : ty Γ q1 1) (t_q12 : ty Γ q12 30) (t_q25 : ty Γ q25 25) (hkc : kc ≤ 300 + i.toInt.toNat) (hks : ks ≤ 30000 + 28 * i.toInt.toNat) (hG : ty_ok (dC, dI) vwCl Γ (TP dA Γ g) sz X H) (hS : va_S (ty_A sz) s.heap H locs) (hl : lv_has ls 7 [(4, .int i), (3, .ref q25), (2, .ref q12), (1, .ref q1), (0, .ref b)]) (hiL : i.toInt + 6 ≤ (L : Int)) : W p l e room_1 s m #[Value.ref b] below meth c H locs kc ks (lw_Z below #[Value.ref b] s) (F0 m 669 ls []) := by
  refine lv_aload_n hx hb dL_law_669 rfl (lv_at hl 3 rfl) ?_
  refine lv_aload_n hx hb dL_law_670 rfl (lv_at hl 4 rfl) ?_
  refine lv_iload hx hb dL_law_671 (lv_at hl 0 rfl) ?_
  refine ty_iconst hx hb (1) dL_law_673 (by decide) (fun x787 h788 => ?_)
  refine ty_iadd hx hb dL_law_674 (fun x789 h790 => ?_)
  have h791 := lw_ix (k := 1) h788 h790 hi0 hiL hLN (by decide)
  refine va_sld hx hb hXs hbl hbA hS (i := x789) (ty_ix h791.2) dL_law_675 ?_
  refine W.eq (g2 := F0 m 676 ls [.int (xs (i.toInt.toNat + 1)), .ref q1]) (by rw [lw_xs (xs := xs) h791.1 hi0.1]) ?_
  clear h791 h790 h788
  refine lv_topi (fun x792 s793 => ?_)
  refine lv_aload_n hx hb dL_law_676 rfl (lv_at hl 4 rfl) ?_
  refine lv_iload hx hb dL_law_677 (lv_at hl 0 rfl) ?_
  refine ty_iconst hx hb (2) dL_law_679 (by decide) (fun x794 h795 => ?_)
  refine ty_iadd hx hb dL_law_680 (fun x796 h797 => ?_)
  have h798 := lw_ix (k := 2) h795 h797 hi0 hiL hLN (by decide)
  refine va_sld hx hb hXs hbl hbA hS (i := x796) (ty_ix h798.2) dL_law_681 ?_
  refine W.eq (g2 := F0 m 682 ls [.int (xs (i.toInt.toNat + 2)), .int x792, .ref q1]) (by rw [lw_xs (xs := xs) h798.1 hi0.1]) ?_
  clear h798 h797 h795
  refine lv_topi (fun x799 s800 => ?_)
  refine cI (va_runV (C := RX8) (As := [.int x792, .int x799]) (rest := []) ⟨hx, hb, hml, hown, hA⟩ (k_X8_take l dC dI dA sz X Γ hU g q1 t_q1 x792 x799   (by first | with_reducible assumption | omega) (by first | with_reducible assumption | omega)) ⟨callB_of 2 hA (al_A wd_3_190) rfl rfl rfl (hA _ wd_1_1) (hA _ wd_3_187) (by decide +kernel) ⟨Nat.le_of_ble_eq_true rfl, Nat.le_of_ble_eq_true rfl⟩, hA _ wd_3_188, hA _ wd_3_189⟩ ⟨bl, recv_X8 hE hG t_q1, fun U hU9 hW9 => ⟨rfl, by rw [hU9]; exact hG, hE.go hS hU9 hW9⟩⟩ rfl rfl hl.1 rfl (lv_room (Nat.le_of_ble_eq_true rfl)) dL_law_682 ⟨(Nat.le_trans (show kc + 0 ≤ 300000 by omega) (Nat.le_of_ble_eq_true rfl)), (Nat.le_trans (show ks + 0 ≤ 300000 by omega) (Nat.le_of_ble_eq_true rfl))⟩) hS (fun x803 u801 H locs w802 hG hS => ?_)
  have eu804 := w802
  rw [eu804] at hG
  refine lv_pop hx hb dL_law_685 rfl ?_
  refine lv_aload_n hx hb dL_law_686 rfl (lv_at hl 2 rfl) ?_
  refine lv_aload_n hx hb dL_law_687 rfl (lv_at hl 4 rfl) ?_
  refine lv_iload hx hb dL_law_688 (lv_at hl 0 rfl) ?_
  refine ty_iconst hx hb (1) dL_law_690 (by decide) (fun x805 h806 => ?_)
  refine ty_iadd hx hb dL_law_691 (fun x807 h808 => ?_)
  have h809 := lw_ix (k := 1) h806 h808 hi0 hiL hLN (by decide)
  refine va_sld hx hb hXs hbl hbA hS (i := x807) (ty_ix h809.2) dL_law_692 ?_
  refine W.eq (g2 := F0 m 693 ls [.int (xs (i.toInt.toNat + 1)), .ref q12]) (by rw [lw_xs (xs := xs) h809.1 hi0.1]) ?_
  clear h809 h808 h806
  refine W.eq (g2 := F0 m 693 ls [.int x792, .ref q12]) (by rw [s793]) ?_
  refine lv_aload_n hx hb dL_law_693 rfl (lv_at hl 4 rfl) ?_
  refine lv_iload hx hb dL_law_694 (lv_at hl 0 rfl) ?_
  refine ty_iconst hx hb (2) dL_law_696 (by decide) (fun x810 h811 => ?_)
  refine ty_iadd hx hb dL_law_697 (fun x812 h813 => ?_)
  have h814 := lw_ix (k := 2) h811 h813 hi0 hiL hLN (by decide)
  refine va_sld hx hb hXs hbl hbA hS (i := x812) (ty_ix h814.2) dL_law_698 ?_
  refine W.eq (g2 := F0 m 699 ls [.int (xs (i.toInt.toNat + 2)), .int x792, .ref q12]) (by rw [lw_xs (xs := xs) h814.1 hi0.1]) ?_
  clear h814 h813 h811
  refine W.eq (g2 := F0 m 699 ls [.int x799, .int x792, .ref q12]) (by rw [s800]) ?_
  refine cI (va_runV (C := RX9) (As := [.int x792, .int x799]) (rest := []) ⟨hx, hb, hml, hown, hA⟩ (k_X9_take l dC dI dA sz X Γ hU g q12 t_q12 x792 x799   (by first | with_reducible assumption | omega) (by first | with_reducible assumption | omega) (by (repeat (first | with_reducible assumption | (refine IJ_c (by decide) (by decide) (by decide) ?_) | (refine IJ_take (by omega) (by omega) ?_) | (refine IJ_how (by omega) ?_) | (refine IJ_by (by omega) ?_))))) ⟨callB_of 2 hA (al_A wd_5_172) rfl rfl rfl (hA _ wd_1_7) (hA _ wd_5_169) (by decide +kernel) ⟨Nat.le_of_ble_eq_true rfl, Nat.le_of_ble_eq_true rfl⟩, hA _ wd_5_170, hA _ wd_5_171⟩ ⟨bl, recv_X9 hE hG t_q12, fun U hU9 hW9 => ⟨rfl, by rw [hU9]; exact hG, hE.go hS hU9 hW9⟩⟩ rfl rfl hl.1 rfl (lv_room (Nat.le_of_ble_eq_true rfl)) dL_law_699 ⟨(Nat.le_trans (show kc + 0 ≤ 300000 by omega) (Nat.le_of_ble_eq_true rfl)), (Nat.le_trans (show ks + 0 ≤ 300000 by omega) (Nat.le_of_ble_eq_true rfl))⟩) hS (fun x817 u815 H locs w816 hG hS => ?_)
  obtain ⟨hf819, hq818⟩ := w816
  refine lv_pop hx hb dL_law_702 rfl ?_
  refine lv_goto (tgt := 1047) hx hb dL_law_703 (by decide) ?_
  obtain ⟨x820, h821⟩ : ∃ y : Int32, y = i + Int32.ofInt (6) := ⟨_, rfl⟩
  try have h822 : x820.toInt = i.toInt + (6) := ty_inc h821 (by decide) (by omega) (by omega)
  refine lv_iinc (v := x820) (lv' := [(4, .int x820), (3, .ref q25), (2, .ref q12), (1, .ref q1), (0, .ref b)]) hx hb dL_law_1047 hl (k := 0) rfl h821.symm (by decide) rfl (fun ls hl => ?_)
  refine lv_goto (tgt := 23) hx hb dL_law_1050 (by decide) ?_
  have hk823 : u815 4 0 = g 4 0 := hf819 4 0 (by decide) (by decide) (by decide) (by decide)
  exact ih x820 Γ u815 (kc) (ks) _ _ ls (by omega) (by omega) (by rw [hf819 1 0 (by decide) (by decide) (by decide) (by decide), hf819 33 0 (by decide) (by decide) (by decide) (by decide)]; exact hi1) (by rw [hf819 2 0 (by decide) (by decide) (by decide) (by decide), hf819 34 0 (by decide) (by decide) (by decide) (by decide)]; exact hi2) (by rw [hf819 3 0 (by decide) (by decide) (by decide) (by decide), hf819 35 0 (by decide) (by decide) (by decide) (by decide)]; exact hi3) (by rw [hf819 5 0 (by decide) (by decide) (by decide) (by decide)]; exact hi4) (by omega) (by rw [hf819 6 0 (by decide) (by decide) (by decide) (by decide)]; exact hi6) (by rw [hf819 7 0 (by decide) (by decide) (by decide) (by decide), hf819 36 0 (by decide) (by decide) (by decide) (by decide)]; exact hi7) (by rw [hf819 101 0 (by decide) (by decide) (by decide) (by decide), hf819 1 0 (by decide) (by decide) (by decide) (by decide)]; exact hi8) (by rw [hf819 104 0 (by decide) (by decide) (by decide) (by decide), hf819 2 0 (by decide) (by decide) (by decide) (by decide)]; exact hi9) (by rw [hf819 112 0 (by decide) (by decide) (by decide) (by decide), hf819 5 0 (by decide) (by decide) (by decide) (by decide)]; exact hi10) (by rw [hf819 111 0 (by decide) (by decide) (by decide) (by decide), hf819 4 0 (by decide) (by decide) (by decide) (by decide)]; exact hi11) (by rw [hf819 114 0 (by decide) (by decide) (by decide) (by decide), hf819 6 0 (by decide) (by decide) (by decide) (by decide)]; exact hi12) (by rw [hf819 126 0 (by decide) (by decide) (by decide) (by decide)]; exact hi13) (by rw [hf819 122 0 (by decide) (by decide) (by decide) (by decide)]; exact hi14) (by rw [hf819 14 0 (by decide) (by decide) (by decide) (by decide), hf819 121 0 (by decide) (by decide) (by decide) (by decide)]; exact hi15) (by rw [hf819 18 0 (by decide) (by decide) (by decide) (by decide), hf819 118 0 (by decide) (by decide) (by decide) (by decide)]; exact hi16) (by (repeat (first | with_reducible assumption | (refine IJ_c (by decide) (by decide) (by decide) ?_) | (refine IJ_take (by omega) (by omega) ?_) | (refine IJ_how (by omega) ?_) | (refine IJ_by (by omega) ?_)))) (funext fun j => by show u815 113 j % 256 = u815 19 j; rw [hf819 113 j (by decide) (by decide) (by decide) (by decide), hf819 19 j (by decide) (by decide) (by decide) (by decide)]; exact congrFun hTE j) hU t_q1 t_q12 t_q25 (by omega) (by omega) hG hS (lv_sub hl [0, 1, 2, 3, 4] rfl)
set_option maxHeartbeats 40000000 in
set_option maxRecDepth 100000 in
/-- the law's case 14 -/
theorem law_c14 {p : Program} {e : Env} {s : State} {m : MethodId} {below : List Frame} {meth : Method} {c : Code} (l : Launch) (hl9 : l.stackTraces = false) {b L : Nat} {xs : Nat → Int32} (hLN : L ≤ 3072) (hx : p.tables.exec = Jvm.exec) (hb : c.code = code) (hr : meth.sig.returnType = ret) (hml : c.maxLocals = 7) (hown : s.vm.findClass R_law = some m.cls) (hA : ∀ w ∈ AL, w.before #[Value.ref b] s = true) (hXs : va_X b L xs s s.heap) (hbl : b < s.heap.size) (hlocks : meth.locks = false) {dC : Nat → ClassId} {dI : Nat → Nat → Nat} {dA : Nat → ClassId} {sz : Nat} (hE : en dC dI dA sz s) (hsz : sz = s.heap.size) (hbA : ¬ ty_A sz b) (X : va_W) (q1 q12 q25 : Nat) (n : Nat) (ih : LJ p l e s m below meth c b dC dI dA sz X q1 q12 q25 n) (i : Int32) (Γ : ty_G) (g : gh) (kc ks : Nat) (H : Heap) (locs : List Loc) (ls : Array Slot) (hm : (3073 - i.toInt : Int) < (n + 1 : Nat)) (hi0 : 0 ≤ i.toInt ∧ i.toInt ≤ 3072) (hi1 : g 1 0 = g 33 0 ∧ 0 ≤ g 1 0 ∧ g 1 0 ≤ 6) (hi2 : g 2 0 = g 34 0 ∧ 0 ≤ g 2 0 ∧ g 2 0 ≤ 10) (hi3 : g 3 0 = g 35 0 ∧ 0 ≤ g 3 0 ∧ g 3 0 ≤ 200) (hi4 : 0 ≤ g 5 0 ∧ g 5 0 ≤ 52) (hi5 : 0 ≤ g 4 0 ∧ g 4 0 ≤ i.toInt) (hi6 : 0 ≤ g 6 0 ∧ g 6 0 ≤ 300) (hi7 : 0 ≤ g 7 0 ∧ g 7 0 ≤ g 36 0 ∧ g 36 0 ≤ 9) (hi8 : g 101 0 = g 1 0) (hi9 : g 104 0 = g 2 0) (hi10 : g 112 0 = g 5 0) (hi11 : g 111 0 = g 4 0) (hi12 : g 114 0 = g 6 0) (hi13 : 0 ≤ g 126 0 ∧ g 126 0 ≤ 200) (hi14 : 0 ≤ g 122 0 ∧ g 122 0 ≤ 30) (hi15 : g 14 0 = g 121 0) (hi16 : g 18 0 = g 118 0) (hIJ : IJ g) (hTE : pz_t g = g 19) (hU : Un Γ) (t_q1 : ty Γ q1 1) (t_q12 : ty Γ q12 30) (t_q25 : ty Γ q25 25) (hkc : kc ≤ 300 + i.toInt.toNat) (hks : ks ≤ 30000 + 28 * i.toInt.toNat) (hG : ty_ok (dC, dI) vwCl Γ (TP dA Γ g) sz X H) (hS : va_S (ty_A sz) s.heap H locs) (hl : lv_has ls 7 [(4, .int i), (3, .ref q25), (2, .ref q12), (1, .ref q1), (0, .ref b)]) (hiL : i.toInt + 6 ≤ (L : Int)) : W p l e room_1 s m #[Value.ref b] below meth c H locs kc ks (lw_Z below #[Value.ref b] s) (F0 m 706 ls []) := by
  refine lv_aload_n hx hb dL_law_706 rfl (lv_at hl 3 rfl) ?_
  refine cI (va_runV (C := RX8) (As := []) (rest := []) ⟨hx, hb, hml, hown, hA⟩ (k_X8_rush l dC dI dA sz X Γ hU g q1 t_q1   (by first | with_reducible assumption | omega) (by first | with_reducible assumption | omega)) ⟨callB_of 0 hA (al_A wd_3_198) rfl rfl rfl (hA _ wd_1_1) (hA _ wd_3_195) (by decide +kernel) ⟨Nat.le_of_ble_eq_true rfl, Nat.le_of_ble_eq_true rfl⟩, hA _ wd_3_196, hA _ wd_3_197⟩ ⟨bl, recv_X8 hE hG t_q1, fun U hU9 hW9 => ⟨rfl, by rw [hU9]; exact hG, hE.go hS hU9 hW9⟩⟩ rfl rfl hl.1 rfl (lv_room (Nat.le_of_ble_eq_true rfl)) dL_law_707 ⟨(Nat.le_trans (show kc + 0 ≤ 300000 by omega) (Nat.le_of_ble_eq_true rfl)), (Nat.le_trans (show ks + 0 ≤ 300000 by omega) (Nat.le_of_ble_eq_true rfl))⟩) hS (fun x826 u824 H locs w825 hG hS => ?_)
  have eu827 := w825
  rw [eu827] at hG
  refine lv_pop hx hb dL_law_710 rfl ?_
  refine lv_aload_n hx hb dL_law_711 rfl (lv_at hl 2 rfl) ?_
  refine cI (va_runV (C := RX9) (As := []) (rest := []) ⟨hx, hb, hml, hown, hA⟩ (k_X9_rush l dC dI dA sz X Γ hU g q12 t_q12   (by first | with_reducible assumption | omega) (by first | with_reducible assumption | omega) (by (repeat (first | with_reducible assumption | (refine IJ_c (by decide) (by decide) (by decide) ?_) | (refine IJ_take (by omega) (by omega) ?_) | (refine IJ_how (by omega) ?_) | (refine IJ_by (by omega) ?_))))) ⟨callB_of 0 hA (al_A wd_5_180) rfl rfl rfl (hA _ wd_1_7) (hA _ wd_5_177) (by decide +kernel) ⟨Nat.le_of_ble_eq_true rfl, Nat.le_of_ble_eq_true rfl⟩, hA _ wd_5_178, hA _ wd_5_179⟩ ⟨bl, recv_X9 hE hG t_q12, fun U hU9 hW9 => ⟨rfl, by rw [hU9]; exact hG, hE.go hS hU9 hW9⟩⟩ rfl rfl hl.1 rfl (lv_room (Nat.le_of_ble_eq_true rfl)) dL_law_712 ⟨(Nat.le_trans (show kc + 0 ≤ 300000 by omega) (Nat.le_of_ble_eq_true rfl)), (Nat.le_trans (show ks + 0 ≤ 300000 by omega) (Nat.le_of_ble_eq_true rfl))⟩) hS (fun x830 u828 H locs w829 hG hS => ?_)
  obtain ⟨hf832, hq831⟩ := w829
  refine lv_pop hx hb dL_law_715 rfl ?_
  refine lv_goto (tgt := 1047) hx hb dL_law_716 (by decide) ?_
  obtain ⟨x833, h834⟩ : ∃ y : Int32, y = i + Int32.ofInt (6) := ⟨_, rfl⟩
  try have h835 : x833.toInt = i.toInt + (6) := ty_inc h834 (by decide) (by omega) (by omega)
  refine lv_iinc (v := x833) (lv' := [(4, .int x833), (3, .ref q25), (2, .ref q12), (1, .ref q1), (0, .ref b)]) hx hb dL_law_1047 hl (k := 0) rfl h834.symm (by decide) rfl (fun ls hl => ?_)
  refine lv_goto (tgt := 23) hx hb dL_law_1050 (by decide) ?_
  have hk836 : u828 4 0 = g 4 0 := hf832 4 0 (by decide) (by decide) (by decide) (by decide) (by decide) (by decide) (by decide) (by decide)
  exact ih x833 Γ u828 (kc) (ks) _ _ ls (by omega) (by omega) (by rw [hf832 1 0 (by decide) (by decide) (by decide) (by decide) (by decide) (by decide) (by decide) (by decide), hf832 33 0 (by decide) (by decide) (by decide) (by decide) (by decide) (by decide) (by decide) (by decide)]; exact hi1) (by rw [hf832 2 0 (by decide) (by decide) (by decide) (by decide) (by decide) (by decide) (by decide) (by decide), hf832 34 0 (by decide) (by decide) (by decide) (by decide) (by decide) (by decide) (by decide) (by decide)]; exact hi2) (by rw [hf832 3 0 (by decide) (by decide) (by decide) (by decide) (by decide) (by decide) (by decide) (by decide), hf832 35 0 (by decide) (by decide) (by decide) (by decide) (by decide) (by decide) (by decide) (by decide)]; exact hi3) (by rw [hf832 5 0 (by decide) (by decide) (by decide) (by decide) (by decide) (by decide) (by decide) (by decide)]; exact hi4) (by omega) (by rw [hf832 6 0 (by decide) (by decide) (by decide) (by decide) (by decide) (by decide) (by decide) (by decide)]; exact hi6) (by rw [hf832 7 0 (by decide) (by decide) (by decide) (by decide) (by decide) (by decide) (by decide) (by decide), hf832 36 0 (by decide) (by decide) (by decide) (by decide) (by decide) (by decide) (by decide) (by decide)]; exact hi7) (by rw [hf832 101 0 (by decide) (by decide) (by decide) (by decide) (by decide) (by decide) (by decide) (by decide), hf832 1 0 (by decide) (by decide) (by decide) (by decide) (by decide) (by decide) (by decide) (by decide)]; exact hi8) (by rw [hf832 104 0 (by decide) (by decide) (by decide) (by decide) (by decide) (by decide) (by decide) (by decide), hf832 2 0 (by decide) (by decide) (by decide) (by decide) (by decide) (by decide) (by decide) (by decide)]; exact hi9) (by rw [hf832 112 0 (by decide) (by decide) (by decide) (by decide) (by decide) (by decide) (by decide) (by decide), hf832 5 0 (by decide) (by decide) (by decide) (by decide) (by decide) (by decide) (by decide) (by decide)]; exact hi10) (by rw [hf832 111 0 (by decide) (by decide) (by decide) (by decide) (by decide) (by decide) (by decide) (by decide), hf832 4 0 (by decide) (by decide) (by decide) (by decide) (by decide) (by decide) (by decide) (by decide)]; exact hi11) (by rw [hf832 114 0 (by decide) (by decide) (by decide) (by decide) (by decide) (by decide) (by decide) (by decide), hf832 6 0 (by decide) (by decide) (by decide) (by decide) (by decide) (by decide) (by decide) (by decide)]; exact hi12) (by rw [hf832 126 0 (by decide) (by decide) (by decide) (by decide) (by decide) (by decide) (by decide) (by decide)]; exact hi13) (by rw [hf832 122 0 (by decide) (by decide) (by decide) (by decide) (by decide) (by decide) (by decide) (by decide)]; exact hi14) (by rw [hf832 14 0 (by decide) (by decide) (by decide) (by decide) (by decide) (by decide) (by decide) (by decide), hf832 121 0 (by decide) (by decide) (by decide) (by decide) (by decide) (by decide) (by decide) (by decide)]; exact hi15) (by rw [hf832 18 0 (by decide) (by decide) (by decide) (by decide) (by decide) (by decide) (by decide) (by decide), hf832 118 0 (by decide) (by decide) (by decide) (by decide) (by decide) (by decide) (by decide) (by decide)]; exact hi16) (by (repeat (first | with_reducible assumption | (refine IJ_c (by decide) (by decide) (by decide) ?_) | (refine IJ_take (by omega) (by omega) ?_) | (refine IJ_how (by omega) ?_) | (refine IJ_by (by omega) ?_)))) (funext fun j => by show u828 113 j % 256 = u828 19 j; rw [hf832 113 j (by decide) (by decide) (by decide) (by decide) (by decide) (by decide) (by decide) (by decide), hf832 19 j (by decide) (by decide) (by decide) (by decide) (by decide) (by decide) (by decide) (by decide)]; exact congrFun hTE j) hU t_q1 t_q12 t_q25 (by omega) (by omega) hG hS (lv_sub hl [0, 1, 2, 3, 4] rfl)
set_option maxHeartbeats 40000000 in
set_option maxRecDepth 100000 in
/-- the law's case 15 -/
theorem law_c15 {p : Program} {e : Env} {s : State} {m : MethodId} {below : List Frame} {meth : Method} {c : Code} (l : Launch) (hl9 : l.stackTraces = false) {b L : Nat} {xs : Nat → Int32} (hLN : L ≤ 3072) (hx : p.tables.exec = Jvm.exec) (hb : c.code = code) (hr : meth.sig.returnType = ret) (hml : c.maxLocals = 7) (hown : s.vm.findClass R_law = some m.cls) (hA : ∀ w ∈ AL, w.before #[Value.ref b] s = true) (hXs : va_X b L xs s s.heap) (hbl : b < s.heap.size) (hlocks : meth.locks = false) {dC : Nat → ClassId} {dI : Nat → Nat → Nat} {dA : Nat → ClassId} {sz : Nat} (hE : en dC dI dA sz s) (hsz : sz = s.heap.size) (hbA : ¬ ty_A sz b) (X : va_W) (q1 q12 q25 : Nat) (n : Nat) (ih : LJ p l e s m below meth c b dC dI dA sz X q1 q12 q25 n) (i : Int32) (Γ : ty_G) (g : gh) (kc ks : Nat) (H : Heap) (locs : List Loc) (ls : Array Slot) (hm : (3073 - i.toInt : Int) < (n + 1 : Nat)) (hi0 : 0 ≤ i.toInt ∧ i.toInt ≤ 3072) (hi1 : g 1 0 = g 33 0 ∧ 0 ≤ g 1 0 ∧ g 1 0 ≤ 6) (hi2 : g 2 0 = g 34 0 ∧ 0 ≤ g 2 0 ∧ g 2 0 ≤ 10) (hi3 : g 3 0 = g 35 0 ∧ 0 ≤ g 3 0 ∧ g 3 0 ≤ 200) (hi4 : 0 ≤ g 5 0 ∧ g 5 0 ≤ 52) (hi5 : 0 ≤ g 4 0 ∧ g 4 0 ≤ i.toInt) (hi6 : 0 ≤ g 6 0 ∧ g 6 0 ≤ 300) (hi7 : 0 ≤ g 7 0 ∧ g 7 0 ≤ g 36 0 ∧ g 36 0 ≤ 9) (hi8 : g 101 0 = g 1 0) (hi9 : g 104 0 = g 2 0) (hi10 : g 112 0 = g 5 0) (hi11 : g 111 0 = g 4 0) (hi12 : g 114 0 = g 6 0) (hi13 : 0 ≤ g 126 0 ∧ g 126 0 ≤ 200) (hi14 : 0 ≤ g 122 0 ∧ g 122 0 ≤ 30) (hi15 : g 14 0 = g 121 0) (hi16 : g 18 0 = g 118 0) (hIJ : IJ g) (hTE : pz_t g = g 19) (hU : Un Γ) (t_q1 : ty Γ q1 1) (t_q12 : ty Γ q12 30) (t_q25 : ty Γ q25 25) (hkc : kc ≤ 300 + i.toInt.toNat) (hks : ks ≤ 30000 + 28 * i.toInt.toNat) (hG : ty_ok (dC, dI) vwCl Γ (TP dA Γ g) sz X H) (hS : va_S (ty_A sz) s.heap H locs) (hl : lv_has ls 7 [(4, .int i), (3, .ref q25), (2, .ref q12), (1, .ref q1), (0, .ref b)]) (hiL : i.toInt + 6 ≤ (L : Int)) : W p l e room_1 s m #[Value.ref b] below meth c H locs kc ks (lw_Z below #[Value.ref b] s) (F0 m 719 ls []) := by
  refine lv_aload_n hx hb dL_law_719 rfl (lv_at hl 3 rfl) ?_
  refine lv_aload_n hx hb dL_law_720 rfl (lv_at hl 4 rfl) ?_
  refine lv_iload hx hb dL_law_721 (lv_at hl 0 rfl) ?_
  refine ty_iconst hx hb (1) dL_law_723 (by decide) (fun x837 h838 => ?_)
  refine ty_iadd hx hb dL_law_724 (fun x839 h840 => ?_)
  have h841 := lw_ix (k := 1) h838 h840 hi0 hiL hLN (by decide)
  refine va_sld hx hb hXs hbl hbA hS (i := x839) (ty_ix h841.2) dL_law_725 ?_
  refine W.eq (g2 := F0 m 726 ls [.int (xs (i.toInt.toNat + 1)), .ref q1]) (by rw [lw_xs (xs := xs) h841.1 hi0.1]) ?_
  clear h841 h840 h838
  refine lv_topi (fun x842 s843 => ?_)
  refine lv_aload_n hx hb dL_law_726 rfl (lv_at hl 4 rfl) ?_
  refine lv_iload hx hb dL_law_727 (lv_at hl 0 rfl) ?_
  refine ty_iconst hx hb (2) dL_law_729 (by decide) (fun x844 h845 => ?_)
  refine ty_iadd hx hb dL_law_730 (fun x846 h847 => ?_)
  have h848 := lw_ix (k := 2) h845 h847 hi0 hiL hLN (by decide)
  refine va_sld hx hb hXs hbl hbA hS (i := x846) (ty_ix h848.2) dL_law_731 ?_
  refine W.eq (g2 := F0 m 732 ls [.int (xs (i.toInt.toNat + 2)), .int x842, .ref q1]) (by rw [lw_xs (xs := xs) h848.1 hi0.1]) ?_
  clear h848 h847 h845
  refine lv_topi (fun x849 s850 => ?_)
  refine lv_aload_n hx hb dL_law_732 rfl (lv_at hl 4 rfl) ?_
  refine lv_iload hx hb dL_law_733 (lv_at hl 0 rfl) ?_
  refine ty_iconst hx hb (3) dL_law_735 (by decide) (fun x851 h852 => ?_)
  refine ty_iadd hx hb dL_law_736 (fun x853 h854 => ?_)
  have h855 := lw_ix (k := 3) h852 h854 hi0 hiL hLN (by decide)
  refine va_sld hx hb hXs hbl hbA hS (i := x853) (ty_ix h855.2) dL_law_737 ?_
  refine W.eq (g2 := F0 m 738 ls [.int (xs (i.toInt.toNat + 3)), .int x849, .int x842, .ref q1]) (by rw [lw_xs (xs := xs) h855.1 hi0.1]) ?_
  clear h855 h854 h852
  refine lv_topi (fun x856 s857 => ?_)
  refine cI (va_runV (C := RX8) (As := [.int x842, .int x849, .int x856]) (rest := []) ⟨hx, hb, hml, hown, hA⟩ (k_X8_shut l dC dI dA sz X Γ hU g q1 t_q1 x842 x849 x856   (by first | with_reducible assumption | omega) (by first | with_reducible assumption | omega) (by first | with_reducible assumption | omega)) ⟨callB_of 3 hA (al_A wd_3_211) rfl rfl rfl (hA _ wd_1_1) (hA _ wd_3_208) (by decide +kernel) ⟨Nat.le_of_ble_eq_true rfl, Nat.le_of_ble_eq_true rfl⟩, hA _ wd_3_209, hA _ wd_3_210⟩ ⟨bl, recv_X8 hE hG t_q1, fun U hU9 hW9 => ⟨rfl, by rw [hU9]; exact hG, hE.go hS hU9 hW9⟩⟩ rfl rfl hl.1 rfl (lv_room (Nat.le_of_ble_eq_true rfl)) dL_law_738 ⟨(Nat.le_trans (show kc + 0 ≤ 300000 by omega) (Nat.le_of_ble_eq_true rfl)), (Nat.le_trans (show ks + 0 ≤ 300000 by omega) (Nat.le_of_ble_eq_true rfl))⟩) hS (fun x860 u858 H locs w859 hG hS => ?_)
  have eu861 := w859
  rw [eu861] at hG
  refine lv_pop hx hb dL_law_741 rfl ?_
  refine lv_aload_n hx hb dL_law_742 rfl (lv_at hl 2 rfl) ?_
  refine lv_aload_n hx hb dL_law_743 rfl (lv_at hl 4 rfl) ?_
  refine lv_iload hx hb dL_law_744 (lv_at hl 0 rfl) ?_
  refine ty_iconst hx hb (1) dL_law_746 (by decide) (fun x862 h863 => ?_)
  refine ty_iadd hx hb dL_law_747 (fun x864 h865 => ?_)
  have h866 := lw_ix (k := 1) h863 h865 hi0 hiL hLN (by decide)
  refine va_sld hx hb hXs hbl hbA hS (i := x864) (ty_ix h866.2) dL_law_748 ?_
  refine W.eq (g2 := F0 m 749 ls [.int (xs (i.toInt.toNat + 1)), .ref q12]) (by rw [lw_xs (xs := xs) h866.1 hi0.1]) ?_
  clear h866 h865 h863
  refine W.eq (g2 := F0 m 749 ls [.int x842, .ref q12]) (by rw [s843]) ?_
  refine lv_aload_n hx hb dL_law_749 rfl (lv_at hl 4 rfl) ?_
  refine lv_iload hx hb dL_law_750 (lv_at hl 0 rfl) ?_
  refine ty_iconst hx hb (2) dL_law_752 (by decide) (fun x867 h868 => ?_)
  refine ty_iadd hx hb dL_law_753 (fun x869 h870 => ?_)
  have h871 := lw_ix (k := 2) h868 h870 hi0 hiL hLN (by decide)
  refine va_sld hx hb hXs hbl hbA hS (i := x869) (ty_ix h871.2) dL_law_754 ?_
  refine W.eq (g2 := F0 m 755 ls [.int (xs (i.toInt.toNat + 2)), .int x842, .ref q12]) (by rw [lw_xs (xs := xs) h871.1 hi0.1]) ?_
  clear h871 h870 h868
  refine W.eq (g2 := F0 m 755 ls [.int x849, .int x842, .ref q12]) (by rw [s850]) ?_
  refine lv_aload_n hx hb dL_law_755 rfl (lv_at hl 4 rfl) ?_
  refine lv_iload hx hb dL_law_756 (lv_at hl 0 rfl) ?_
  refine ty_iconst hx hb (3) dL_law_758 (by decide) (fun x872 h873 => ?_)
  refine ty_iadd hx hb dL_law_759 (fun x874 h875 => ?_)
  have h876 := lw_ix (k := 3) h873 h875 hi0 hiL hLN (by decide)
  refine va_sld hx hb hXs hbl hbA hS (i := x874) (ty_ix h876.2) dL_law_760 ?_
  refine W.eq (g2 := F0 m 761 ls [.int (xs (i.toInt.toNat + 3)), .int x849, .int x842, .ref q12]) (by rw [lw_xs (xs := xs) h876.1 hi0.1]) ?_
  clear h876 h875 h873
  refine W.eq (g2 := F0 m 761 ls [.int x856, .int x849, .int x842, .ref q12]) (by rw [s857]) ?_
  refine cI (va_runV (C := RX9) (As := [.int x842, .int x849, .int x856]) (rest := []) ⟨hx, hb, hml, hown, hA⟩ (k_X9_shut l dC dI dA sz X Γ hU g q12 t_q12 x842 x849 x856   (by first | with_reducible assumption | omega) (by first | with_reducible assumption | omega) (by first | with_reducible assumption | omega) (by (repeat (first | with_reducible assumption | (refine IJ_c (by decide) (by decide) (by decide) ?_) | (refine IJ_take (by omega) (by omega) ?_) | (refine IJ_how (by omega) ?_) | (refine IJ_by (by omega) ?_))))) ⟨callB_of 3 hA (al_A wd_5_188) rfl rfl rfl (hA _ wd_1_7) (hA _ wd_5_185) (by decide +kernel) ⟨Nat.le_of_ble_eq_true rfl, Nat.le_of_ble_eq_true rfl⟩, hA _ wd_5_186, hA _ wd_5_187⟩ ⟨bl, recv_X9 hE hG t_q12, fun U hU9 hW9 => ⟨rfl, by rw [hU9]; exact hG, hE.go hS hU9 hW9⟩⟩ rfl rfl hl.1 rfl (lv_room (Nat.le_of_ble_eq_true rfl)) dL_law_761 ⟨(Nat.le_trans (show kc + 0 ≤ 300000 by omega) (Nat.le_of_ble_eq_true rfl)), (Nat.le_trans (show ks + 0 ≤ 300000 by omega) (Nat.le_of_ble_eq_true rfl))⟩) hS (fun x879 u877 H locs w878 hG hS => ?_)
  obtain ⟨hf881, hq880⟩ := w878
  refine lv_pop hx hb dL_law_764 rfl ?_
  refine lv_goto (tgt := 1047) hx hb dL_law_765 (by decide) ?_
  obtain ⟨x882, h883⟩ : ∃ y : Int32, y = i + Int32.ofInt (6) := ⟨_, rfl⟩
  try have h884 : x882.toInt = i.toInt + (6) := ty_inc h883 (by decide) (by omega) (by omega)
  refine lv_iinc (v := x882) (lv' := [(4, .int x882), (3, .ref q25), (2, .ref q12), (1, .ref q1), (0, .ref b)]) hx hb dL_law_1047 hl (k := 0) rfl h883.symm (by decide) rfl (fun ls hl => ?_)
  refine lv_goto (tgt := 23) hx hb dL_law_1050 (by decide) ?_
  have hk885 : u877 4 0 = g 4 0 := hf881 4 0 (by decide) (by decide) (by decide) (by decide)
  exact ih x882 Γ u877 (kc) (ks) _ _ ls (by omega) (by omega) (by rw [hf881 1 0 (by decide) (by decide) (by decide) (by decide), hf881 33 0 (by decide) (by decide) (by decide) (by decide)]; exact hi1) (by rw [hf881 2 0 (by decide) (by decide) (by decide) (by decide), hf881 34 0 (by decide) (by decide) (by decide) (by decide)]; exact hi2) (by rw [hf881 3 0 (by decide) (by decide) (by decide) (by decide), hf881 35 0 (by decide) (by decide) (by decide) (by decide)]; exact hi3) (by rw [hf881 5 0 (by decide) (by decide) (by decide) (by decide)]; exact hi4) (by omega) (by rw [hf881 6 0 (by decide) (by decide) (by decide) (by decide)]; exact hi6) (by rw [hf881 7 0 (by decide) (by decide) (by decide) (by decide), hf881 36 0 (by decide) (by decide) (by decide) (by decide)]; exact hi7) (by rw [hf881 101 0 (by decide) (by decide) (by decide) (by decide), hf881 1 0 (by decide) (by decide) (by decide) (by decide)]; exact hi8) (by rw [hf881 104 0 (by decide) (by decide) (by decide) (by decide), hf881 2 0 (by decide) (by decide) (by decide) (by decide)]; exact hi9) (by rw [hf881 112 0 (by decide) (by decide) (by decide) (by decide), hf881 5 0 (by decide) (by decide) (by decide) (by decide)]; exact hi10) (by rw [hf881 111 0 (by decide) (by decide) (by decide) (by decide), hf881 4 0 (by decide) (by decide) (by decide) (by decide)]; exact hi11) (by rw [hf881 114 0 (by decide) (by decide) (by decide) (by decide), hf881 6 0 (by decide) (by decide) (by decide) (by decide)]; exact hi12) (by rw [hf881 126 0 (by decide) (by decide) (by decide) (by decide)]; exact hi13) (by rw [hf881 122 0 (by decide) (by decide) (by decide) (by decide)]; exact hi14) (by rw [hf881 14 0 (by decide) (by decide) (by decide) (by decide), hf881 121 0 (by decide) (by decide) (by decide) (by decide)]; exact hi15) (by rw [hf881 18 0 (by decide) (by decide) (by decide) (by decide), hf881 118 0 (by decide) (by decide) (by decide) (by decide)]; exact hi16) (by (repeat (first | with_reducible assumption | (refine IJ_c (by decide) (by decide) (by decide) ?_) | (refine IJ_take (by omega) (by omega) ?_) | (refine IJ_how (by omega) ?_) | (refine IJ_by (by omega) ?_)))) (funext fun j => by show u877 113 j % 256 = u877 19 j; rw [hf881 113 j (by decide) (by decide) (by decide) (by decide), hf881 19 j (by decide) (by decide) (by decide) (by decide)]; exact congrFun hTE j) hU t_q1 t_q12 t_q25 (by omega) (by omega) hG hS (lv_sub hl [0, 1, 2, 3, 4] rfl)
