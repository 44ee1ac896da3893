set_option maxHeartbeats 40000000 in
set_option maxRecDepth 100000 in
/-- the law's case 8 -/
theorem law_c8 {p : Program} {e : Env} {s : State} {m : MethodId} {below : List Frame} {meth : Method} {c : Code} (l : Launch) (hl9 : l.stackTraces = false) {b L : Nat} {xs : Nat → Int32} (hLN : L ≤ 3072) (hx : p.tables.exec = Jvm.exec) (hb : c.code = code) (hr : meth.sig.returnType = ret) (hml : c.maxLocals = 7) (hown : s.vm.findClass R_law = some m.cls) (hA : ∀ w ∈ AL, w.before #[Value.ref b] s = true) (hXs : va_X b L xs s s.heap) (hbl : b < s.heap.size) (hlocks : meth.locks = false) {dC : Nat → ClassId} {dI : Nat → Nat → Nat} {dA : Nat → ClassId} {sz : Nat} (hE : en dC dI dA sz s) (hsz : sz = s.heap.size) (hbA : ¬ ty_A sz b) (X : va_W) (q1 q12 q25 : Nat) (n : Nat) (ih : LJ p l e s m below meth c b dC dI dA sz X q1 q12 q25 n) (i : Int32) (Γ : ty_G) (g : gh) (kc ks : Nat) (H : Heap) (locs : List Loc) (ls : Array Slot) (hm : (3073 - i.toInt : Int) < (n + 1 : Nat)) (hi0 : 0 ≤ i.toInt ∧ i.toInt ≤ 3072) (hi1 : g 1 0 = g 33 0 ∧ 0 ≤ g 1 0 ∧ g 1 0 ≤ 6) (hi2 : g 2 0 = g 34 0 ∧ 0 ≤ g 2 0 ∧ g 2 0 ≤ 10) (hi3 : g 3 0 = g 35 0 ∧ 0 ≤ g 3 0 ∧ g 3 0 ≤ 200) (hi4 : 0 ≤ g 5 0 ∧ g 5 0 ≤ 52) (hi5 : 0 ≤ g 4 0 ∧ g 4 0 ≤ i.toInt) (hi6 : 0 ≤ g 6 0 ∧ g 6 0 ≤ 300) (hi7 : 0 ≤ g 7 0 ∧ g 7 0 ≤ g 36 0 ∧ g 36 0 ≤ 9) (hi8 : g 101 0 = g 1 0) (hi9 : g 104 0 = g 2 0) (hi10 : g 112 0 = g 5 0) (hi11 : g 111 0 = g 4 0) (hi12 : g 114 0 = g 6 0) (hi13 : 0 ≤ g 126 0 ∧ g 126 0 ≤ 200) (hi14 : 0 ≤ g 122 0 ∧ g 122 0 ≤ 30) (hIJ : IJ g) (hU : Un Γ) (t_q1 : ty Γ q1 1) (t_q12 : ty Γ q12 30) (t_q25 : ty Γ q25 25) (hkc : kc ≤ 300 + i.toInt.toNat) (hks : ks ≤ 30000 + 28 * i.toInt.toNat) (hG : ty_ok (dC, dI) vwCl Γ (TP dA Γ g) sz X H) (hS : va_S (ty_A sz) s.heap H locs) (hl : lv_has ls 7 [(4, .int i), (3, .ref q25), (2, .ref q12), (1, .ref q1), (0, .ref b)]) (hiL : i.toInt + 6 ≤ (L : Int)) : W p l e room_1 s m #[Value.ref b] below meth c H locs kc ks (lw_Z below #[Value.ref b] s) (F0 m 424 ls []) := by
  refine lv_aload_n hx hb dL_law_424 rfl (lv_at hl 3 rfl) ?_
  refine lv_aload_n hx hb dL_law_425 rfl (lv_at hl 4 rfl) ?_
  refine lv_iload hx hb dL_law_426 (lv_at hl 0 rfl) ?_
  refine ty_iconst hx hb (1) dL_law_428 (by decide) (fun x500 h501 => ?_)
  refine ty_iadd hx hb dL_law_429 (fun x502 h503 => ?_)
  have h504 := lw_ix (k := 1) h501 h503 hi0 hiL hLN (by decide)
  refine va_sld hx hb hXs hbl hbA hS (i := x502) (ty_ix h504.2) dL_law_430 ?_
  refine W.eq (g2 := F0 m 431 ls [.int (xs (i.toInt.toNat + 1)), .ref q1]) (by rw [lw_xs (xs := xs) h504.1 hi0.1]) ?_
  clear h504 h503 h501
  refine lv_topi (fun x505 s506 => ?_)
  refine lv_aload_n hx hb dL_law_431 rfl (lv_at hl 4 rfl) ?_
  refine lv_iload hx hb dL_law_432 (lv_at hl 0 rfl) ?_
  refine ty_iconst hx hb (2) dL_law_434 (by decide) (fun x507 h508 => ?_)
  refine ty_iadd hx hb dL_law_435 (fun x509 h510 => ?_)
  have h511 := lw_ix (k := 2) h508 h510 hi0 hiL hLN (by decide)
  refine va_sld hx hb hXs hbl hbA hS (i := x509) (ty_ix h511.2) dL_law_436 ?_
  refine W.eq (g2 := F0 m 437 ls [.int (xs (i.toInt.toNat + 2)), .int x505, .ref q1]) (by rw [lw_xs (xs := xs) h511.1 hi0.1]) ?_
  clear h511 h510 h508
  refine lv_topi (fun x512 s513 => ?_)
  refine lv_aload_n hx hb dL_law_437 rfl (lv_at hl 4 rfl) ?_
  refine lv_iload hx hb dL_law_438 (lv_at hl 0 rfl) ?_
  refine ty_iconst hx hb (3) dL_law_440 (by decide) (fun x514 h515 => ?_)
  refine ty_iadd hx hb dL_law_441 (fun x516 h517 => ?_)
  have h518 := lw_ix (k := 3) h515 h517 hi0 hiL hLN (by decide)
  refine va_sld hx hb hXs hbl hbA hS (i := x516) (ty_ix h518.2) dL_law_442 ?_
  refine W.eq (g2 := F0 m 443 ls [.int (xs (i.toInt.toNat + 3)), .int x512, .int x505, .ref q1]) (by rw [lw_xs (xs := xs) h518.1 hi0.1]) ?_
  clear h518 h517 h515
  refine lv_topi (fun x519 s520 => ?_)
  refine cIB (va_runV (C := RX8) (As := [.int x505, .int x512, .int x519]) (rest := []) ⟨hx, hb, hml, hown, hA⟩ (k_X8_give l dC dI dA sz X Γ hU g q1 t_q1 x505 x512 x519   (by first | with_reducible assumption | omega) (by first | with_reducible assumption | omega) (by first | with_reducible assumption | omega)) ⟨callB_of 3 hA (al_A wd_3_4) rfl rfl rfl (hA _ wd_1_1) (hA _ wd_3_1) (by decide +kernel) ⟨Nat.le_of_ble_eq_true rfl, Nat.le_of_ble_eq_true rfl⟩, hA _ wd_3_2, hA _ wd_3_3⟩ ⟨bl, recv_X8 hE hG t_q1, fun U hU9 hW9 => ⟨rfl, by rw [hU9]; exact hG, hE.go hS hU9 hW9⟩⟩ rfl rfl hl.1 rfl (lv_room (Nat.le_of_ble_eq_true rfl)) dL_law_443 ⟨(Nat.le_trans (show kc + 1 ≤ 300000 by omega) (Nat.le_of_ble_eq_true rfl)), (Nat.le_trans (show ks + 10 ≤ 300000 by omega) (Nat.le_of_ble_eq_true rfl))⟩) hS (fun x523 u521 H locs w522 hG hS => ?_)
  obtain ⟨Γ524, g525⟩ := u521
  dsimp only at w522 hG
  obtain ⟨hx526, hU, hf527, w528⟩ := w522
  have hj530 : IJ g525 := IJ_cg (hf527 126 0 (by decide) (by decide)) (fun j => hf527 132 j (by decide) (by decide)) (fun j => hf527 134 j (by decide) (by decide)) (by (repeat (first | with_reducible assumption | (refine IJ_c (by decide) (by decide) (by decide) ?_) | (refine IJ_take (by omega) (by omega) ?_) | (refine IJ_how (by omega) ?_) | (refine IJ_by (by omega) ?_))))
  have hX531 : ext Γ Γ524 := ext.trans ext.rf hx526
  replace t_q25 : ty Γ524 q25 25 := hx526.one t_q25 (by decide)
  replace t_q12 : ty Γ524 q12 30 := hx526.one t_q12 (by decide)
  replace t_q1 : ty Γ524 q1 1 := hx526.one t_q1 (by decide)
  refine lv_pop hx hb dL_law_446 rfl ?_
  refine lv_aload_n hx hb dL_law_447 rfl (lv_at hl 2 rfl) ?_
  refine lv_aload_n hx hb dL_law_448 rfl (lv_at hl 4 rfl) ?_
  refine lv_iload hx hb dL_law_449 (lv_at hl 0 rfl) ?_
  refine ty_iconst hx hb (1) dL_law_451 (by decide) (fun x532 h533 => ?_)
  refine ty_iadd hx hb dL_law_452 (fun x534 h535 => ?_)
  have h536 := lw_ix (k := 1) h533 h535 hi0 hiL hLN (by decide)
  refine va_sld hx hb hXs hbl hbA hS (i := x534) (ty_ix h536.2) dL_law_453 ?_
  refine W.eq (g2 := F0 m 454 ls [.int (xs (i.toInt.toNat + 1)), .ref q12]) (by rw [lw_xs (xs := xs) h536.1 hi0.1]) ?_
  clear h536 h535 h533
  refine W.eq (g2 := F0 m 454 ls [.int x505, .ref q12]) (by rw [s506]) ?_
  refine lv_aload_n hx hb dL_law_454 rfl (lv_at hl 4 rfl) ?_
  refine lv_iload hx hb dL_law_455 (lv_at hl 0 rfl) ?_
  refine ty_iconst hx hb (2) dL_law_457 (by decide) (fun x537 h538 => ?_)
  refine ty_iadd hx hb dL_law_458 (fun x539 h540 => ?_)
  have h541 := lw_ix (k := 2) h538 h540 hi0 hiL hLN (by decide)
  refine va_sld hx hb hXs hbl hbA hS (i := x539) (ty_ix h541.2) dL_law_459 ?_
  refine W.eq (g2 := F0 m 460 ls [.int (xs (i.toInt.toNat + 2)), .int x505, .ref q12]) (by rw [lw_xs (xs := xs) h541.1 hi0.1]) ?_
  clear h541 h540 h538
  refine W.eq (g2 := F0 m 460 ls [.int x512, .int x505, .ref q12]) (by rw [s513]) ?_
  refine lv_aload_n hx hb dL_law_460 rfl (lv_at hl 4 rfl) ?_
  refine lv_iload hx hb dL_law_461 (lv_at hl 0 rfl) ?_
  refine ty_iconst hx hb (3) dL_law_463 (by decide) (fun x542 h543 => ?_)
  refine ty_iadd hx hb dL_law_464 (fun x544 h545 => ?_)
  have h546 := lw_ix (k := 3) h543 h545 hi0 hiL hLN (by decide)
  refine va_sld hx hb hXs hbl hbA hS (i := x544) (ty_ix h546.2) dL_law_465 ?_
  refine W.eq (g2 := F0 m 466 ls [.int (xs (i.toInt.toNat + 3)), .int x512, .int x505, .ref q12]) (by rw [lw_xs (xs := xs) h546.1 hi0.1]) ?_
  clear h546 h545 h543
  refine W.eq (g2 := F0 m 466 ls [.int x519, .int x512, .int x505, .ref q12]) (by rw [s520]) ?_
  have hk547 : g525 101 0 = g 101 0 := hf527 101 0 (by decide) (by decide)
  have hk548 : g525 104 0 = g 104 0 := hf527 104 0 (by decide) (by decide)
  have hk549 : g525 126 0 = g 126 0 := hf527 126 0 (by decide) (by decide)
  have hk550 : g525 122 0 = g 122 0 := hf527 122 0 (by decide) (by decide)
  refine cI (va_runV (C := RX9) (As := [.int x505, .int x512, .int x519]) (rest := []) ⟨hx, hb, hml, hown, hA⟩ (k_X9_give l dC dI dA sz X Γ524 hU g525 q12 t_q12 x505 x512 x519   (by first | with_reducible assumption | omega) (by first | with_reducible assumption | omega) (by first | with_reducible assumption | omega) (by first | with_reducible assumption | omega) (by (repeat (first | with_reducible assumption | (refine IJ_c (by decide) (by decide) (by decide) ?_) | (refine IJ_take (by omega) (by omega) ?_) | (refine IJ_how (by omega) ?_) | (refine IJ_by (by omega) ?_))))) ⟨callB_of 3 hA (al_A wd_5_124) rfl rfl rfl (hA _ wd_1_7) (hA _ wd_5_121) (by decide +kernel) ⟨Nat.le_of_ble_eq_true rfl, Nat.le_of_ble_eq_true rfl⟩, hA _ wd_5_122, hA _ wd_5_123⟩ ⟨bl, recv_X9 hE hG t_q12, fun U hU9 hW9 => ⟨rfl, by rw [hU9]; exact hG, hE.go hS hU9 hW9⟩⟩ rfl rfl hl.1 rfl (lv_room (Nat.le_of_ble_eq_true rfl)) dL_law_466 ⟨(Nat.le_trans (show (kc + 1) + 0 ≤ 300000 by omega) (Nat.le_of_ble_eq_true rfl)), (Nat.le_trans (show (ks + 10) + 0 ≤ 300000 by omega) (Nat.le_of_ble_eq_true rfl))⟩) hS (fun x553 u551 H locs w552 hG hS => ?_)
  obtain ⟨hf555, w552, hq554⟩ := w552
  refine lv_pop hx hb dL_law_469 rfl ?_
  refine lv_goto (tgt := 1047) hx hb dL_law_470 (by decide) ?_
  obtain ⟨x556, h557⟩ : ∃ y : Int32, y = i + Int32.ofInt (6) := ⟨_, rfl⟩
  try have h558 : x556.toInt = i.toInt + (6) := ty_inc h557 (by decide) (by omega) (by omega)
  refine lv_iinc (v := x556) (lv' := [(4, .int x556), (3, .ref q25), (2, .ref q12), (1, .ref q1), (0, .ref b)]) hx hb dL_law_1047 hl (k := 0) rfl h557.symm (by decide) rfl (fun ls hl => ?_)
  refine lv_goto (tgt := 23) hx hb dL_law_1050 (by decide) ?_
  have hk559 : u551 3 0 = g525 3 0 := hf555 3 0 (by decide) (by decide) (by decide) (by decide) (by decide) (by decide) (by decide) (by decide) (by decide) (by decide) (by decide)
  have hk560 : u551 4 0 = g525 4 0 := hf555 4 0 (by decide) (by decide) (by decide) (by decide) (by decide) (by decide) (by decide) (by decide) (by decide) (by decide) (by decide)
  have hk561 : g525 4 0 = g 4 0 := hf527 4 0 (by decide) (by decide)
  have hk562 : u551 35 0 = g525 35 0 := hf555 35 0 (by decide) (by decide) (by decide) (by decide) (by decide) (by decide) (by decide) (by decide) (by decide) (by decide) (by decide)
  exact ih x556 Γ524 u551 ((kc + 1)) ((ks + 10)) _ _ ls (by omega) (by omega) (by rw [hf555 1 0 (by decide) (by decide) (by decide) (by decide) (by decide) (by decide) (by decide) (by decide) (by decide) (by decide) (by decide), hf527 1 0 (by decide) (by decide), hf555 33 0 (by decide) (by decide) (by decide) (by decide) (by decide) (by decide) (by decide) (by decide) (by decide) (by decide) (by decide), hf527 33 0 (by decide) (by decide)]; exact hi1) (by rw [hf555 2 0 (by decide) (by decide) (by decide) (by decide) (by decide) (by decide) (by decide) (by decide) (by decide) (by decide) (by decide), hf527 2 0 (by decide) (by decide), hf555 34 0 (by decide) (by decide) (by decide) (by decide) (by decide) (by decide) (by decide) (by decide) (by decide) (by decide) (by decide), hf527 34 0 (by decide) (by decide)]; exact hi2) (by omega) (by rw [hf555 5 0 (by decide) (by decide) (by decide) (by decide) (by decide) (by decide) (by decide) (by decide) (by decide) (by decide) (by decide), hf527 5 0 (by decide) (by decide)]; exact hi4) (by omega) (by rw [hf555 6 0 (by decide) (by decide) (by decide) (by decide) (by decide) (by decide) (by decide) (by decide) (by decide) (by decide) (by decide), hf527 6 0 (by decide) (by decide)]; exact hi6) (by rw [hf555 7 0 (by decide) (by decide) (by decide) (by decide) (by decide) (by decide) (by decide) (by decide) (by decide) (by decide) (by decide), hf527 7 0 (by decide) (by decide), hf555 36 0 (by decide) (by decide) (by decide) (by decide) (by decide) (by decide) (by decide) (by decide) (by decide) (by decide) (by decide), hf527 36 0 (by decide) (by decide)]; exact hi7) (by rw [hf555 101 0 (by decide) (by decide) (by decide) (by decide) (by decide) (by decide) (by decide) (by decide) (by decide) (by decide) (by decide), hf527 101 0 (by decide) (by decide), hf555 1 0 (by decide) (by decide) (by decide) (by decide) (by decide) (by decide) (by decide) (by decide) (by decide) (by decide) (by decide), hf527 1 0 (by decide) (by decide)]; exact hi8) (by rw [hf555 104 0 (by decide) (by decide) (by decide) (by decide) (by decide) (by decide) (by decide) (by decide) (by decide) (by decide) (by decide), hf527 104 0 (by decide) (by decide), hf555 2 0 (by decide) (by decide) (by decide) (by decide) (by decide) (by decide) (by decide) (by decide) (by decide) (by decide) (by decide), hf527 2 0 (by decide) (by decide)]; exact hi9) (by rw [hf555 112 0 (by decide) (by decide) (by decide) (by decide) (by decide) (by decide) (by decide) (by decide) (by decide) (by decide) (by decide), hf527 112 0 (by decide) (by decide), hf555 5 0 (by decide) (by decide) (by decide) (by decide) (by decide) (by decide) (by decide) (by decide) (by decide) (by decide) (by decide), hf527 5 0 (by decide) (by decide)]; exact hi10) (by rw [hf555 111 0 (by decide) (by decide) (by decide) (by decide) (by decide) (by decide) (by decide) (by decide) (by decide) (by decide) (by decide), hf527 111 0 (by decide) (by decide), hf555 4 0 (by decide) (by decide) (by decide) (by decide) (by decide) (by decide) (by decide) (by decide) (by decide) (by decide) (by decide), hf527 4 0 (by decide) (by decide)]; exact hi11) (by rw [hf555 114 0 (by decide) (by decide) (by decide) (by decide) (by decide) (by decide) (by decide) (by decide) (by decide) (by decide) (by decide), hf527 114 0 (by decide) (by decide), hf555 6 0 (by decide) (by decide) (by decide) (by decide) (by decide) (by decide) (by decide) (by decide) (by decide) (by decide) (by decide), hf527 6 0 (by decide) (by decide)]; exact hi12) (by omega) (by rw [hf555 122 0 (by decide) (by decide) (by decide) (by decide) (by decide) (by decide) (by decide) (by decide) (by decide) (by decide) (by decide), hf527 122 0 (by decide) (by decide)]; exact hi14) (by (repeat (first | with_reducible assumption | (refine IJ_c (by decide) (by decide) (by decide) ?_) | (refine IJ_take (by omega) (by omega) ?_) | (refine IJ_how (by omega) ?_) | (refine IJ_by (by omega) ?_)))) hU t_q1 t_q12 t_q25 (by omega) (by omega) hG hS (lv_sub hl [0, 1, 2, 3, 4] rfl)
set_option maxHeartbeats 40000000 in
set_option maxRecDepth 100000 in
/-- the law's case 9 -/
theorem law_c9 {p : Program} {e : Env} {s : State} {m : MethodId} {below : List Frame} {meth : Method} {c : Code} (l : Launch) (hl9 : l.stackTraces = false) {b L : Nat} {xs : Nat → Int32} (hLN : L ≤ 3072) (hx : p.tables.exec = Jvm.exec) (hb : c.code = code) (hr : meth.sig.returnType = ret) (hml : c.maxLocals = 7) (hown : s.vm.findClass R_law = some m.cls) (hA : ∀ w ∈ AL, w.before #[Value.ref b] s = true) (hXs : va_X b L xs s s.heap) (hbl : b < s.heap.size) (hlocks : meth.locks = false) {dC : Nat → ClassId} {dI : Nat → Nat → Nat} {dA : Nat → ClassId} {sz : Nat} (hE : en dC dI dA sz s) (hsz : sz = s.heap.size) (hbA : ¬ ty_A sz b) (X : va_W) (q1 q12 q25 : Nat) (n : Nat) (ih : LJ p l e s m below meth c b dC dI dA sz X q1 q12 q25 n) (i : Int32) (Γ : ty_G) (g : gh) (kc ks : Nat) (H : Heap) (locs : List Loc) (ls : Array Slot) (hm : (3073 - i.toInt : Int) < (n + 1 : Nat)) (hi0 : 0 ≤ i.toInt ∧ i.toInt ≤ 3072) (hi1 : g 1 0 = g 33 0 ∧ 0 ≤ g 1 0 ∧ g 1 0 ≤ 6) (hi2 : g 2 0 = g 34 0 ∧ 0 ≤ g 2 0 ∧ g 2 0 ≤ 10) (hi3 : g 3 0 = g 35 0 ∧ 0 ≤ g 3 0 ∧ g 3 0 ≤ 200) (hi4 : 0 ≤ g 5 0 ∧ g 5 0 ≤ 52) (hi5 : 0 ≤ g 4 0 ∧ g 4 0 ≤ i.toInt) (hi6 : 0 ≤ g 6 0 ∧ g 6 0 ≤ 300) (hi7 : 0 ≤ g 7 0 ∧ g 7 0 ≤ g 36 0 ∧ g 36 0 ≤ 9) (hi8 : g 101 0 = g 1 0) (hi9 : g 104 0 = g 2 0) (hi10 : g 112 0 = g 5 0) (hi11 : g 111 0 = g 4 0) (hi12 : g 114 0 = g 6 0) (hi13 : 0 ≤ g 126 0 ∧ g 126 0 ≤ 200) (hi14 : 0 ≤ g 122 0 ∧ g 122 0 ≤ 30) (hIJ : IJ g) (hU : Un Γ) (t_q1 : ty Γ q1 1) (t_q12 : ty Γ q12 30) (t_q25 : ty Γ q25 25) (hkc : kc ≤ 300 + i.toInt.toNat) (hks : ks ≤ 30000 + 28 * i.toInt.toNat) (hG : ty_ok (dC, dI) vwCl Γ (TP dA Γ g) sz X H) (hS : va_S (ty_A sz) s.heap H locs) (hl : lv_has ls 7 [(4, .int i), (3, .ref q25), (2, .ref q12), (1, .ref q1), (0, .ref b)]) (hiL : i.toInt + 6 ≤ (L : Int)) : W p l e room_1 s m #[Value.ref b] below meth c H locs kc ks (lw_Z below #[Value.ref b] s) (F0 m 473 ls []) := by
  refine lv_aload_n hx hb dL_law_473 rfl (lv_at hl 3 rfl) ?_
  refine lv_aload_n hx hb dL_law_474 rfl (lv_at hl 4 rfl) ?_
  refine lv_iload hx hb dL_law_475 (lv_at hl 0 rfl) ?_
  refine ty_iconst hx hb (1) dL_law_477 (by decide) (fun x563 h564 => ?_)
  refine ty_iadd hx hb dL_law_478 (fun x565 h566 => ?_)
  have h567 := lw_ix (k := 1) h564 h566 hi0 hiL hLN (by decide)
  refine va_sld hx hb hXs hbl hbA hS (i := x565) (ty_ix h567.2) dL_law_479 ?_
  refine W.eq (g2 := F0 m 480 ls [.int (xs (i.toInt.toNat + 1)), .ref q1]) (by rw [lw_xs (xs := xs) h567.1 hi0.1]) ?_
  clear h567 h566 h564
  refine lv_topi (fun x568 s569 => ?_)
  refine lv_aload_n hx hb dL_law_480 rfl (lv_at hl 4 rfl) ?_
  refine lv_iload hx hb dL_law_481 (lv_at hl 0 rfl) ?_
  refine ty_iconst hx hb (2) dL_law_483 (by decide) (fun x570 h571 => ?_)
  refine ty_iadd hx hb dL_law_484 (fun x572 h573 => ?_)
  have h574 := lw_ix (k := 2) h571 h573 hi0 hiL hLN (by decide)
  refine va_sld hx hb hXs hbl hbA hS (i := x572) (ty_ix h574.2) dL_law_485 ?_
  refine W.eq (g2 := F0 m 486 ls [.int (xs (i.toInt.toNat + 2)), .int x568, .ref q1]) (by rw [lw_xs (xs := xs) h574.1 hi0.1]) ?_
  clear h574 h573 h571
  refine lv_topi (fun x575 s576 => ?_)
  refine lv_aload_n hx hb dL_law_486 rfl (lv_at hl 4 rfl) ?_
  refine lv_iload hx hb dL_law_487 (lv_at hl 0 rfl) ?_
  refine ty_iconst hx hb (3) dL_law_489 (by decide) (fun x577 h578 => ?_)
  refine ty_iadd hx hb dL_law_490 (fun x579 h580 => ?_)
  have h581 := lw_ix (k := 3) h578 h580 hi0 hiL hLN (by decide)
  refine va_sld hx hb hXs hbl hbA hS (i := x579) (ty_ix h581.2) dL_law_491 ?_
  refine W.eq (g2 := F0 m 492 ls [.int (xs (i.toInt.toNat + 3)), .int x575, .int x568, .ref q1]) (by rw [lw_xs (xs := xs) h581.1 hi0.1]) ?_
  clear h581 h580 h578
  refine lv_topi (fun x582 s583 => ?_)
  refine lv_aload_n hx hb dL_law_492 rfl (lv_at hl 4 rfl) ?_
  refine lv_iload hx hb dL_law_493 (lv_at hl 0 rfl) ?_
  refine ty_iconst hx hb (4) dL_law_495 (by decide) (fun x584 h585 => ?_)
  refine ty_iadd hx hb dL_law_496 (fun x586 h587 => ?_)
  have h588 := lw_ix (k := 4) h585 h587 hi0 hiL hLN (by decide)
  refine va_sld hx hb hXs hbl hbA hS (i := x586) (ty_ix h588.2) dL_law_497 ?_
  refine W.eq (g2 := F0 m 498 ls [.int (xs (i.toInt.toNat + 4)), .int x582, .int x575, .int x568, .ref q1]) (by rw [lw_xs (xs := xs) h588.1 hi0.1]) ?_
  clear h588 h587 h585
  refine lv_topi (fun x589 s590 => ?_)
  refine lv_aload_n hx hb dL_law_498 rfl (lv_at hl 4 rfl) ?_
  refine lv_iload hx hb dL_law_499 (lv_at hl 0 rfl) ?_
  refine ty_iconst hx hb (5) dL_law_501 (by decide) (fun x591 h592 => ?_)
  refine ty_iadd hx hb dL_law_502 (fun x593 h594 => ?_)
  have h595 := lw_ix (k := 5) h592 h594 hi0 hiL hLN (by decide)
  refine va_sld hx hb hXs hbl hbA hS (i := x593) (ty_ix h595.2) dL_law_503 ?_
  refine W.eq (g2 := F0 m 504 ls [.int (xs (i.toInt.toNat + 5)), .int x589, .int x582, .int x575, .int x568, .ref q1]) (by rw [lw_xs (xs := xs) h595.1 hi0.1]) ?_
  clear h595 h594 h592
  refine lv_topi (fun x596 s597 => ?_)
  refine cIB (va_runV (C := RX8) (As := [.int x568, .int x575, .int x582, .int x589, .int x596]) (rest := []) ⟨hx, hb, hml, hown, hA⟩ (k_X8_wish l dC dI dA sz X Γ hU g q1 t_q1 x568 x575 x582 x589 x596   (by first | with_reducible assumption | omega)) ⟨callB_of 5 hA (al_A wd_3_68) rfl rfl rfl (hA _ wd_1_1) (hA _ wd_3_65) (by decide +kernel) ⟨Nat.le_of_ble_eq_true rfl, Nat.le_of_ble_eq_true rfl⟩, hA _ wd_3_66, hA _ wd_3_67⟩ ⟨bl, recv_X8 hE hG t_q1, fun U hU9 hW9 => ⟨rfl, by rw [hU9]; exact hG, hE.go hS hU9 hW9⟩⟩ rfl rfl hl.1 rfl (lv_room (Nat.le_of_ble_eq_true rfl)) dL_law_504 ⟨(Nat.le_trans (show kc + 1 ≤ 300000 by omega) (Nat.le_of_ble_eq_true rfl)), (Nat.le_trans (show ks + 4 ≤ 300000 by omega) (Nat.le_of_ble_eq_true rfl))⟩) hS (fun x600 u598 H locs w599 hG hS => ?_)
  obtain ⟨Γ601, g602⟩ := u598
  dsimp only at w599 hG
  obtain ⟨hx603, hU, eu606⟩ := w599
  rw [eu606] at hG
  have hX607 : ext Γ Γ601 := ext.trans ext.rf hx603
  replace t_q25 : ty Γ601 q25 25 := hx603.one t_q25 (by decide)
  replace t_q12 : ty Γ601 q12 30 := hx603.one t_q12 (by decide)
  replace t_q1 : ty Γ601 q1 1 := hx603.one t_q1 (by decide)
  refine lv_pop hx hb dL_law_507 rfl ?_
  refine lv_aload_n hx hb dL_law_508 rfl (lv_at hl 2 rfl) ?_
  refine lv_aload_n hx hb dL_law_509 rfl (lv_at hl 4 rfl) ?_
  refine lv_iload hx hb dL_law_510 (lv_at hl 0 rfl) ?_
  refine ty_iconst hx hb (1) dL_law_512 (by decide) (fun x608 h609 => ?_)
  refine ty_iadd hx hb dL_law_513 (fun x610 h611 => ?_)
  have h612 := lw_ix (k := 1) h609 h611 hi0 hiL hLN (by decide)
  refine va_sld hx hb hXs hbl hbA hS (i := x610) (ty_ix h612.2) dL_law_514 ?_
  refine W.eq (g2 := F0 m 515 ls [.int (xs (i.toInt.toNat + 1)), .ref q12]) (by rw [lw_xs (xs := xs) h612.1 hi0.1]) ?_
  clear h612 h611 h609
  refine W.eq (g2 := F0 m 515 ls [.int x568, .ref q12]) (by rw [s569]) ?_
  refine lv_aload_n hx hb dL_law_515 rfl (lv_at hl 4 rfl) ?_
  refine lv_iload hx hb dL_law_516 (lv_at hl 0 rfl) ?_
  refine ty_iconst hx hb (2) dL_law_518 (by decide) (fun x613 h614 => ?_)
  refine ty_iadd hx hb dL_law_519 (fun x615 h616 => ?_)
  have h617 := lw_ix (k := 2) h614 h616 hi0 hiL hLN (by decide)
  refine va_sld hx hb hXs hbl hbA hS (i := x615) (ty_ix h617.2) dL_law_520 ?_
  refine W.eq (g2 := F0 m 521 ls [.int (xs (i.toInt.toNat + 2)), .int x568, .ref q12]) (by rw [lw_xs (xs := xs) h617.1 hi0.1]) ?_
  clear h617 h616 h614
  refine W.eq (g2 := F0 m 521 ls [.int x575, .int x568, .ref q12]) (by rw [s576]) ?_
  refine lv_aload_n hx hb dL_law_521 rfl (lv_at hl 4 rfl) ?_
  refine lv_iload hx hb dL_law_522 (lv_at hl 0 rfl) ?_
  refine ty_iconst hx hb (3) dL_law_524 (by decide) (fun x618 h619 => ?_)
  refine ty_iadd hx hb dL_law_525 (fun x620 h621 => ?_)
  have h622 := lw_ix (k := 3) h619 h621 hi0 hiL hLN (by decide)
  refine va_sld hx hb hXs hbl hbA hS (i := x620) (ty_ix h622.2) dL_law_526 ?_
  refine W.eq (g2 := F0 m 527 ls [.int (xs (i.toInt.toNat + 3)), .int x575, .int x568, .ref q12]) (by rw [lw_xs (xs := xs) h622.1 hi0.1]) ?_
  clear h622 h621 h619
  refine W.eq (g2 := F0 m 527 ls [.int x582, .int x575, .int x568, .ref q12]) (by rw [s583]) ?_
  refine lv_aload_n hx hb dL_law_527 rfl (lv_at hl 4 rfl) ?_
  refine lv_iload hx hb dL_law_528 (lv_at hl 0 rfl) ?_
  refine ty_iconst hx hb (4) dL_law_530 (by decide) (fun x623 h624 => ?_)
  refine ty_iadd hx hb dL_law_531 (fun x625 h626 => ?_)
  have h627 := lw_ix (k := 4) h624 h626 hi0 hiL hLN (by decide)
  refine va_sld hx hb hXs hbl hbA hS (i := x625) (ty_ix h627.2) dL_law_532 ?_
  refine W.eq (g2 := F0 m 533 ls [.int (xs (i.toInt.toNat + 4)), .int x582, .int x575, .int x568, .ref q12]) (by rw [lw_xs (xs := xs) h627.1 hi0.1]) ?_
  clear h627 h626 h624
  refine W.eq (g2 := F0 m 533 ls [.int x589, .int x582, .int x575, .int x568, .ref q12]) (by rw [s590]) ?_
  refine lv_aload_n hx hb dL_law_533 rfl (lv_at hl 4 rfl) ?_
  refine lv_iload hx hb dL_law_534 (lv_at hl 0 rfl) ?_
  refine ty_iconst hx hb (5) dL_law_536 (by decide) (fun x628 h629 => ?_)
  refine ty_iadd hx hb dL_law_537 (fun x630 h631 => ?_)
  have h632 := lw_ix (k := 5) h629 h631 hi0 hiL hLN (by decide)
  refine va_sld hx hb hXs hbl hbA hS (i := x630) (ty_ix h632.2) dL_law_538 ?_
  refine W.eq (g2 := F0 m 539 ls [.int (xs (i.toInt.toNat + 5)), .int x589, .int x582, .int x575, .int x568, .ref q12]) (by rw [lw_xs (xs := xs) h632.1 hi0.1]) ?_
  clear h632 h631 h629
  refine W.eq (g2 := F0 m 539 ls [.int x596, .int x589, .int x582, .int x575, .int x568, .ref q12]) (by rw [s597]) ?_
  refine cI (va_runV (C := RX9) (As := [.int x568, .int x575, .int x582, .int x589, .int x596]) (rest := []) ⟨hx, hb, hml, hown, hA⟩ (k_X9_wish l dC dI dA sz X Γ601 hU g q12 t_q12 x568 x575 x582 x589 x596   (by first | with_reducible assumption | omega)) ⟨callB_of 5 hA (al_A wd_5_132) rfl rfl rfl (hA _ wd_1_7) (hA _ wd_5_129) (by decide +kernel) ⟨Nat.le_of_ble_eq_true rfl, Nat.le_of_ble_eq_true rfl⟩, hA _ wd_5_130, hA _ wd_5_131⟩ ⟨bl, recv_X9 hE hG t_q12, fun U hU9 hW9 => ⟨rfl, by rw [hU9]; exact hG, hE.go hS hU9 hW9⟩⟩ rfl rfl hl.1 rfl (lv_room (Nat.le_of_ble_eq_true rfl)) dL_law_539 ⟨(Nat.le_trans (show (kc + 1) + 0 ≤ 300000 by omega) (Nat.le_of_ble_eq_true rfl)), (Nat.le_trans (show (ks + 4) + 0 ≤ 300000 by omega) (Nat.le_of_ble_eq_true rfl))⟩) hS (fun x635 u633 H locs w634 hG hS => ?_)
  have hf636 := w634
  have hj637 : IJ u633 := IJ_cg (hf636 126 0 (by decide) (by decide)) (fun j => hf636 132 j (by decide) (by decide)) (fun j => hf636 134 j (by decide) (by decide)) (by (repeat (first | with_reducible assumption | (refine IJ_c (by decide) (by decide) (by decide) ?_) | (refine IJ_take (by omega) (by omega) ?_) | (refine IJ_how (by omega) ?_) | (refine IJ_by (by omega) ?_))))
  refine lv_pop hx hb dL_law_542 rfl ?_
  refine lv_goto (tgt := 1047) hx hb dL_law_543 (by decide) ?_
  obtain ⟨x638, h639⟩ : ∃ y : Int32, y = i + Int32.ofInt (6) := ⟨_, rfl⟩
  try have h640 : x638.toInt = i.toInt + (6) := ty_inc h639 (by decide) (by omega) (by omega)
  refine lv_iinc (v := x638) (lv' := [(4, .int x638), (3, .ref q25), (2, .ref q12), (1, .ref q1), (0, .ref b)]) hx hb dL_law_1047 hl (k := 0) rfl h639.symm (by decide) rfl (fun ls hl => ?_)
  refine lv_goto (tgt := 23) hx hb dL_law_1050 (by decide) ?_
  have hk641 : u633 4 0 = g 4 0 := hf636 4 0 (by decide) (by decide)
  exact ih x638 Γ601 u633 ((kc + 1)) ((ks + 4)) _ _ ls (by omega) (by omega) (by rw [hf636 1 0 (by decide) (by decide), hf636 33 0 (by decide) (by decide)]; exact hi1) (by rw [hf636 2 0 (by decide) (by decide), hf636 34 0 (by decide) (by decide)]; exact hi2) (by rw [hf636 3 0 (by decide) (by decide), hf636 35 0 (by decide) (by decide)]; exact hi3) (by rw [hf636 5 0 (by decide) (by decide)]; exact hi4) (by omega) (by rw [hf636 6 0 (by decide) (by decide)]; exact hi6) (by rw [hf636 7 0 (by decide) (by decide), hf636 36 0 (by decide) (by decide)]; exact hi7) (by rw [hf636 101 0 (by decide) (by decide), hf636 1 0 (by decide) (by decide)]; exact hi8) (by rw [hf636 104 0 (by decide) (by decide), hf636 2 0 (by decide) (by decide)]; exact hi9) (by rw [hf636 112 0 (by decide) (by decide), hf636 5 0 (by decide) (by decide)]; exact hi10) (by rw [hf636 111 0 (by decide) (by decide), hf636 4 0 (by decide) (by decide)]; exact hi11) (by rw [hf636 114 0 (by decide) (by decide), hf636 6 0 (by decide) (by decide)]; exact hi12) (by rw [hf636 126 0 (by decide) (by decide)]; exact hi13) (by rw [hf636 122 0 (by decide) (by decide)]; exact hi14) (by (repeat (first | with_reducible assumption | (refine IJ_c (by decide) (by decide) (by decide) ?_) | (refine IJ_take (by omega) (by omega) ?_) | (refine IJ_how (by omega) ?_) | (refine IJ_by (by omega) ?_)))) hU t_q1 t_q12 t_q25 (by omega) (by omega) hG hS (lv_sub hl [0, 1, 2, 3, 4] rfl)
set_option maxHeartbeats 40000000 in
set_option maxRecDepth 100000 in
/-- the law's case 10 -/
theorem law_c10 {p : Program} {e : Env} {s : State} {m : MethodId} {below : List Frame} {meth : Method} {c : Code} (l : Launch) (hl9 : l.stackTraces = false) {b L : Nat} {xs : Nat → Int32} (hLN : L ≤ 3072) (hx : p.tables.exec = Jvm.exec) (hb : c.code = code) (hr : meth.sig.returnType = ret) (hml : c.maxLocals = 7) (hown : s.vm.findClass R_law = some m.cls) (hA : ∀ w ∈ AL, w.before #[Value.ref b] s = true) (hXs : va_X b L xs s s.heap) (hbl : b < s.heap.size) (hlocks : meth.locks = false) {dC : Nat → ClassId} {dI : Nat → Nat → Nat} {dA : Nat → ClassId} {sz : Nat} (hE : en dC dI dA sz s) (hsz : sz = s.heap.size) (hbA : ¬ ty_A sz b) (X : va_W) (q1 q12 q25 : Nat) (n : Nat) (ih : LJ p l e s m below meth c b dC dI dA sz X q1 q12 q25 n) (i : Int32) (Γ : ty_G) (g : gh) (kc ks : Nat) (H : Heap) (locs : List Loc) (ls : Array Slot) (hm : (3073 - i.toInt : Int) < (n + 1 : Nat)) (hi0 : 0 ≤ i.toInt ∧ i.toInt ≤ 3072) (hi1 : g 1 0 = g 33 0 ∧ 0 ≤ g 1 0 ∧ g 1 0 ≤ 6) (hi2 : g 2 0 = g 34 0 ∧ 0 ≤ g 2 0 ∧ g 2 0 ≤ 10) (hi3 : g 3 0 = g 35 0 ∧ 0 ≤ g 3 0 ∧ g 3 0 ≤ 200) (hi4 : 0 ≤ g 5 0 ∧ g 5 0 ≤ 52) (hi5 : 0 ≤ g 4 0 ∧ g 4 0 ≤ i.toInt) (hi6 : 0 ≤ g 6 0 ∧ g 6 0 ≤ 300) (hi7 : 0 ≤ g 7 0 ∧ g 7 0 ≤ g 36 0 ∧ g 36 0 ≤ 9) (hi8 : g 101 0 = g 1 0) (hi9 : g 104 0 = g 2 0) (hi10 : g 112 0 = g 5 0) (hi11 : g 111 0 = g 4 0) (hi12 : g 114 0 = g 6 0) (hi13 : 0 ≤ g 126 0 ∧ g 126 0 ≤ 200) (hi14 : 0 ≤ g 122 0 ∧ g 122 0 ≤ 30) (hIJ : IJ g) (hU : Un Γ) (t_q1 : ty Γ q1 1) (t_q12 : ty Γ q12 30) (t_q25 : ty Γ q25 25) (hkc : kc ≤ 300 + i.toInt.toNat) (hks : ks ≤ 30000 + 28 * i.toInt.toNat) (hG : ty_ok (dC, dI) vwCl Γ (TP dA Γ g) sz X H) (hS : va_S (ty_A sz) s.heap H locs) (hl : lv_has ls 7 [(4, .int i), (3, .ref q25), (2, .ref q12), (1, .ref q1), (0, .ref b)]) (hiL : i.toInt + 6 ≤ (L : Int)) : W p l e room_1 s m #[Value.ref b] below meth c H locs kc ks (lw_Z below #[Value.ref b] s) (F0 m 546 ls []) := by
  refine lv_aload_n hx hb dL_law_546 rfl (lv_at hl 3 rfl) ?_
  refine lv_aload_n hx hb dL_law_547 rfl (lv_at hl 4 rfl) ?_
  refine lv_iload hx hb dL_law_548 (lv_at hl 0 rfl) ?_
  refine ty_iconst hx hb (1) dL_law_550 (by decide) (fun x642 h643 => ?_)
  refine ty_iadd hx hb dL_law_551 (fun x644 h645 => ?_)
  have h646 := lw_ix (k := 1) h643 h645 hi0 hiL hLN (by decide)
  refine va_sld hx hb hXs hbl hbA hS (i := x644) (ty_ix h646.2) dL_law_552 ?_
  refine W.eq (g2 := F0 m 553 ls [.int (xs (i.toInt.toNat + 1)), .ref q1]) (by rw [lw_xs (xs := xs) h646.1 hi0.1]) ?_
  clear h646 h645 h643
  refine lv_topi (fun x647 s648 => ?_)
  refine lv_aload_n hx hb dL_law_553 rfl (lv_at hl 4 rfl) ?_
  refine lv_iload hx hb dL_law_554 (lv_at hl 0 rfl) ?_
  refine ty_iconst hx hb (2) dL_law_556 (by decide) (fun x649 h650 => ?_)
  refine ty_iadd hx hb dL_law_557 (fun x651 h652 => ?_)
  have h653 := lw_ix (k := 2) h650 h652 hi0 hiL hLN (by decide)
  refine va_sld hx hb hXs hbl hbA hS (i := x651) (ty_ix h653.2) dL_law_558 ?_
  refine W.eq (g2 := F0 m 559 ls [.int (xs (i.toInt.toNat + 2)), .int x647, .ref q1]) (by rw [lw_xs (xs := xs) h653.1 hi0.1]) ?_
  clear h653 h652 h650
  refine lv_topi (fun x654 s655 => ?_)
  refine lv_aload_n hx hb dL_law_559 rfl (lv_at hl 4 rfl) ?_
  refine lv_iload hx hb dL_law_560 (lv_at hl 0 rfl) ?_
  refine ty_iconst hx hb (3) dL_law_562 (by decide) (fun x656 h657 => ?_)
  refine ty_iadd hx hb dL_law_563 (fun x658 h659 => ?_)
  have h660 := lw_ix (k := 3) h657 h659 hi0 hiL hLN (by decide)
  refine va_sld hx hb hXs hbl hbA hS (i := x658) (ty_ix h660.2) dL_law_564 ?_
  refine W.eq (g2 := F0 m 565 ls [.int (xs (i.toInt.toNat + 3)), .int x654, .int x647, .ref q1]) (by rw [lw_xs (xs := xs) h660.1 hi0.1]) ?_
  clear h660 h659 h657
  refine lv_topi (fun x661 s662 => ?_)
  refine lv_aload_n hx hb dL_law_565 rfl (lv_at hl 4 rfl) ?_
  refine lv_iload hx hb dL_law_566 (lv_at hl 0 rfl) ?_
  refine ty_iconst hx hb (4) dL_law_568 (by decide) (fun x663 h664 => ?_)
  refine ty_iadd hx hb dL_law_569 (fun x665 h666 => ?_)
  have h667 := lw_ix (k := 4) h664 h666 hi0 hiL hLN (by decide)
  refine va_sld hx hb hXs hbl hbA hS (i := x665) (ty_ix h667.2) dL_law_570 ?_
  refine W.eq (g2 := F0 m 571 ls [.int (xs (i.toInt.toNat + 4)), .int x661, .int x654, .int x647, .ref q1]) (by rw [lw_xs (xs := xs) h667.1 hi0.1]) ?_
  clear h667 h666 h664
  refine lv_topi (fun x668 s669 => ?_)
  refine lv_aload_n hx hb dL_law_571 rfl (lv_at hl 4 rfl) ?_
  refine lv_iload hx hb dL_law_572 (lv_at hl 0 rfl) ?_
  refine ty_iconst hx hb (5) dL_law_574 (by decide) (fun x670 h671 => ?_)
  refine ty_iadd hx hb dL_law_575 (fun x672 h673 => ?_)
  have h674 := lw_ix (k := 5) h671 h673 hi0 hiL hLN (by decide)
  refine va_sld hx hb hXs hbl hbA hS (i := x672) (ty_ix h674.2) dL_law_576 ?_
  refine W.eq (g2 := F0 m 577 ls [.int (xs (i.toInt.toNat + 5)), .int x668, .int x661, .int x654, .int x647, .ref q1]) (by rw [lw_xs (xs := xs) h674.1 hi0.1]) ?_
  clear h674 h673 h671
  refine lv_topi (fun x675 s676 => ?_)
  refine cIB (va_runV (C := RX8) (As := [.int x647, .int x654, .int x661, .int x668, .int x675]) (rest := []) ⟨hx, hb, hml, hown, hA⟩ (k_X8_rushWish l dC dI dA sz X Γ hU g q1 t_q1 x647 x654 x661 x668 x675   (by first | with_reducible assumption | omega)) ⟨callB_of 5 hA (al_A wd_3_106) rfl rfl rfl (hA _ wd_1_1) (hA _ wd_3_103) (by decide +kernel) ⟨Nat.le_of_ble_eq_true rfl, Nat.le_of_ble_eq_true rfl⟩, hA _ wd_3_104, hA _ wd_3_105⟩ ⟨bl, recv_X8 hE hG t_q1, fun U hU9 hW9 => ⟨rfl, by rw [hU9]; exact hG, hE.go hS hU9 hW9⟩⟩ rfl rfl hl.1 rfl (lv_room (Nat.le_of_ble_eq_true rfl)) dL_law_577 ⟨(Nat.le_trans (show kc + 1 ≤ 300000 by omega) (Nat.le_of_ble_eq_true rfl)), (Nat.le_trans (show ks + 4 ≤ 300000 by omega) (Nat.le_of_ble_eq_true rfl))⟩) hS (fun x679 u677 H locs w678 hG hS => ?_)
  obtain ⟨Γ680, g681⟩ := u677
  dsimp only at w678 hG
  obtain ⟨hx682, hU, eu685⟩ := w678
  rw [eu685] at hG
  have hX686 : ext Γ Γ680 := ext.trans ext.rf hx682
  replace t_q25 : ty Γ680 q25 25 := hx682.one t_q25 (by decide)
  replace t_q12 : ty Γ680 q12 30 := hx682.one t_q12 (by decide)
  replace t_q1 : ty Γ680 q1 1 := hx682.one t_q1 (by decide)
  refine lv_pop hx hb dL_law_580 rfl ?_
  refine lv_aload_n hx hb dL_law_581 rfl (lv_at hl 2 rfl) ?_
  refine lv_aload_n hx hb dL_law_582 rfl (lv_at hl 4 rfl) ?_
  refine lv_iload hx hb dL_law_583 (lv_at hl 0 rfl) ?_
  refine ty_iconst hx hb (1) dL_law_585 (by decide) (fun x687 h688 => ?_)
  refine ty_iadd hx hb dL_law_586 (fun x689 h690 => ?_)
  have h691 := lw_ix (k := 1) h688 h690 hi0 hiL hLN (by decide)
  refine va_sld hx hb hXs hbl hbA hS (i := x689) (ty_ix h691.2) dL_law_587 ?_
  refine W.eq (g2 := F0 m 588 ls [.int (xs (i.toInt.toNat + 1)), .ref q12]) (by rw [lw_xs (xs := xs) h691.1 hi0.1]) ?_
  clear h691 h690 h688
  refine W.eq (g2 := F0 m 588 ls [.int x647, .ref q12]) (by rw [s648]) ?_
  refine lv_aload_n hx hb dL_law_588 rfl (lv_at hl 4 rfl) ?_
  refine lv_iload hx hb dL_law_589 (lv_at hl 0 rfl) ?_
  refine ty_iconst hx hb (2) dL_law_591 (by decide) (fun x692 h693 => ?_)
  refine ty_iadd hx hb dL_law_592 (fun x694 h695 => ?_)
  have h696 := lw_ix (k := 2) h693 h695 hi0 hiL hLN (by decide)
  refine va_sld hx hb hXs hbl hbA hS (i := x694) (ty_ix h696.2) dL_law_593 ?_
  refine W.eq (g2 := F0 m 594 ls [.int (xs (i.toInt.toNat + 2)), .int x647, .ref q12]) (by rw [lw_xs (xs := xs) h696.1 hi0.1]) ?_
  clear h696 h695 h693
  refine W.eq (g2 := F0 m 594 ls [.int x654, .int x647, .ref q12]) (by rw [s655]) ?_
  refine lv_aload_n hx hb dL_law_594 rfl (lv_at hl 4 rfl) ?_
  refine lv_iload hx hb dL_law_595 (lv_at hl 0 rfl) ?_
  refine ty_iconst hx hb (3) dL_law_597 (by decide) (fun x697 h698 => ?_)
  refine ty_iadd hx hb dL_law_598 (fun x699 h700 => ?_)
  have h701 := lw_ix (k := 3) h698 h700 hi0 hiL hLN (by decide)
  refine va_sld hx hb hXs hbl hbA hS (i := x699) (ty_ix h701.2) dL_law_599 ?_
  refine W.eq (g2 := F0 m 600 ls [.int (xs (i.toInt.toNat + 3)), .int x654, .int x647, .ref q12]) (by rw [lw_xs (xs := xs) h701.1 hi0.1]) ?_
  clear h701 h700 h698
  refine W.eq (g2 := F0 m 600 ls [.int x661, .int x654, .int x647, .ref q12]) (by rw [s662]) ?_
  refine lv_aload_n hx hb dL_law_600 rfl (lv_at hl 4 rfl) ?_
  refine lv_iload hx hb dL_law_601 (lv_at hl 0 rfl) ?_
  refine ty_iconst hx hb (4) dL_law_603 (by decide) (fun x702 h703 => ?_)
  refine ty_iadd hx hb dL_law_604 (fun x704 h705 => ?_)
  have h706 := lw_ix (k := 4) h703 h705 hi0 hiL hLN (by decide)
  refine va_sld hx hb hXs hbl hbA hS (i := x704) (ty_ix h706.2) dL_law_605 ?_
  refine W.eq (g2 := F0 m 606 ls [.int (xs (i.toInt.toNat + 4)), .int x661, .int x654, .int x647, .ref q12]) (by rw [lw_xs (xs := xs) h706.1 hi0.1]) ?_
  clear h706 h705 h703
  refine W.eq (g2 := F0 m 606 ls [.int x668, .int x661, .int x654, .int x647, .ref q12]) (by rw [s669]) ?_
  refine lv_aload_n hx hb dL_law_606 rfl (lv_at hl 4 rfl) ?_
  refine lv_iload hx hb dL_law_607 (lv_at hl 0 rfl) ?_
  refine ty_iconst hx hb (5) dL_law_609 (by decide) (fun x707 h708 => ?_)
  refine ty_iadd hx hb dL_law_610 (fun x709 h710 => ?_)
  have h711 := lw_ix (k := 5) h708 h710 hi0 hiL hLN (by decide)
  refine va_sld hx hb hXs hbl hbA hS (i := x709) (ty_ix h711.2) dL_law_611 ?_
  refine W.eq (g2 := F0 m 612 ls [.int (xs (i.toInt.toNat + 5)), .int x668, .int x661, .int x654, .int x647, .ref q12]) (by rw [lw_xs (xs := xs) h711.1 hi0.1]) ?_
  clear h711 h710 h708
  refine W.eq (g2 := F0 m 612 ls [.int x675, .int x668, .int x661, .int x654, .int x647, .ref q12]) (by rw [s676]) ?_
  refine cI (va_runV (C := RX9) (As := [.int x647, .int x654, .int x661, .int x668, .int x675]) (rest := []) ⟨hx, hb, hml, hown, hA⟩ (k_X9_rushWish l dC dI dA sz X Γ680 hU g q12 t_q12 x647 x654 x661 x668 x675   (by first | with_reducible assumption | omega)) ⟨callB_of 5 hA (al_A wd_5_144) rfl rfl rfl (hA _ wd_1_7) (hA _ wd_5_141) (by decide +kernel) ⟨Nat.le_of_ble_eq_true rfl, Nat.le_of_ble_eq_true rfl⟩, hA _ wd_5_142, hA _ wd_5_143⟩ ⟨bl, recv_X9 hE hG t_q12, fun U hU9 hW9 => ⟨rfl, by rw [hU9]; exact hG, hE.go hS hU9 hW9⟩⟩ rfl rfl hl.1 rfl (lv_room (Nat.le_of_ble_eq_true rfl)) dL_law_612 ⟨(Nat.le_trans (show (kc + 1) + 0 ≤ 300000 by omega) (Nat.le_of_ble_eq_true rfl)), (Nat.le_trans (show (ks + 4) + 0 ≤ 300000 by omega) (Nat.le_of_ble_eq_true rfl))⟩) hS (fun x714 u712 H locs w713 hG hS => ?_)
  have hf715 := w713
  have hj716 : IJ u712 := IJ_cg (hf715 126 0 (by decide) (by decide)) (fun j => hf715 132 j (by decide) (by decide)) (fun j => hf715 134 j (by decide) (by decide)) (by (repeat (first | with_reducible assumption | (refine IJ_c (by decide) (by decide) (by decide) ?_) | (refine IJ_take (by omega) (by omega) ?_) | (refine IJ_how (by omega) ?_) | (refine IJ_by (by omega) ?_))))
  refine lv_pop hx hb dL_law_615 rfl ?_
  refine lv_goto (tgt := 1047) hx hb dL_law_616 (by decide) ?_
  obtain ⟨x717, h718⟩ : ∃ y : Int32, y = i + Int32.ofInt (6) := ⟨_, rfl⟩
  try have h719 : x717.toInt = i.toInt + (6) := ty_inc h718 (by decide) (by omega) (by omega)
  refine lv_iinc (v := x717) (lv' := [(4, .int x717), (3, .ref q25), (2, .ref q12), (1, .ref q1), (0, .ref b)]) hx hb dL_law_1047 hl (k := 0) rfl h718.symm (by decide) rfl (fun ls hl => ?_)
  refine lv_goto (tgt := 23) hx hb dL_law_1050 (by decide) ?_
  have hk720 : u712 4 0 = g 4 0 := hf715 4 0 (by decide) (by decide)
  exact ih x717 Γ680 u712 ((kc + 1)) ((ks + 4)) _ _ ls (by omega) (by omega) (by rw [hf715 1 0 (by decide) (by decide), hf715 33 0 (by decide) (by decide)]; exact hi1) (by rw [hf715 2 0 (by decide) (by decide), hf715 34 0 (by decide) (by decide)]; exact hi2) (by rw [hf715 3 0 (by decide) (by decide), hf715 35 0 (by decide) (by decide)]; exact hi3) (by rw [hf715 5 0 (by decide) (by decide)]; exact hi4) (by omega) (by rw [hf715 6 0 (by decide) (by decide)]; exact hi6) (by rw [hf715 7 0 (by decide) (by decide), hf715 36 0 (by decide) (by decide)]; exact hi7) (by rw [hf715 101 0 (by decide) (by decide), hf715 1 0 (by decide) (by decide)]; exact hi8) (by rw [hf715 104 0 (by decide) (by decide), hf715 2 0 (by decide) (by decide)]; exact hi9) (by rw [hf715 112 0 (by decide) (by decide), hf715 5 0 (by decide) (by decide)]; exact hi10) (by rw [hf715 111 0 (by decide) (by decide), hf715 4 0 (by decide) (by decide)]; exact hi11) (by rw [hf715 114 0 (by decide) (by decide), hf715 6 0 (by decide) (by decide)]; exact hi12) (by rw [hf715 126 0 (by decide) (by decide)]; exact hi13) (by rw [hf715 122 0 (by decide) (by decide)]; exact hi14) (by (repeat (first | with_reducible assumption | (refine IJ_c (by decide) (by decide) (by decide) ?_) | (refine IJ_take (by omega) (by omega) ?_) | (refine IJ_how (by omega) ?_) | (refine IJ_by (by omega) ?_)))) hU t_q1 t_q12 t_q25 (by omega) (by omega) hG hS (lv_sub hl [0, 1, 2, 3, 4] rfl)
set_option maxHeartbeats 40000000 in
set_option maxRecDepth 100000 in
/-- the law's case 11 -/
theorem law_c11 {p : Program} {e : Env} {s : State} {m : MethodId} {below : List Frame} {meth : Method} {c : Code} (l : Launch) (hl9 : l.stackTraces = false) {b L : Nat} {xs : Nat → Int32} (hLN : L ≤ 3072) (hx : p.tables.exec = Jvm.exec) (hb : c.code = code) (hr : meth.sig.returnType = ret) (hml : c.maxLocals = 7) (hown : s.vm.findClass R_law = some m.cls) (hA : ∀ w ∈ AL, w.before #[Value.ref b] s = true) (hXs : va_X b L xs s s.heap) (hbl : b < s.heap.size) (hlocks : meth.locks = false) {dC : Nat → ClassId} {dI : Nat → Nat → Nat} {dA : Nat → ClassId} {sz : Nat} (hE : en dC dI dA sz s) (hsz : sz = s.heap.size) (hbA : ¬ ty_A sz b) (X : va_W) (q1 q12 q25 : Nat) (n : Nat) (ih : LJ p l e s m below meth c b dC dI dA sz X q1 q12 q25 n) (i : Int32) (Γ : ty_G) (g : gh) (kc ks : Nat) (H : Heap) (locs : List Loc) (ls : Array Slot) (hm : (3073 - i.toInt : Int) < (n + 1 : Nat)) (hi0 : 0 ≤ i.toInt ∧ i.toInt ≤ 3072) (hi1 : g 1 0 = g 33 0 ∧ 0 ≤ g 1 0 ∧ g 1 0 ≤ 6) (hi2 : g 2 0 = g 34 0 ∧ 0 ≤ g 2 0 ∧ g 2 0 ≤ 10) (hi3 : g 3 0 = g 35 0 ∧ 0 ≤ g 3 0 ∧ g 3 0 ≤ 200) (hi4 : 0 ≤ g 5 0 ∧ g 5 0 ≤ 52) (hi5 : 0 ≤ g 4 0 ∧ g 4 0 ≤ i.toInt) (hi6 : 0 ≤ g 6 0 ∧ g 6 0 ≤ 300) (hi7 : 0 ≤ g 7 0 ∧ g 7 0 ≤ g 36 0 ∧ g 36 0 ≤ 9) (hi8 : g 101 0 = g 1 0) (hi9 : g 104 0 = g 2 0) (hi10 : g 112 0 = g 5 0) (hi11 : g 111 0 = g 4 0) (hi12 : g 114 0 = g 6 0) (hi13 : 0 ≤ g 126 0 ∧ g 126 0 ≤ 200) (hi14 : 0 ≤ g 122 0 ∧ g 122 0 ≤ 30) (hIJ : IJ g) (hU : Un Γ) (t_q1 : ty Γ q1 1) (t_q12 : ty Γ q12 30) (t_q25 : ty Γ q25 25) (hkc : kc ≤ 300 + i.toInt.toNat) (hks : ks ≤ 30000 + 28 * i.toInt.toNat) (hG : ty_ok (dC, dI) vwCl Γ (TP dA Γ g) sz X H) (hS : va_S (ty_A sz) s.heap H locs) (hl : lv_has ls 7 [(4, .int i), (3, .ref q25), (2, .ref q12), (1, .ref q1), (0, .ref b)]) (hiL : i.toInt + 6 ≤ (L : Int)) : W p l e room_1 s m #[Value.ref b] below meth c H locs kc ks (lw_Z below #[Value.ref b] s) (F0 m 619 ls []) := by
  refine lv_aload_n hx hb dL_law_619 rfl (lv_at hl 3 rfl) ?_
  refine lv_aload_n hx hb dL_law_620 rfl (lv_at hl 4 rfl) ?_
  refine lv_iload hx hb dL_law_621 (lv_at hl 0 rfl) ?_
  refine ty_iconst hx hb (1) dL_law_623 (by decide) (fun x721 h722 => ?_)
  refine ty_iadd hx hb dL_law_624 (fun x723 h724 => ?_)
  have h725 := lw_ix (k := 1) h722 h724 hi0 hiL hLN (by decide)
  refine va_sld hx hb hXs hbl hbA hS (i := x723) (ty_ix h725.2) dL_law_625 ?_
  refine W.eq (g2 := F0 m 626 ls [.int (xs (i.toInt.toNat + 1)), .ref q1]) (by rw [lw_xs (xs := xs) h725.1 hi0.1]) ?_
  clear h725 h724 h722
  refine lv_topi (fun x726 s727 => ?_)
  refine cI (va_runV (C := RX8) (As := [.int x726]) (rest := []) ⟨hx, hb, hml, hown, hA⟩ (k_X8_rings l dC dI dA sz X Γ hU g q1 t_q1 x726   (by first | with_reducible assumption | omega) (by first | with_reducible assumption | omega)) ⟨callB_of 1 hA (al_A wd_3_110) rfl rfl rfl (hA _ wd_1_1) (hA _ wd_3_107) (by decide +kernel) ⟨Nat.le_of_ble_eq_true rfl, Nat.le_of_ble_eq_true rfl⟩, hA _ wd_3_108, hA _ wd_3_109⟩ ⟨bl, recv_X8 hE hG t_q1, fun U hU9 hW9 => ⟨rfl, by rw [hU9]; exact hG, hE.go hS hU9 hW9⟩⟩ rfl rfl hl.1 rfl (lv_room (Nat.le_of_ble_eq_true rfl)) dL_law_626 ⟨(Nat.le_trans (show kc + 0 ≤ 300000 by omega) (Nat.le_of_ble_eq_true rfl)), (Nat.le_trans (show ks + 0 ≤ 300000 by omega) (Nat.le_of_ble_eq_true rfl))⟩) hS (fun x730 u728 H locs w729 hG hS => ?_)
  obtain ⟨hf731, w729⟩ := w729
  have hj732 : IJ u728 := IJ_cg (hf731 126 0 (by decide) (by decide) (by decide)) (fun j => hf731 132 j (by decide) (by decide) (by decide)) (fun j => hf731 134 j (by decide) (by decide) (by decide)) (by (repeat (first | with_reducible assumption | (refine IJ_c (by decide) (by decide) (by decide) ?_) | (refine IJ_take (by omega) (by omega) ?_) | (refine IJ_how (by omega) ?_) | (refine IJ_by (by omega) ?_))))
  refine lv_pop hx hb dL_law_629 rfl ?_
  refine lv_aload_n hx hb dL_law_630 rfl (lv_at hl 2 rfl) ?_
  refine lv_aload_n hx hb dL_law_631 rfl (lv_at hl 4 rfl) ?_
  refine lv_iload hx hb dL_law_632 (lv_at hl 0 rfl) ?_
  refine ty_iconst hx hb (1) dL_law_634 (by decide) (fun x733 h734 => ?_)
  refine ty_iadd hx hb dL_law_635 (fun x735 h736 => ?_)
  have h737 := lw_ix (k := 1) h734 h736 hi0 hiL hLN (by decide)
  refine va_sld hx hb hXs hbl hbA hS (i := x735) (ty_ix h737.2) dL_law_636 ?_
  refine W.eq (g2 := F0 m 637 ls [.int (xs (i.toInt.toNat + 1)), .ref q12]) (by rw [lw_xs (xs := xs) h737.1 hi0.1]) ?_
  clear h737 h736 h734
  refine W.eq (g2 := F0 m 637 ls [.int x726, .ref q12]) (by rw [s727]) ?_
  have hk738 : u728 126 0 = g 126 0 := hf731 126 0 (by decide) (by decide) (by decide)
  refine cI (va_runV (C := RX9) (As := [.int x726]) (rest := []) ⟨hx, hb, hml, hown, hA⟩ (k_X9_rings l dC dI dA sz X Γ hU u728 q12 t_q12 x726   (by first | with_reducible assumption | omega) (by (repeat (first | with_reducible assumption | (refine IJ_c (by decide) (by decide) (by decide) ?_) | (refine IJ_take (by omega) (by omega) ?_) | (refine IJ_how (by omega) ?_) | (refine IJ_by (by omega) ?_))))) ⟨callB_of 1 hA (al_A wd_5_148) rfl rfl rfl (hA _ wd_1_7) (hA _ wd_5_145) (by decide +kernel) ⟨Nat.le_of_ble_eq_true rfl, Nat.le_of_ble_eq_true rfl⟩, hA _ wd_5_146, hA _ wd_5_147⟩ ⟨bl, recv_X9 hE hG t_q12, fun U hU9 hW9 => ⟨rfl, by rw [hU9]; exact hG, hE.go hS hU9 hW9⟩⟩ rfl rfl hl.1 rfl (lv_room (Nat.le_of_ble_eq_true rfl)) dL_law_637 ⟨(Nat.le_trans (show kc + 0 ≤ 300000 by omega) (Nat.le_of_ble_eq_true rfl)), (Nat.le_trans (show ks + 0 ≤ 300000 by omega) (Nat.le_of_ble_eq_true rfl))⟩) hS (fun x741 u739 H locs w740 hG hS => ?_)
  obtain ⟨hf743, hq742⟩ := w740
  refine lv_pop hx hb dL_law_640 rfl ?_
  refine lv_goto (tgt := 1047) hx hb dL_law_641 (by decide) ?_
  obtain ⟨x744, h745⟩ : ∃ y : Int32, y = i + Int32.ofInt (6) := ⟨_, rfl⟩
  try have h746 : x744.toInt = i.toInt + (6) := ty_inc h745 (by decide) (by omega) (by omega)
  refine lv_iinc (v := x744) (lv' := [(4, .int x744), (3, .ref q25), (2, .ref q12), (1, .ref q1), (0, .ref b)]) hx hb dL_law_1047 hl (k := 0) rfl h745.symm (by decide) rfl (fun ls hl => ?_)
  refine lv_goto (tgt := 23) hx hb dL_law_1050 (by decide) ?_
  have hk747 : u739 4 0 = u728 4 0 := hf743 4 0 (by decide) (by decide) (by decide) (by decide) (by decide) (by decide) (by decide) (by decide) (by decide) (by decide) (by decide) (by decide)
  have hk748 : u728 4 0 = g 4 0 := hf731 4 0 (by decide) (by decide) (by decide)
  have hk749 : u739 7 0 = u728 7 0 := hf743 7 0 (by decide) (by decide) (by decide) (by decide) (by decide) (by decide) (by decide) (by decide) (by decide) (by decide) (by decide) (by decide)
  have hk750 : u739 36 0 = u728 36 0 := hf743 36 0 (by decide) (by decide) (by decide) (by decide) (by decide) (by decide) (by decide) (by decide) (by decide) (by decide) (by decide) (by decide)
  exact ih x744 Γ u739 (kc) (ks) _ _ ls (by omega) (by omega) (by rw [hf743 1 0 (by decide) (by decide) (by decide) (by decide) (by decide) (by decide) (by decide) (by decide) (by decide) (by decide) (by decide) (by decide), hf731 1 0 (by decide) (by decide) (by decide), hf743 33 0 (by decide) (by decide) (by decide) (by decide) (by decide) (by decide) (by decide) (by decide) (by decide) (by decide) (by decide) (by decide), hf731 33 0 (by decide) (by decide) (by decide)]; exact hi1) (by rw [hf743 2 0 (by decide) (by decide) (by decide) (by decide) (by decide) (by decide) (by decide) (by decide) (by decide) (by decide) (by decide) (by decide), hf731 2 0 (by decide) (by decide) (by decide), hf743 34 0 (by decide) (by decide) (by decide) (by decide) (by decide) (by decide) (by decide) (by decide) (by decide) (by decide) (by decide) (by decide), hf731 34 0 (by decide) (by decide) (by decide)]; exact hi2) (by rw [hf743 3 0 (by decide) (by decide) (by decide) (by decide) (by decide) (by decide) (by decide) (by decide) (by decide) (by decide) (by decide) (by decide), hf731 3 0 (by decide) (by decide) (by decide), hf743 35 0 (by decide) (by decide) (by decide) (by decide) (by decide) (by decide) (by decide) (by decide) (by decide) (by decide) (by decide) (by decide), hf731 35 0 (by decide) (by decide) (by decide)]; exact hi3) (by rw [hf743 5 0 (by decide) (by decide) (by decide) (by decide) (by decide) (by decide) (by decide) (by decide) (by decide) (by decide) (by decide) (by decide), hf731 5 0 (by decide) (by decide) (by decide)]; exact hi4) (by omega) (by rw [hf743 6 0 (by decide) (by decide) (by decide) (by decide) (by decide) (by decide) (by decide) (by decide) (by decide) (by decide) (by decide) (by decide), hf731 6 0 (by decide) (by decide) (by decide)]; exact hi6) (by omega) (by rw [hf743 101 0 (by decide) (by decide) (by decide) (by decide) (by decide) (by decide) (by decide) (by decide) (by decide) (by decide) (by decide) (by decide), hf731 101 0 (by decide) (by decide) (by decide), hf743 1 0 (by decide) (by decide) (by decide) (by decide) (by decide) (by decide) (by decide) (by decide) (by decide) (by decide) (by decide) (by decide), hf731 1 0 (by decide) (by decide) (by decide)]; exact hi8) (by rw [hf743 104 0 (by decide) (by decide) (by decide) (by decide) (by decide) (by decide) (by decide) (by decide) (by decide) (by decide) (by decide) (by decide), hf731 104 0 (by decide) (by decide) (by decide), hf743 2 0 (by decide) (by decide) (by decide) (by decide) (by decide) (by decide) (by decide) (by decide) (by decide) (by decide) (by decide) (by decide), hf731 2 0 (by decide) (by decide) (by decide)]; exact hi9) (by rw [hf743 112 0 (by decide) (by decide) (by decide) (by decide) (by decide) (by decide) (by decide) (by decide) (by decide) (by decide) (by decide) (by decide), hf731 112 0 (by decide) (by decide) (by decide), hf743 5 0 (by decide) (by decide) (by decide) (by decide) (by decide) (by decide) (by decide) (by decide) (by decide) (by decide) (by decide) (by decide), hf731 5 0 (by decide) (by decide) (by decide)]; exact hi10) (by rw [hf743 111 0 (by decide) (by decide) (by decide) (by decide) (by decide) (by decide) (by decide) (by decide) (by decide) (by decide) (by decide) (by decide), hf731 111 0 (by decide) (by decide) (by decide), hf743 4 0 (by decide) (by decide) (by decide) (by decide) (by decide) (by decide) (by decide) (by decide) (by decide) (by decide) (by decide) (by decide), hf731 4 0 (by decide) (by decide) (by decide)]; exact hi11) (by rw [hf743 114 0 (by decide) (by decide) (by decide) (by decide) (by decide) (by decide) (by decide) (by decide) (by decide) (by decide) (by decide) (by decide), hf731 114 0 (by decide) (by decide) (by decide), hf743 6 0 (by decide) (by decide) (by decide) (by decide) (by decide) (by decide) (by decide) (by decide) (by decide) (by decide) (by decide) (by decide), hf731 6 0 (by decide) (by decide) (by decide)]; exact hi12) (by rw [hf743 126 0 (by decide) (by decide) (by decide) (by decide) (by decide) (by decide) (by decide) (by decide) (by decide) (by decide) (by decide) (by decide), hf731 126 0 (by decide) (by decide) (by decide)]; exact hi13) (by rw [hf743 122 0 (by decide) (by decide) (by decide) (by decide) (by decide) (by decide) (by decide) (by decide) (by decide) (by decide) (by decide) (by decide), hf731 122 0 (by decide) (by decide) (by decide)]; exact hi14) (by (repeat (first | with_reducible assumption | (refine IJ_c (by decide) (by decide) (by decide) ?_) | (refine IJ_take (by omega) (by omega) ?_) | (refine IJ_how (by omega) ?_) | (refine IJ_by (by omega) ?_)))) hU t_q1 t_q12 t_q25 (by omega) (by omega) hG hS (lv_sub hl [0, 1, 2, 3, 4] rfl)
set_option maxHeartbeats 40000000 in
set_option maxRecDepth 100000 in
/-- the law's case 12 -/
theorem law_c12 {p : Program} {e : Env} {s : State} {m : MethodId} {below : List Frame} {meth : Method} {c : Code} (l : Launch) (hl9 : l.stackTraces = false) {b L : Nat} {xs : Nat → Int32} (hLN : L ≤ 3072) (hx : p.tables.exec = Jvm.exec) (hb : c.code = code) (hr : meth.sig.returnType = ret) (hml : c.maxLocals = 7) (hown : s.vm.findClass R_law = some m.cls) (hA : ∀ w ∈ AL, w.before #[Value.ref b] s = true) (hXs : va_X b L xs s s.heap) (hbl : b < s.heap.size) (hlocks : meth.locks = false) {dC : Nat → ClassId} {dI : Nat → Nat → Nat} {dA : Nat → ClassId} {sz : Nat} (hE : en dC dI dA sz s) (hsz : sz = s.heap.size) (hbA : ¬ ty_A sz b) (X : va_W) (q1 q12 q25 : Nat) (n : Nat) (ih : LJ p l e s m below meth c b dC dI dA sz X q1 q12 q25 n) (i : Int32) (Γ : ty_G) (g : gh) (kc ks : Nat) (H : Heap) (locs : List Loc) (ls : Array Slot) (hm : (3073 - i.toInt : Int) < (n + 1 : Nat)) (hi0 : 0 ≤ i.toInt ∧ i.toInt ≤ 3072) (hi1 : g 1 0 = g 33 0 ∧ 0 ≤ g 1 0 ∧ g 1 0 ≤ 6) (hi2 : g 2 0 = g 34 0 ∧ 0 ≤ g 2 0 ∧ g 2 0 ≤ 10) (hi3 : g 3 0 = g 35 0 ∧ 0 ≤ g 3 0 ∧ g 3 0 ≤ 200) (hi4 : 0 ≤ g 5 0 ∧ g 5 0 ≤ 52) (hi5 : 0 ≤ g 4 0 ∧ g 4 0 ≤ i.toInt) (hi6 : 0 ≤ g 6 0 ∧ g 6 0 ≤ 300) (hi7 : 0 ≤ g 7 0 ∧ g 7 0 ≤ g 36 0 ∧ g 36 0 ≤ 9) (hi8 : g 101 0 = g 1 0) (hi9 : g 104 0 = g 2 0) (hi10 : g 112 0 = g 5 0) (hi11 : g 111 0 = g 4 0) (hi12 : g 114 0 = g 6 0) (hi13 : 0 ≤ g 126 0 ∧ g 126 0 ≤ 200) (hi14 : 0 ≤ g 122 0 ∧ g 122 0 ≤ 30) (hIJ : IJ g) (hU : Un Γ) (t_q1 : ty Γ q1 1) (t_q12 : ty Γ q12 30) (t_q25 : ty Γ q25 25) (hkc : kc ≤ 300 + i.toInt.toNat) (hks : ks ≤ 30000 + 28 * i.toInt.toNat) (hG : ty_ok (dC, dI) vwCl Γ (TP dA Γ g) sz X H) (hS : va_S (ty_A sz) s.heap H locs) (hl : lv_has ls 7 [(4, .int i), (3, .ref q25), (2, .ref q12), (1, .ref q1), (0, .ref b)]) (hiL : i.toInt + 6 ≤ (L : Int)) : W p l e room_1 s m #[Value.ref b] below meth c H locs kc ks (lw_Z below #[Value.ref b] s) (F0 m 644 ls []) := by
  refine lv_aload_n hx hb dL_law_644 rfl (lv_at hl 3 rfl) ?_
  refine lv_aload_n hx hb dL_law_645 rfl (lv_at hl 4 rfl) ?_
  refine lv_iload hx hb dL_law_646 (lv_at hl 0 rfl) ?_
  refine ty_iconst hx hb (1) dL_law_648 (by decide) (fun x751 h752 => ?_)
  refine ty_iadd hx hb dL_law_649 (fun x753 h754 => ?_)
  have h755 := lw_ix (k := 1) h752 h754 hi0 hiL hLN (by decide)
  refine va_sld hx hb hXs hbl hbA hS (i := x753) (ty_ix h755.2) dL_law_650 ?_
  refine W.eq (g2 := F0 m 651 ls [.int (xs (i.toInt.toNat + 1)), .ref q1]) (by rw [lw_xs (xs := xs) h755.1 hi0.1]) ?_
  clear h755 h754 h752
  refine lv_topi (fun x756 s757 => ?_)
  refine cI (va_runV (C := RX8) (As := [.int x756]) (rest := []) ⟨hx, hb, hml, hown, hA⟩ (k_X8_bank l dC dI dA sz X Γ hU g q1 t_q1 x756   (by first | with_reducible assumption | omega)) ⟨callB_of 1 hA (al_A wd_3_186) rfl rfl rfl (hA _ wd_1_1) (hA _ wd_3_183) (by decide +kernel) ⟨Nat.le_of_ble_eq_true rfl, Nat.le_of_ble_eq_true rfl⟩, hA _ wd_3_184, hA _ wd_3_185⟩ ⟨bl, recv_X8 hE hG t_q1, fun U hU9 hW9 => ⟨rfl, by rw [hU9]; exact hG, hE.go hS hU9 hW9⟩⟩ rfl rfl hl.1 rfl (lv_room (Nat.le_of_ble_eq_true rfl)) dL_law_651 ⟨(Nat.le_trans (show kc + 0 ≤ 300000 by omega) (Nat.le_of_ble_eq_true rfl)), (Nat.le_trans (show ks + 0 ≤ 300000 by omega) (Nat.le_of_ble_eq_true rfl))⟩) hS (fun x760 u758 H locs w759 hG hS => ?_)
  have eu761 := w759
  rw [eu761] at hG
  refine lv_pop hx hb dL_law_654 rfl ?_
  refine lv_aload_n hx hb dL_law_655 rfl (lv_at hl 2 rfl) ?_
  refine lv_aload_n hx hb dL_law_656 rfl (lv_at hl 4 rfl) ?_
  refine lv_iload hx hb dL_law_657 (lv_at hl 0 rfl) ?_
  refine ty_iconst hx hb (1) dL_law_659 (by decide) (fun x762 h763 => ?_)
  refine ty_iadd hx hb dL_law_660 (fun x764 h765 => ?_)
  have h766 := lw_ix (k := 1) h763 h765 hi0 hiL hLN (by decide)
  refine va_sld hx hb hXs hbl hbA hS (i := x764) (ty_ix h766.2) dL_law_661 ?_
  refine W.eq (g2 := F0 m 662 ls [.int (xs (i.toInt.toNat + 1)), .ref q12]) (by rw [lw_xs (xs := xs) h766.1 hi0.1]) ?_
  clear h766 h765 h763
  refine W.eq (g2 := F0 m 662 ls [.int x756, .ref q12]) (by rw [s757]) ?_
  refine cI (va_runV (C := RX9) (As := [.int x756]) (rest := []) ⟨hx, hb, hml, hown, hA⟩ (k_X9_bank l dC dI dA sz X Γ hU g q12 t_q12 x756   (by first | with_reducible assumption | omega) (by (repeat (first | with_reducible assumption | (refine IJ_c (by decide) (by decide) (by decide) ?_) | (refine IJ_take (by omega) (by omega) ?_) | (refine IJ_how (by omega) ?_) | (refine IJ_by (by omega) ?_))))) ⟨callB_of 1 hA (al_A wd_5_168) rfl rfl rfl (hA _ wd_1_7) (hA _ wd_5_165) (by decide +kernel) ⟨Nat.le_of_ble_eq_true rfl, Nat.le_of_ble_eq_true rfl⟩, hA _ wd_5_166, hA _ wd_5_167⟩ ⟨bl, recv_X9 hE hG t_q12, fun U hU9 hW9 => ⟨rfl, by rw [hU9]; exact hG, hE.go hS hU9 hW9⟩⟩ rfl rfl hl.1 rfl (lv_room (Nat.le_of_ble_eq_true rfl)) dL_law_662 ⟨(Nat.le_trans (show kc + 0 ≤ 300000 by omega) (Nat.le_of_ble_eq_true rfl)), (Nat.le_trans (show ks + 0 ≤ 300000 by omega) (Nat.le_of_ble_eq_true rfl))⟩) hS (fun x769 u767 H locs w768 hG hS => ?_)
  obtain ⟨hf771, hq770⟩ := w768
  refine lv_pop hx hb dL_law_665 rfl ?_
  refine lv_goto (tgt := 1047) hx hb dL_law_666 (by decide) ?_
  obtain ⟨x772, h773⟩ : ∃ y : Int32, y = i + Int32.ofInt (6) := ⟨_, rfl⟩
  try have h774 : x772.toInt = i.toInt + (6) := ty_inc h773 (by decide) (by omega) (by omega)
  refine lv_iinc (v := x772) (lv' := [(4, .int x772), (3, .ref q25), (2, .ref q12), (1, .ref q1), (0, .ref b)]) hx hb dL_law_1047 hl (k := 0) rfl h773.symm (by decide) rfl (fun ls hl => ?_)
  refine lv_goto (tgt := 23) hx hb dL_law_1050 (by decide) ?_
  have hk775 : u767 4 0 = g 4 0 := hf771 4 0 (by decide) (by decide) (by decide)
  exact ih x772 Γ u767 (kc) (ks) _ _ ls (by omega) (by omega) (by rw [hf771 1 0 (by decide) (by decide) (by decide), hf771 33 0 (by decide) (by decide) (by decide)]; exact hi1) (by rw [hf771 2 0 (by decide) (by decide) (by decide), hf771 34 0 (by decide) (by decide) (by decide)]; exact hi2) (by rw [hf771 3 0 (by decide) (by decide) (by decide), hf771 35 0 (by decide) (by decide) (by decide)]; exact hi3) (by rw [hf771 5 0 (by decide) (by decide) (by decide)]; exact hi4) (by omega) (by rw [hf771 6 0 (by decide) (by decide) (by decide)]; exact hi6) (by rw [hf771 7 0 (by decide) (by decide) (by decide), hf771 36 0 (by decide) (by decide) (by decide)]; exact hi7) (by rw [hf771 101 0 (by decide) (by decide) (by decide), hf771 1 0 (by decide) (by decide) (by decide)]; exact hi8) (by rw [hf771 104 0 (by decide) (by decide) (by decide), hf771 2 0 (by decide) (by decide) (by decide)]; exact hi9) (by rw [hf771 112 0 (by decide) (by decide) (by decide), hf771 5 0 (by decide) (by decide) (by decide)]; exact hi10) (by rw [hf771 111 0 (by decide) (by decide) (by decide), hf771 4 0 (by decide) (by decide) (by decide)]; exact hi11) (by rw [hf771 114 0 (by decide) (by decide) (by decide), hf771 6 0 (by decide) (by decide) (by decide)]; exact hi12) (by rw [hf771 126 0 (by decide) (by decide) (by decide)]; exact hi13) (by rw [hf771 122 0 (by decide) (by decide) (by decide)]; exact hi14) (by (repeat (first | with_reducible assumption | (refine IJ_c (by decide) (by decide) (by decide) ?_) | (refine IJ_take (by omega) (by omega) ?_) | (refine IJ_how (by omega) ?_) | (refine IJ_by (by omega) ?_)))) hU t_q1 t_q12 t_q25 (by omega) (by omega) hG hS (lv_sub hl [0, 1, 2, 3, 4] rfl)
set_option maxHeartbeats 40000000 in
set_option maxRecDepth 100000 in
/-- the law's case 13 -/
theorem law_c13 {p : Program} {e : Env} {s : State} {m : MethodId} {below : List Frame} {meth : Method} {c : Code} (l : Launch) (hl9 : l.stackTraces = false) {b L : Nat} {xs : Nat → Int32} (hLN : L ≤ 3072) (hx : p.tables.exec = Jvm.exec) (hb : c.code = code) (hr : meth.sig.returnType = ret) (hml : c.maxLocals = 7) (hown : s.vm.findClass R_law = some m.cls) (hA : ∀ w ∈ AL, w.before #[Value.ref b] s = true) (hXs : va_X b L xs s s.heap) (hbl : b < s.heap.size) (hlocks : meth.locks = false) {dC : Nat → ClassId} {dI : Nat → Nat → Nat} {dA : Nat → ClassId} {sz : Nat} (hE : en dC dI dA sz s) (hsz : sz = s.heap.size) (hbA : ¬ ty_A sz b) (X : va_W) (q1 q12 q25 : Nat) (n : Nat) (ih : LJ p l e s m below meth c b dC dI dA sz X q1 q12 q25 n) (i : Int32) (Γ : ty_G) (g : gh) (kc ks : Nat) (H : Heap) (locs : List Loc) (ls : Array Slot) (hm : (3073 - i.toInt : Int) < (n + 1 : Nat)) (hi0 : 0 ≤ i.toInt ∧ i.toInt ≤ 3072) (hi1 : g 1 0 = g 33 0 ∧ 0 ≤ g 1 0 ∧ g 1 0 ≤ 6) (hi2 : g 2 0 = g 34 0 ∧ 0 ≤ g 2 0 ∧ g 2 0 ≤ 10) (hi3 : g 3 0 = g 35 0 ∧ 0 ≤ g 3 0 ∧ g 3 0 ≤ 200) (hi4 : 0 ≤ g 5 0 ∧ g 5 0 ≤ 52) (hi5 : 0 ≤ g 4 0 ∧ g 4 0 ≤ i.toInt) (hi6 : 0 ≤ g 6 0 ∧ g 6 0 ≤ 300) (hi7 : 0 ≤ g 7 0 ∧ g 7 0 ≤ g 36 0 ∧ g 36 0 ≤ 9) (hi8 : g 101 0 = g 1 0) (hi9 : g 104 0 = g 2 0) (hi10 : g 112 0 = g 5 0) (hi11 : g 111 0 = g 4 0) (hi12 : g 114 0 = g 6 0) (hi13 : 0 ≤ g 126 0 ∧ g 126 0 ≤ 200) (hi14 : 0 ≤ g 122 0 ∧ g 122 0 ≤ 30) (hIJ : IJ g) (hU : Un Γ) (t_q1 : ty Γ q1 1) (t_q12 : ty Γ q12 30) (t_q25 : ty Γ q25 25) (hkc : kc ≤ 300 + i.toInt.toNat) (hks : ks ≤ 30000 + 28 * i.toInt.toNat) (hG : ty_ok (dC, dI) vwCl Γ (TP dA Γ g) sz X H) (hS : va_S (ty_A sz) s.heap H locs) (hl : lv_has ls 7 [(4, .int i), (3, .ref q25), (2, .ref q12), (1, .ref q1), (0, .ref b)]) (hiL : i.toInt + 6 ≤ (L : Int)) : W p l e room_1 s m #[Value.ref b] below meth c H locs kc ks (lw_Z below #[Value.ref b] s) (F0 m 669 ls []) := by
  refine lv_aload_n hx hb dL_law_669 rfl (lv_at hl 3 rfl) ?_
  refine lv_aload_n hx hb dL_law_670 rfl (lv_at hl 4 rfl) ?_
  refine lv_iload hx hb dL_law_671 (lv_at hl 0 rfl) ?_
  refine ty_iconst hx hb (1) dL_law_673 (by decide) (fun x776 h777 => ?_)
  refine ty_iadd hx hb dL_law_674 (fun x778 h779 => ?_)
  have h780 := lw_ix (k := 1) h777 h779 hi0 hiL hLN (by decide)
  refine va_sld hx hb hXs hbl hbA hS (i := x778) (ty_ix h780.2) dL_law_675 ?_
  refine W.eq (g2 := F0 m 676 ls [.int (xs (i.toInt.toNat + 1)), .ref q1]) (by rw [lw_xs (xs := xs) h780.1 hi0.1]) ?_
  clear h780 h779 h777
  refine lv_topi (fun x781 s782 => ?_)
  refine lv_aload_n hx hb dL_law_676 rfl (lv_at hl 4 rfl) ?_
  refine lv_iload hx hb dL_law_677 (lv_at hl 0 rfl) ?_
  refine ty_iconst hx hb (2) dL_law_679 (by decide) (fun x783 h784 => ?_)
  refine ty_iadd hx hb dL_law_680 (fun x785 h786 => ?_)
  have h787 := lw_ix (k := 2) h784 h786 hi0 hiL hLN (by decide)
  refine va_sld hx hb hXs hbl hbA hS (i := x785) (ty_ix h787.2) dL_law_681 ?_
  refine W.eq (g2 := F0 m 682 ls [.int (xs (i.toInt.toNat + 2)), .int x781, .ref q1]) (by rw [lw_xs (xs := xs) h787.1 hi0.1]) ?_
  clear h787 h786 h784
  refine lv_topi (fun x788 s789 => ?_)
  refine cI (va_runV (C := RX8) (As := [.int x781, .int x788]) (rest := []) ⟨hx, hb, hml, hown, hA⟩ (k_X8_take l dC dI dA sz X Γ hU g q1 t_q1 x781 x788   (by first | with_reducible assumption | omega) (by first | with_reducible assumption | omega)) ⟨callB_of 2 hA (al_A wd_3_190) rfl rfl rfl (hA _ wd_1_1) (hA _ wd_3_187) (by decide +kernel) ⟨Nat.le_of_ble_eq_true rfl, Nat.le_of_ble_eq_true rfl⟩, hA _ wd_3_188, hA _ wd_3_189⟩ ⟨bl, recv_X8 hE hG t_q1, fun U hU9 hW9 => ⟨rfl, by rw [hU9]; exact hG, hE.go hS hU9 hW9⟩⟩ rfl rfl hl.1 rfl (lv_room (Nat.le_of_ble_eq_true rfl)) dL_law_682 ⟨(Nat.le_trans (show kc + 0 ≤ 300000 by omega) (Nat.le_of_ble_eq_true rfl)), (Nat.le_trans (show ks + 0 ≤ 300000 by omega) (Nat.le_of_ble_eq_true rfl))⟩) hS (fun x792 u790 H locs w791 hG hS => ?_)
  have eu793 := w791
  rw [eu793] at hG
  refine lv_pop hx hb dL_law_685 rfl ?_
  refine lv_aload_n hx hb dL_law_686 rfl (lv_at hl 2 rfl) ?_
  refine lv_aload_n hx hb dL_law_687 rfl (lv_at hl 4 rfl) ?_
  refine lv_iload hx hb dL_law_688 (lv_at hl 0 rfl) ?_
  refine ty_iconst hx hb (1) dL_law_690 (by decide) (fun x794 h795 => ?_)
  refine ty_iadd hx hb dL_law_691 (fun x796 h797 => ?_)
  have h798 := lw_ix (k := 1) h795 h797 hi0 hiL hLN (by decide)
  refine va_sld hx hb hXs hbl hbA hS (i := x796) (ty_ix h798.2) dL_law_692 ?_
  refine W.eq (g2 := F0 m 693 ls [.int (xs (i.toInt.toNat + 1)), .ref q12]) (by rw [lw_xs (xs := xs) h798.1 hi0.1]) ?_
  clear h798 h797 h795
  refine W.eq (g2 := F0 m 693 ls [.int x781, .ref q12]) (by rw [s782]) ?_
  refine lv_aload_n hx hb dL_law_693 rfl (lv_at hl 4 rfl) ?_
  refine lv_iload hx hb dL_law_694 (lv_at hl 0 rfl) ?_
  refine ty_iconst hx hb (2) dL_law_696 (by decide) (fun x799 h800 => ?_)
  refine ty_iadd hx hb dL_law_697 (fun x801 h802 => ?_)
  have h803 := lw_ix (k := 2) h800 h802 hi0 hiL hLN (by decide)
  refine va_sld hx hb hXs hbl hbA hS (i := x801) (ty_ix h803.2) dL_law_698 ?_
  refine W.eq (g2 := F0 m 699 ls [.int (xs (i.toInt.toNat + 2)), .int x781, .ref q12]) (by rw [lw_xs (xs := xs) h803.1 hi0.1]) ?_
  clear h803 h802 h800
  refine W.eq (g2 := F0 m 699 ls [.int x788, .int x781, .ref q12]) (by rw [s789]) ?_
  refine cI (va_runV (C := RX9) (As := [.int x781, .int x788]) (rest := []) ⟨hx, hb, hml, hown, hA⟩ (k_X9_take l dC dI dA sz X Γ hU g q12 t_q12 x781 x788   (by first | with_reducible assumption | omega) (by first | with_reducible assumption | omega) (by (repeat (first | with_reducible assumption | (refine IJ_c (by decide) (by decide) (by decide) ?_) | (refine IJ_take (by omega) (by omega) ?_) | (refine IJ_how (by omega) ?_) | (refine IJ_by (by omega) ?_))))) ⟨callB_of 2 hA (al_A wd_5_172) rfl rfl rfl (hA _ wd_1_7) (hA _ wd_5_169) (by decide +kernel) ⟨Nat.le_of_ble_eq_true rfl, Nat.le_of_ble_eq_true rfl⟩, hA _ wd_5_170, hA _ wd_5_171⟩ ⟨bl, recv_X9 hE hG t_q12, fun U hU9 hW9 => ⟨rfl, by rw [hU9]; exact hG, hE.go hS hU9 hW9⟩⟩ rfl rfl hl.1 rfl (lv_room (Nat.le_of_ble_eq_true rfl)) dL_law_699 ⟨(Nat.le_trans (show kc + 0 ≤ 300000 by omega) (Nat.le_of_ble_eq_true rfl)), (Nat.le_trans (show ks + 0 ≤ 300000 by omega) (Nat.le_of_ble_eq_true rfl))⟩) hS (fun x806 u804 H locs w805 hG hS => ?_)
  obtain ⟨hf808, hq807⟩ := w805
  refine lv_pop hx hb dL_law_702 rfl ?_
  refine lv_goto (tgt := 1047) hx hb dL_law_703 (by decide) ?_
  obtain ⟨x809, h810⟩ : ∃ y : Int32, y = i + Int32.ofInt (6) := ⟨_, rfl⟩
  try have h811 : x809.toInt = i.toInt + (6) := ty_inc h810 (by decide) (by omega) (by omega)
  refine lv_iinc (v := x809) (lv' := [(4, .int x809), (3, .ref q25), (2, .ref q12), (1, .ref q1), (0, .ref b)]) hx hb dL_law_1047 hl (k := 0) rfl h810.symm (by decide) rfl (fun ls hl => ?_)
  refine lv_goto (tgt := 23) hx hb dL_law_1050 (by decide) ?_
  have hk812 : u804 4 0 = g 4 0 := hf808 4 0 (by decide) (by decide) (by decide) (by decide)
  exact ih x809 Γ u804 (kc) (ks) _ _ ls (by omega) (by omega) (by rw [hf808 1 0 (by decide) (by decide) (by decide) (by decide), hf808 33 0 (by decide) (by decide) (by decide) (by decide)]; exact hi1) (by rw [hf808 2 0 (by decide) (by decide) (by decide) (by decide), hf808 34 0 (by decide) (by decide) (by decide) (by decide)]; exact hi2) (by rw [hf808 3 0 (by decide) (by decide) (by decide) (by decide), hf808 35 0 (by decide) (by decide) (by decide) (by decide)]; exact hi3) (by rw [hf808 5 0 (by decide) (by decide) (by decide) (by decide)]; exact hi4) (by omega) (by rw [hf808 6 0 (by decide) (by decide) (by decide) (by decide)]; exact hi6) (by rw [hf808 7 0 (by decide) (by decide) (by decide) (by decide), hf808 36 0 (by decide) (by decide) (by decide) (by decide)]; exact hi7) (by rw [hf808 101 0 (by decide) (by decide) (by decide) (by decide), hf808 1 0 (by decide) (by decide) (by decide) (by decide)]; exact hi8) (by rw [hf808 104 0 (by decide) (by decide) (by decide) (by decide), hf808 2 0 (by decide) (by decide) (by decide) (by decide)]; exact hi9) (by rw [hf808 112 0 (by decide) (by decide) (by decide) (by decide), hf808 5 0 (by decide) (by decide) (by decide) (by decide)]; exact hi10) (by rw [hf808 111 0 (by decide) (by decide) (by decide) (by decide), hf808 4 0 (by decide) (by decide) (by decide) (by decide)]; exact hi11) (by rw [hf808 114 0 (by decide) (by decide) (by decide) (by decide), hf808 6 0 (by decide) (by decide) (by decide) (by decide)]; exact hi12) (by rw [hf808 126 0 (by decide) (by decide) (by decide) (by decide)]; exact hi13) (by rw [hf808 122 0 (by decide) (by decide) (by decide) (by decide)]; exact hi14) (by (repeat (first | with_reducible assumption | (refine IJ_c (by decide) (by decide) (by decide) ?_) | (refine IJ_take (by omega) (by omega) ?_) | (refine IJ_how (by omega) ?_) | (refine IJ_by (by omega) ?_)))) hU t_q1 t_q12 t_q25 (by omega) (by omega) hG hS (lv_sub hl [0, 1, 2, 3, 4] rfl)
set_option maxHeartbeats 40000000 in
set_option maxRecDepth 100000 in
/-- the law's case 14 -/
theorem law_c14 {p : Program} {e : Env} {s : State} {m : MethodId} {below : List Frame} {meth : Method} {c : Code} (l : Launch) (hl9 : l.stackTraces = false) {b L : Nat} {xs : Nat → Int32} (hLN : L ≤ 3072) (hx : p.tables.exec = Jvm.exec) (hb : c.code = code) (hr : meth.sig.returnType = ret) (hml : c.maxLocals = 7) (hown : s.vm.findClass R_law = some m.cls) (hA : ∀ w ∈ AL, w.before #[Value.ref b] s = true) (hXs : va_X b L xs s s.heap) (hbl : b < s.heap.size) (hlocks : meth.locks = false) {dC : Nat → ClassId} {dI : Nat → Nat → Nat} {dA : Nat → ClassId} {sz : Nat} (hE : en dC dI dA sz s) (hsz : sz = s.heap.size) (hbA : ¬ ty_A sz b) (X : va_W) (q1 q12 q25 : Nat) (n : Nat) (ih : LJ p l e s m below meth c b dC dI dA sz X q1 q12 q25 n) (i : Int32) (Γ : ty_G) (g : gh) (kc ks : Nat) (H : Heap) (locs : List Loc) (ls : Array Slot) (hm : (3073 - i.toInt : Int) < (n + 1 : Nat)) (hi0 : 0 ≤ i.toInt ∧ i.toInt ≤ 3072) (hi1 : g 1 0 = g 33 0 ∧ 0 ≤ g 1 0 ∧ g 1 0 ≤ 6) (hi2 : g 2 0 = g 34 0 ∧ 0 ≤ g 2 0 ∧ g 2 0 ≤ 10) (hi3 : g 3 0 = g 35 0 ∧ 0 ≤ g 3 0 ∧ g 3 0 ≤ 200) (hi4 : 0 ≤ g 5 0 ∧ g 5 0 ≤ 52) (hi5 : 0 ≤ g 4 0 ∧ g 4 0 ≤ i.toInt) (hi6 : 0 ≤ g 6 0 ∧ g 6 0 ≤ 300) (hi7 : 0 ≤ g 7 0 ∧ g 7 0 ≤ g 36 0 ∧ g 36 0 ≤ 9) (hi8 : g 101 0 = g 1 0) (hi9 : g 104 0 = g 2 0) (hi10 : g 112 0 = g 5 0) (hi11 : g 111 0 = g 4 0) (hi12 : g 114 0 = g 6 0) (hi13 : 0 ≤ g 126 0 ∧ g 126 0 ≤ 200) (hi14 : 0 ≤ g 122 0 ∧ g 122 0 ≤ 30) (hIJ : IJ g) (hU : Un Γ) (t_q1 : ty Γ q1 1) (t_q12 : ty Γ q12 30) (t_q25 : ty Γ q25 25) (hkc : kc ≤ 300 + i.toInt.toNat) (hks : ks ≤ 30000 + 28 * i.toInt.toNat) (hG : ty_ok (dC, dI) vwCl Γ (TP dA Γ g) sz X H) (hS : va_S (ty_A sz) s.heap H locs) (hl : lv_has ls 7 [(4, .int i), (3, .ref q25), (2, .ref q12), (1, .ref q1), (0, .ref b)]) (hiL : i.toInt + 6 ≤ (L : Int)) : W p l e room_1 s m #[Value.ref b] below meth c H locs kc ks (lw_Z below #[Value.ref b] s) (F0 m 706 ls []) := by
  refine lv_aload_n hx hb dL_law_706 rfl (lv_at hl 3 rfl) ?_
  refine cI (va_runV (C := RX8) (As := []) (rest := []) ⟨hx, hb, hml, hown, hA⟩ (k_X8_rush l dC dI dA sz X Γ hU g q1 t_q1   (by first | with_reducible assumption | omega) (by first | with_reducible assumption | omega)) ⟨callB_of 0 hA (al_A wd_3_198) rfl rfl rfl (hA _ wd_1_1) (hA _ wd_3_195) (by decide +kernel) ⟨Nat.le_of_ble_eq_true rfl, Nat.le_of_ble_eq_true rfl⟩, hA _ wd_3_196, hA _ wd_3_197⟩ ⟨bl, recv_X8 hE hG t_q1, fun U hU9 hW9 => ⟨rfl, by rw [hU9]; exact hG, hE.go hS hU9 hW9⟩⟩ rfl rfl hl.1 rfl (lv_room (Nat.le_of_ble_eq_true rfl)) dL_law_707 ⟨(Nat.le_trans (show kc + 0 ≤ 300000 by omega) (Nat.le_of_ble_eq_true rfl)), (Nat.le_trans (show ks + 0 ≤ 300000 by omega) (Nat.le_of_ble_eq_true rfl))⟩) hS (fun x815 u813 H locs w814 hG hS => ?_)
  have eu816 := w814
  rw [eu816] at hG
  refine lv_pop hx hb dL_law_710 rfl ?_
  refine lv_aload_n hx hb dL_law_711 rfl (lv_at hl 2 rfl) ?_
  refine cI (va_runV (C := RX9) (As := []) (rest := []) ⟨hx, hb, hml, hown, hA⟩ (k_X9_rush l dC dI dA sz X Γ hU g q12 t_q12   (by first | with_reducible assumption | omega) (by first | with_reducible assumption | omega) (by (repeat (first | with_reducible assumption | (refine IJ_c (by decide) (by decide) (by decide) ?_) | (refine IJ_take (by omega) (by omega) ?_) | (refine IJ_how (by omega) ?_) | (refine IJ_by (by omega) ?_))))) ⟨callB_of 0 hA (al_A wd_5_180) rfl rfl rfl (hA _ wd_1_7) (hA _ wd_5_177) (by decide +kernel) ⟨Nat.le_of_ble_eq_true rfl, Nat.le_of_ble_eq_true rfl⟩, hA _ wd_5_178, hA _ wd_5_179⟩ ⟨bl, recv_X9 hE hG t_q12, fun U hU9 hW9 => ⟨rfl, by rw [hU9]; exact hG, hE.go hS hU9 hW9⟩⟩ rfl rfl hl.1 rfl (lv_room (Nat.le_of_ble_eq_true rfl)) dL_law_712 ⟨(Nat.le_trans (show kc + 0 ≤ 300000 by omega) (Nat.le_of_ble_eq_true rfl)), (Nat.le_trans (show ks + 0 ≤ 300000 by omega) (Nat.le_of_ble_eq_true rfl))⟩) hS (fun x819 u817 H locs w818 hG hS => ?_)
  obtain ⟨hf821, hq820⟩ := w818
  refine lv_pop hx hb dL_law_715 rfl ?_
  refine lv_goto (tgt := 1047) hx hb dL_law_716 (by decide) ?_
  obtain ⟨x822, h823⟩ : ∃ y : Int32, y = i + Int32.ofInt (6) := ⟨_, rfl⟩
  try have h824 : x822.toInt = i.toInt + (6) := ty_inc h823 (by decide) (by omega) (by omega)
  refine lv_iinc (v := x822) (lv' := [(4, .int x822), (3, .ref q25), (2, .ref q12), (1, .ref q1), (0, .ref b)]) hx hb dL_law_1047 hl (k := 0) rfl h823.symm (by decide) rfl (fun ls hl => ?_)
  refine lv_goto (tgt := 23) hx hb dL_law_1050 (by decide) ?_
  have hk825 : u817 4 0 = g 4 0 := hf821 4 0 (by decide) (by decide) (by decide) (by decide) (by decide) (by decide) (by decide) (by decide)
  exact ih x822 Γ u817 (kc) (ks) _ _ ls (by omega) (by omega) (by rw [hf821 1 0 (by decide) (by decide) (by decide) (by decide) (by decide) (by decide) (by decide) (by decide), hf821 33 0 (by decide) (by decide) (by decide) (by decide) (by decide) (by decide) (by decide) (by decide)]; exact hi1) (by rw [hf821 2 0 (by decide) (by decide) (by decide) (by decide) (by decide) (by decide) (by decide) (by decide), hf821 34 0 (by decide) (by decide) (by decide) (by decide) (by decide) (by decide) (by decide) (by decide)]; exact hi2) (by rw [hf821 3 0 (by decide) (by decide) (by decide) (by decide) (by decide) (by decide) (by decide) (by decide), hf821 35 0 (by decide) (by decide) (by decide) (by decide) (by decide) (by decide) (by decide) (by decide)]; exact hi3) (by rw [hf821 5 0 (by decide) (by decide) (by decide) (by decide) (by decide) (by decide) (by decide) (by decide)]; exact hi4) (by omega) (by rw [hf821 6 0 (by decide) (by decide) (by decide) (by decide) (by decide) (by decide) (by decide) (by decide)]; exact hi6) (by rw [hf821 7 0 (by decide) (by decide) (by decide) (by decide) (by decide) (by decide) (by decide) (by decide), hf821 36 0 (by decide) (by decide) (by decide) (by decide) (by decide) (by decide) (by decide) (by decide)]; exact hi7) (by rw [hf821 101 0 (by decide) (by decide) (by decide) (by decide) (by decide) (by decide) (by decide) (by decide), hf821 1 0 (by decide) (by decide) (by decide) (by decide) (by decide) (by decide) (by decide) (by decide)]; exact hi8) (by rw [hf821 104 0 (by decide) (by decide) (by decide) (by decide) (by decide) (by decide) (by decide) (by decide), hf821 2 0 (by decide) (by decide) (by decide) (by decide) (by decide) (by decide) (by decide) (by decide)]; exact hi9) (by rw [hf821 112 0 (by decide) (by decide) (by decide) (by decide) (by decide) (by decide) (by decide) (by decide), hf821 5 0 (by decide) (by decide) (by decide) (by decide) (by decide) (by decide) (by decide) (by decide)]; exact hi10) (by rw [hf821 111 0 (by decide) (by decide) (by decide) (by decide) (by decide) (by decide) (by decide) (by decide), hf821 4 0 (by decide) (by decide) (by decide) (by decide) (by decide) (by decide) (by decide) (by decide)]; exact hi11) (by rw [hf821 114 0 (by decide) (by decide) (by decide) (by decide) (by decide) (by decide) (by decide) (by decide), hf821 6 0 (by decide) (by decide) (by decide) (by decide) (by decide) (by decide) (by decide) (by decide)]; exact hi12) (by rw [hf821 126 0 (by decide) (by decide) (by decide) (by decide) (by decide) (by decide) (by decide) (by decide)]; exact hi13) (by rw [hf821 122 0 (by decide) (by decide) (by decide) (by decide) (by decide) (by decide) (by decide) (by decide)]; exact hi14) (by (repeat (first | with_reducible assumption | (refine IJ_c (by decide) (by decide) (by decide) ?_) | (refine IJ_take (by omega) (by omega) ?_) | (refine IJ_how (by omega) ?_) | (refine IJ_by (by omega) ?_)))) hU t_q1 t_q12 t_q25 (by omega) (by omega) hG hS (lv_sub hl [0, 1, 2, 3, 4] rfl)
set_option maxHeartbeats 40000000 in
set_option maxRecDepth 100000 in
/-- the law's case 15 -/
theorem law_c15 {p : Program} {e : Env} {s : State} {m : MethodId} {below : List Frame} {meth : Method} {c : Code} (l : Launch) (hl9 : l.stackTraces = false) {b L : Nat} {xs : Nat → Int32} (hLN : L ≤ 3072) (hx : p.tables.exec = Jvm.exec) (hb : c.code = code) (hr : meth.sig.returnType = ret) (hml : c.maxLocals = 7) (hown : s.vm.findClass R_law = some m.cls) (hA : ∀ w ∈ AL, w.before #[Value.ref b] s = true) (hXs : va_X b L xs s s.heap) (hbl : b < s.heap.size) (hlocks : meth.locks = false) {dC : Nat → ClassId} {dI : Nat → Nat → Nat} {dA : Nat → ClassId} {sz : Nat} (hE : en dC dI dA sz s) (hsz : sz = s.heap.size) (hbA : ¬ ty_A sz b) (X : va_W) (q1 q12 q25 : Nat) (n : Nat) (ih : LJ p l e s m below meth c b dC dI dA sz X q1 q12 q25 n) (i : Int32) (Γ : ty_G) (g : gh) (kc ks : Nat) (H : Heap) (locs : List Loc) (ls : Array Slot) (hm : (3073 - i.toInt : Int) < (n + 1 : Nat)) (hi0 : 0 ≤ i.toInt ∧ i.toInt ≤ 3072) (hi1 : g 1 0 = g 33 0 ∧ 0 ≤ g 1 0 ∧ g 1 0 ≤ 6) (hi2 : g 2 0 = g 34 0 ∧ 0 ≤ g 2 0 ∧ g 2 0 ≤ 10) (hi3 : g 3 0 = g 35 0 ∧ 0 ≤ g 3 0 ∧ g 3 0 ≤ 200) (hi4 : 0 ≤ g 5 0 ∧ g 5 0 ≤ 52) (hi5 : 0 ≤ g 4 0 ∧ g 4 0 ≤ i.toInt) (hi6 : 0 ≤ g 6 0 ∧ g 6 0 ≤ 300) (hi7 : 0 ≤ g 7 0 ∧ g 7 0 ≤ g 36 0 ∧ g 36 0 ≤ 9) (hi8 : g 101 0 = g 1 0) (hi9 : g 104 0 = g 2 0) (hi10 : g 112 0 = g 5 0) (hi11 : g 111 0 = g 4 0) (hi12 : g 114 0 = g 6 0) (hi13 : 0 ≤ g 126 0 ∧ g 126 0 ≤ 200) (hi14 : 0 ≤ g 122 0 ∧ g 122 0 ≤ 30) (hIJ : IJ g) (hU : Un Γ) (t_q1 : ty Γ q1 1) (t_q12 : ty Γ q12 30) (t_q25 : ty Γ q25 25) (hkc : kc ≤ 300 + i.toInt.toNat) (hks : ks ≤ 30000 + 28 * i.toInt.toNat) (hG : ty_ok (dC, dI) vwCl Γ (TP dA Γ g) sz X H) (hS : va_S (ty_A sz) s.heap H locs) (hl : lv_has ls 7 [(4, .int i), (3, .ref q25), (2, .ref q12), (1, .ref q1), (0, .ref b)]) (hiL : i.toInt + 6 ≤ (L : Int)) : W p l e room_1 s m #[Value.ref b] below meth c H locs kc ks (lw_Z below #[Value.ref b] s) (F0 m 719 ls []) := by
  refine lv_aload_n hx hb dL_law_719 rfl (lv_at hl 3 rfl) ?_
  refine lv_aload_n hx hb dL_law_720 rfl (lv_at hl 4 rfl) ?_
  refine lv_iload hx hb dL_law_721 (lv_at hl 0 rfl) ?_
  refine ty_iconst hx hb (1) dL_law_723 (by decide) (fun x826 h827 => ?_)
  refine ty_iadd hx hb dL_law_724 (fun x828 h829 => ?_)
  have h830 := lw_ix (k := 1) h827 h829 hi0 hiL hLN (by decide)
  refine va_sld hx hb hXs hbl hbA hS (i := x828) (ty_ix h830.2) dL_law_725 ?_
  refine W.eq (g2 := F0 m 726 ls [.int (xs (i.toInt.toNat + 1)), .ref q1]) (by rw [lw_xs (xs := xs) h830.1 hi0.1]) ?_
  clear h830 h829 h827
  refine lv_topi (fun x831 s832 => ?_)
  refine lv_aload_n hx hb dL_law_726 rfl (lv_at hl 4 rfl) ?_
  refine lv_iload hx hb dL_law_727 (lv_at hl 0 rfl) ?_
  refine ty_iconst hx hb (2) dL_law_729 (by decide) (fun x833 h834 => ?_)
  refine ty_iadd hx hb dL_law_730 (fun x835 h836 => ?_)
  have h837 := lw_ix (k := 2) h834 h836 hi0 hiL hLN (by decide)
  refine va_sld hx hb hXs hbl hbA hS (i := x835) (ty_ix h837.2) dL_law_731 ?_
  refine W.eq (g2 := F0 m 732 ls [.int (xs (i.toInt.toNat + 2)), .int x831, .ref q1]) (by rw [lw_xs (xs := xs) h837.1 hi0.1]) ?_
  clear h837 h836 h834
  refine lv_topi (fun x838 s839 => ?_)
  refine lv_aload_n hx hb dL_law_732 rfl (lv_at hl 4 rfl) ?_
  refine lv_iload hx hb dL_law_733 (lv_at hl 0 rfl) ?_
  refine ty_iconst hx hb (3) dL_law_735 (by decide) (fun x840 h841 => ?_)
  refine ty_iadd hx hb dL_law_736 (fun x842 h843 => ?_)
  have h844 := lw_ix (k := 3) h841 h843 hi0 hiL hLN (by decide)
  refine va_sld hx hb hXs hbl hbA hS (i := x842) (ty_ix h844.2) dL_law_737 ?_
  refine W.eq (g2 := F0 m 738 ls [.int (xs (i.toInt.toNat + 3)), .int x838, .int x831, .ref q1]) (by rw [lw_xs (xs := xs) h844.1 hi0.1]) ?_
  clear h844 h843 h841
  refine lv_topi (fun x845 s846 => ?_)
  refine cI (va_runV (C := RX8) (As := [.int x831, .int x838, .int x845]) (rest := []) ⟨hx, hb, hml, hown, hA⟩ (k_X8_shut l dC dI dA sz X Γ hU g q1 t_q1 x831 x838 x845   (by first | with_reducible assumption | omega) (by first | with_reducible assumption | omega) (by first | with_reducible assumption | omega)) ⟨callB_of 3 hA (al_A wd_3_211) rfl rfl rfl (hA _ wd_1_1) (hA _ wd_3_208) (by decide +kernel) ⟨Nat.le_of_ble_eq_true rfl, Nat.le_of_ble_eq_true rfl⟩, hA _ wd_3_209, hA _ wd_3_210⟩ ⟨bl, recv_X8 hE hG t_q1, fun U hU9 hW9 => ⟨rfl, by rw [hU9]; exact hG, hE.go hS hU9 hW9⟩⟩ rfl rfl hl.1 rfl (lv_room (Nat.le_of_ble_eq_true rfl)) dL_law_738 ⟨(Nat.le_trans (show kc + 0 ≤ 300000 by omega) (Nat.le_of_ble_eq_true rfl)), (Nat.le_trans (show ks + 0 ≤ 300000 by omega) (Nat.le_of_ble_eq_true rfl))⟩) hS (fun x849 u847 H locs w848 hG hS => ?_)
  have eu850 := w848
  rw [eu850] at hG
  refine lv_pop hx hb dL_law_741 rfl ?_
  refine lv_aload_n hx hb dL_law_742 rfl (lv_at hl 2 rfl) ?_
  refine lv_aload_n hx hb dL_law_743 rfl (lv_at hl 4 rfl) ?_
  refine lv_iload hx hb dL_law_744 (lv_at hl 0 rfl) ?_
  refine ty_iconst hx hb (1) dL_law_746 (by decide) (fun x851 h852 => ?_)
  refine ty_iadd hx hb dL_law_747 (fun x853 h854 => ?_)
  have h855 := lw_ix (k := 1) h852 h854 hi0 hiL hLN (by decide)
  refine va_sld hx hb hXs hbl hbA hS (i := x853) (ty_ix h855.2) dL_law_748 ?_
  refine W.eq (g2 := F0 m 749 ls [.int (xs (i.toInt.toNat + 1)), .ref q12]) (by rw [lw_xs (xs := xs) h855.1 hi0.1]) ?_
  clear h855 h854 h852
  refine W.eq (g2 := F0 m 749 ls [.int x831, .ref q12]) (by rw [s832]) ?_
  refine lv_aload_n hx hb dL_law_749 rfl (lv_at hl 4 rfl) ?_
  refine lv_iload hx hb dL_law_750 (lv_at hl 0 rfl) ?_
  refine ty_iconst hx hb (2) dL_law_752 (by decide) (fun x856 h857 => ?_)
  refine ty_iadd hx hb dL_law_753 (fun x858 h859 => ?_)
  have h860 := lw_ix (k := 2) h857 h859 hi0 hiL hLN (by decide)
  refine va_sld hx hb hXs hbl hbA hS (i := x858) (ty_ix h860.2) dL_law_754 ?_
  refine W.eq (g2 := F0 m 755 ls [.int (xs (i.toInt.toNat + 2)), .int x831, .ref q12]) (by rw [lw_xs (xs := xs) h860.1 hi0.1]) ?_
  clear h860 h859 h857
  refine W.eq (g2 := F0 m 755 ls [.int x838, .int x831, .ref q12]) (by rw [s839]) ?_
  refine lv_aload_n hx hb dL_law_755 rfl (lv_at hl 4 rfl) ?_
  refine lv_iload hx hb dL_law_756 (lv_at hl 0 rfl) ?_
  refine ty_iconst hx hb (3) dL_law_758 (by decide) (fun x861 h862 => ?_)
  refine ty_iadd hx hb dL_law_759 (fun x863 h864 => ?_)
  have h865 := lw_ix (k := 3) h862 h864 hi0 hiL hLN (by decide)
  refine va_sld hx hb hXs hbl hbA hS (i := x863) (ty_ix h865.2) dL_law_760 ?_
  refine W.eq (g2 := F0 m 761 ls [.int (xs (i.toInt.toNat + 3)), .int x838, .int x831, .ref q12]) (by rw [lw_xs (xs := xs) h865.1 hi0.1]) ?_
  clear h865 h864 h862
  refine W.eq (g2 := F0 m 761 ls [.int x845, .int x838, .int x831, .ref q12]) (by rw [s846]) ?_
  refine cI (va_runV (C := RX9) (As := [.int x831, .int x838, .int x845]) (rest := []) ⟨hx, hb, hml, hown, hA⟩ (k_X9_shut l dC dI dA sz X Γ hU g q12 t_q12 x831 x838 x845   (by first | with_reducible assumption | omega) (by first | with_reducible assumption | omega) (by first | with_reducible assumption | omega) (by (repeat (first | with_reducible assumption | (refine IJ_c (by decide) (by decide) (by decide) ?_) | (refine IJ_take (by omega) (by omega) ?_) | (refine IJ_how (by omega) ?_) | (refine IJ_by (by omega) ?_))))) ⟨callB_of 3 hA (al_A wd_5_188) rfl rfl rfl (hA _ wd_1_7) (hA _ wd_5_185) (by decide +kernel) ⟨Nat.le_of_ble_eq_true rfl, Nat.le_of_ble_eq_true rfl⟩, hA _ wd_5_186, hA _ wd_5_187⟩ ⟨bl, recv_X9 hE hG t_q12, fun U hU9 hW9 => ⟨rfl, by rw [hU9]; exact hG, hE.go hS hU9 hW9⟩⟩ rfl rfl hl.1 rfl (lv_room (Nat.le_of_ble_eq_true rfl)) dL_law_761 ⟨(Nat.le_trans (show kc + 0 ≤ 300000 by omega) (Nat.le_of_ble_eq_true rfl)), (Nat.le_trans (show ks + 0 ≤ 300000 by omega) (Nat.le_of_ble_eq_true rfl))⟩) hS (fun x868 u866 H locs w867 hG hS => ?_)
  obtain ⟨hf870, hq869⟩ := w867
  refine lv_pop hx hb dL_law_764 rfl ?_
  refine lv_goto (tgt := 1047) hx hb dL_law_765 (by decide) ?_
  obtain ⟨x871, h872⟩ : ∃ y : Int32, y = i + Int32.ofInt (6) := ⟨_, rfl⟩
  try have h873 : x871.toInt = i.toInt + (6) := ty_inc h872 (by decide) (by omega) (by omega)
  refine lv_iinc (v := x871) (lv' := [(4, .int x871), (3, .ref q25), (2, .ref q12), (1, .ref q1), (0, .ref b)]) hx hb dL_law_1047 hl (k := 0) rfl h872.symm (by decide) rfl (fun ls hl => ?_)
  refine lv_goto (tgt := 23) hx hb dL_law_1050 (by decide) ?_
  have hk874 : u866 4 0 = g 4 0 := hf870 4 0 (by decide) (by decide) (by decide) (by decide)
  exact ih x871 Γ u866 (kc) (ks) _ _ ls (by omega) (by omega) (by rw [hf870 1 0 (by decide) (by decide) (by decide) (by decide), hf870 33 0 (by decide) (by decide) (by decide) (by decide)]; exact hi1) (by rw [hf870 2 0 (by decide) (by decide) (by decide) (by decide), hf870 34 0 (by decide) (by decide) (by decide) (by decide)]; exact hi2) (by rw [hf870 3 0 (by decide) (by decide) (by decide) (by decide), hf870 35 0 (by decide) (by decide) (by decide) (by decide)]; exact hi3) (by rw [hf870 5 0 (by decide) (by decide) (by decide) (by decide)]; exact hi4) (by omega) (by rw [hf870 6 0 (by decide) (by decide) (by decide) (by decide)]; exact hi6) (by rw [hf870 7 0 (by decide) (by decide) (by decide) (by decide), hf870 36 0 (by decide) (by decide) (by decide) (by decide)]; exact hi7) (by rw [hf870 101 0 (by decide) (by decide) (by decide) (by decide), hf870 1 0 (by decide) (by decide) (by decide) (by decide)]; exact hi8) (by rw [hf870 104 0 (by decide) (by decide) (by decide) (by decide), hf870 2 0 (by decide) (by decide) (by decide) (by decide)]; exact hi9) (by rw [hf870 112 0 (by decide) (by decide) (by decide) (by decide), hf870 5 0 (by decide) (by decide) (by decide) (by decide)]; exact hi10) (by rw [hf870 111 0 (by decide) (by decide) (by decide) (by decide), hf870 4 0 (by decide) (by decide) (by decide) (by decide)]; exact hi11) (by rw [hf870 114 0 (by decide) (by decide) (by decide) (by decide), hf870 6 0 (by decide) (by decide) (by decide) (by decide)]; exact hi12) (by rw [hf870 126 0 (by decide) (by decide) (by decide) (by decide)]; exact hi13) (by rw [hf870 122 0 (by decide) (by decide) (by decide) (by decide)]; exact hi14) (by (repeat (first | with_reducible assumption | (refine IJ_c (by decide) (by decide) (by decide) ?_) | (refine IJ_take (by omega) (by omega) ?_) | (refine IJ_how (by omega) ?_) | (refine IJ_by (by omega) ?_)))) hU t_q1 t_q12 t_q25 (by omega) (by omega) hG hS (lv_sub hl [0, 1, 2, 3, 4] rfl)
