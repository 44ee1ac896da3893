set_option maxHeartbeats 40000000 in
set_option maxRecDepth 100000 in
/-- the law's case 8 -/
theorem law_c8 {p : Program} {e : Env} {s : State} {m : MethodId} {below : List Frame} {meth : Method} {c : Code} (l : Launch) (hl9 : l.stackTraces = false) {b L : Nat} {xs : Nat → Int32} (hLN : L ≤ 3072) (hx : p.tables.exec = Jvm.exec) (hb : c.code = code) (hr : meth.sig.returnType = ret) (hml : c.maxLocals = 7) (hown : s.vm.findClass R_law = some m.cls) (hA : ∀ w ∈ AL, w.before #[Value.ref b] s = true) (hXs : va_X b L xs s s.heap) (hbl : b < s.heap.size) (hlocks : meth.locks = false) {dC : Nat → ClassId} {dI : Nat → Nat → Nat} {dA : Nat → ClassId} {sz : Nat} (hE : en dC dI dA sz s) (hsz : sz = s.heap.size) (hbA : ¬ ty_A sz b) (X : va_W) (q1 q13 q29 : Nat) (n : Nat) (ih : LJ p l e s m below meth c b dC dI dA sz X q1 q13 q29 n) (i : Int32) (Γ : ty_G) (g : gh) (kc ks : Nat) (H : Heap) (locs : List Loc) (ls : Array Slot) (fq : Nat → Int64) (hm : (3073 - i.toInt : Int) < (n + 1 : Nat)) (hi0 : 0 ≤ i.toInt ∧ i.toInt ≤ 3072) (hy4 : g 4 0 ≤ i.toInt) (hRL : RLA g) (hIJ : IJ g) (hBd : Bd Γ g) (hU : Un Γ) (t_q1 : ty Γ q1 1) (t_q13 : ty Γ q13 30) (hkc : kc ≤ 300 + i.toInt.toNat) (hks : ks ≤ 30000 + 28 * i.toInt.toNat) (hG : ty_ok (dC, dI) vwCl Γ (TP dA Γ g) sz ((q29, .inl (dA 3, 1, .inr (.inl fq))) :: X) H) (hS : va_S (ty_A sz) s.heap H locs) (hl : lv_has ls 7 [(4, .int i), (3, .ref q29), (2, .ref q13), (1, .ref q1), (0, .ref b)]) (hiL : i.toInt + 6 ≤ (L : Int)) : W p l e room_1 s m #[Value.ref b] below meth c H locs kc ks (lw_Z below #[Value.ref b] s) (F0 m 424 ls []) := by
  refine lv_aload_n hx hb dL_law_424 rfl (lv_at hl 3 rfl) ?_
  refine lv_aload_n hx hb dL_law_425 rfl (lv_at hl 4 rfl) ?_
  refine lv_iload hx hb dL_law_426 (lv_at hl 0 rfl) ?_
  refine ty_iconst hx hb (1) dL_law_428 (by decide) (fun x417 h418 => ?_)
  refine ty_iadd hx hb dL_law_429 (fun x419 h420 => ?_)
  have h421 := lw_ix (k := 1) h418 h420 hi0 hiL hLN (by decide)
  refine va_sld hx hb hXs hbl hbA hS (i := x419) (ty_ix h421.2) dL_law_430 ?_
  refine W.eq (g2 := F0 m 431 ls [.int (xs (i.toInt.toNat + 1)), .ref q1]) (by rw [lw_xs (xs := xs) h421.1 hi0.1]) ?_
  clear h421 h420 h418
  refine lv_topi (fun x422 s423 => ?_)
  refine lv_aload_n hx hb dL_law_431 rfl (lv_at hl 4 rfl) ?_
  refine lv_iload hx hb dL_law_432 (lv_at hl 0 rfl) ?_
  refine ty_iconst hx hb (2) dL_law_434 (by decide) (fun x424 h425 => ?_)
  refine ty_iadd hx hb dL_law_435 (fun x426 h427 => ?_)
  have h428 := lw_ix (k := 2) h425 h427 hi0 hiL hLN (by decide)
  refine va_sld hx hb hXs hbl hbA hS (i := x426) (ty_ix h428.2) dL_law_436 ?_
  refine W.eq (g2 := F0 m 437 ls [.int (xs (i.toInt.toNat + 2)), .int x422, .ref q1]) (by rw [lw_xs (xs := xs) h428.1 hi0.1]) ?_
  clear h428 h427 h425
  refine lv_topi (fun x429 s430 => ?_)
  refine lv_aload_n hx hb dL_law_437 rfl (lv_at hl 4 rfl) ?_
  refine lv_iload hx hb dL_law_438 (lv_at hl 0 rfl) ?_
  refine ty_iconst hx hb (3) dL_law_440 (by decide) (fun x431 h432 => ?_)
  refine ty_iadd hx hb dL_law_441 (fun x433 h434 => ?_)
  have h435 := lw_ix (k := 3) h432 h434 hi0 hiL hLN (by decide)
  refine va_sld hx hb hXs hbl hbA hS (i := x433) (ty_ix h435.2) dL_law_442 ?_
  refine W.eq (g2 := F0 m 443 ls [.int (xs (i.toInt.toNat + 3)), .int x429, .int x422, .ref q1]) (by rw [lw_xs (xs := xs) h435.1 hi0.1]) ?_
  clear h435 h434 h432
  refine lv_topi (fun x436 s437 => ?_)
  refine cIB (va_runV (C := RX8) (As := [.int x422, .int x429, .int x436]) (rest := []) ⟨hx, hb, hml, hown, hA⟩ (k_X8_give l dC dI dA sz ((q29, .inl (dA 3, 1, .inr (.inl fq))) :: X) Γ hU g q1 t_q1 x422 x429 x436   (RL_1 hRL) (RL_2 hRL) (RL_3 hRL) (RL_5 hRL) (hBd)) ⟨callB_of 3 hA (al_A wd_3_4) rfl rfl rfl (hA _ wd_1_1) (hA _ wd_3_1) (by decide +kernel) ⟨Nat.le_of_ble_eq_true rfl, Nat.le_of_ble_eq_true rfl⟩, hA _ wd_3_2, hA _ wd_3_3⟩ ⟨bl, recv_X8 hE hG t_q1, fun U hU9 hW9 => ⟨rfl, by rw [hU9]; exact hG, hE.go hS hU9 hW9⟩⟩ rfl rfl hl.1 rfl (lv_room (Nat.le_of_ble_eq_true rfl)) dL_law_443 ⟨(Nat.le_trans (show kc + 1 ≤ 300000 by omega) (Nat.le_of_ble_eq_true rfl)), (Nat.le_trans (show ks + 10 ≤ 300000 by omega) (Nat.le_of_ble_eq_true rfl))⟩) hS (fun x440 u438 H locs w439 hG hS => ?_)
  obtain ⟨Γ441, g442⟩ := u438
  dsimp only at w439 hG
  obtain ⟨hx443, hU, hB447, hf444, hq448⟩ := w439
  have hX449 : ext Γ Γ441 := ext.trans ext.rf hx443
  replace t_q13 : ty Γ441 q13 30 := hx443.one t_q13 (by decide)
  replace t_q1 : ty Γ441 q1 1 := hx443.one t_q1 (by decide)
  replace hq448 := HD.mk hq448
  have hw450 : ∀ c, c ∉ ([3, 35, 45, 60, 61, 62, 63, 64, 65, 66, 67, 68] : List Nat) → g442 c = g c := fun c hc => funext fun j => hf444 c j (fun q => hc (by rw [q]; decide)) (fun q => hc (by rw [q]; decide)) (fun q => hc (by rw [q]; decide)) (fun q => hc (by rw [q]; decide)) (fun q => hc (by rw [q]; decide)) (fun q => hc (by rw [q]; decide)) (fun q => hc (by rw [q]; decide)) (fun q => hc (by rw [q]; decide)) (fun q => hc (by rw [q]; decide)) (fun q => hc (by rw [q]; decide)) (fun q => hc (by rw [q]; decide)) (fun q => hc (by rw [q]; decide))
  have hj451 : IJ g442 := IJ_e hIJ (hw450 126 (by decide)) (hw450 132 (by decide)) (hw450 134 (by decide))
  refine lv_pop hx hb dL_law_446 rfl ?_
  refine lv_aload_n hx hb dL_law_447 rfl (lv_at hl 2 rfl) ?_
  refine lv_aload_n hx hb dL_law_448 rfl (lv_at hl 4 rfl) ?_
  refine lv_iload hx hb dL_law_449 (lv_at hl 0 rfl) ?_
  refine ty_iconst hx hb (1) dL_law_451 (by decide) (fun x452 h453 => ?_)
  refine ty_iadd hx hb dL_law_452 (fun x454 h455 => ?_)
  have h456 := lw_ix (k := 1) h453 h455 hi0 hiL hLN (by decide)
  refine va_sld hx hb hXs hbl hbA hS (i := x454) (ty_ix h456.2) dL_law_453 ?_
  refine W.eq (g2 := F0 m 454 ls [.int (xs (i.toInt.toNat + 1)), .ref q13]) (by rw [lw_xs (xs := xs) h456.1 hi0.1]) ?_
  clear h456 h455 h453
  refine W.eq (g2 := F0 m 454 ls [.int x422, .ref q13]) (by rw [s423]) ?_
  refine lv_aload_n hx hb dL_law_454 rfl (lv_at hl 4 rfl) ?_
  refine lv_iload hx hb dL_law_455 (lv_at hl 0 rfl) ?_
  refine ty_iconst hx hb (2) dL_law_457 (by decide) (fun x457 h458 => ?_)
  refine ty_iadd hx hb dL_law_458 (fun x459 h460 => ?_)
  have h461 := lw_ix (k := 2) h458 h460 hi0 hiL hLN (by decide)
  refine va_sld hx hb hXs hbl hbA hS (i := x459) (ty_ix h461.2) dL_law_459 ?_
  refine W.eq (g2 := F0 m 460 ls [.int (xs (i.toInt.toNat + 2)), .int x422, .ref q13]) (by rw [lw_xs (xs := xs) h461.1 hi0.1]) ?_
  clear h461 h460 h458
  refine W.eq (g2 := F0 m 460 ls [.int x429, .int x422, .ref q13]) (by rw [s430]) ?_
  refine lv_aload_n hx hb dL_law_460 rfl (lv_at hl 4 rfl) ?_
  refine lv_iload hx hb dL_law_461 (lv_at hl 0 rfl) ?_
  refine ty_iconst hx hb (3) dL_law_463 (by decide) (fun x462 h463 => ?_)
  refine ty_iadd hx hb dL_law_464 (fun x464 h465 => ?_)
  have h466 := lw_ix (k := 3) h463 h465 hi0 hiL hLN (by decide)
  refine va_sld hx hb hXs hbl hbA hS (i := x464) (ty_ix h466.2) dL_law_465 ?_
  refine W.eq (g2 := F0 m 466 ls [.int (xs (i.toInt.toNat + 3)), .int x429, .int x422, .ref q13]) (by rw [lw_xs (xs := xs) h466.1 hi0.1]) ?_
  clear h466 h465 h463
  refine W.eq (g2 := F0 m 466 ls [.int x436, .int x429, .int x422, .ref q13]) (by rw [s437]) ?_
  refine cI (va_runV (C := RX9) (As := [.int x422, .int x429, .int x436]) (rest := []) ⟨hx, hb, hml, hown, hA⟩ (k_X9_give l dC dI dA sz ((q29, .inl (dA 3, 1, .inr (.inl fq))) :: X) Γ441 hU g442 q13 t_q13 x422 x429 x436   (RM_101 hRL (hw450 101 (by decide))) (RM_104 hRL (hw450 104 (by decide))) (RM_126 hRL (hw450 126 (by decide))) (RM_122 hRL (hw450 122 (by decide))) (RM_112 hRL (hw450 112 (by decide))) (hj451)) ⟨callB_of 3 hA (al_A wd_5_128) rfl rfl rfl (hA _ wd_1_7) (hA _ wd_5_125) (by decide +kernel) ⟨Nat.le_of_ble_eq_true rfl, Nat.le_of_ble_eq_true rfl⟩, hA _ wd_5_126, hA _ wd_5_127⟩ ⟨bl, recv_X9 hE hG t_q13, fun U hU9 hW9 => ⟨rfl, by rw [hU9]; exact hG, hE.go hS hU9 hW9⟩⟩ rfl rfl hl.1 rfl (lv_room (Nat.le_of_ble_eq_true rfl)) dL_law_466 ⟨(Nat.le_trans (show (kc + 1) + 0 ≤ 300000 by omega) (Nat.le_of_ble_eq_true rfl)), (Nat.le_trans (show (ks + 10) + 0 ≤ 300000 by omega) (Nat.le_of_ble_eq_true rfl))⟩) hS (fun x469 u467 H locs w468 hG hS => ?_)
  obtain ⟨hf472, hq470, hq471⟩ := w468
  replace hq471 := HD.mk hq471
  have hw473 : ∀ c, c ∉ ([100, 126, 127, 128, 129, 130, 131, 132, 133, 134, 135] : List Nat) → u467 c = g442 c := fun c hc => funext fun j => hf472 c j (fun q => hc (by rw [q]; decide)) (fun q => hc (by rw [q]; decide)) (fun q => hc (by rw [q]; decide)) (fun q => hc (by rw [q]; decide)) (fun q => hc (by rw [q]; decide)) (fun q => hc (by rw [q]; decide)) (fun q => hc (by rw [q]; decide)) (fun q => hc (by rw [q]; decide)) (fun q => hc (by rw [q]; decide)) (fun q => hc (by rw [q]; decide)) (fun q => hc (by rw [q]; decide))
  have hst474 := st_give (g := g) (u1 := g442) (u2 := u467) (r1 := x440) (r2 := x469) hRL hw450 hw473 hq448.v hq471.v
  have hrr475 := hst474.2
  refine lv_pop hx hb dL_law_469 rfl ?_
  refine lv_goto (tgt := 1075) hx hb dL_law_470 (by decide) ?_
  obtain ⟨x476, h477⟩ : ∃ y : Int32, y = i + Int32.ofInt (6) := ⟨_, rfl⟩
  try have h478 : x476.toInt = i.toInt + (6) := ty_inc h477 (by decide) (by omega) (by omega)
  refine lv_iinc (v := x476) (lv' := [(4, .int x476), (3, .ref q29), (2, .ref q13), (1, .ref q1), (0, .ref b)]) hx hb dL_law_1075 hl (k := 0) rfl h477.symm (by decide) rfl (fun ls hl => ?_)
  refine lv_goto (tgt := 23) hx hb dL_law_1078 (by decide) ?_
  exact ih x476 Γ441 u467 ((kc + 1)) ((ks + 10)) _ _ ls fq (by omega) (by omega) (by have a9 := congrFun (hw473 4 (by decide)) 0; have b9 := congrFun (hw450 4 (by decide)) 0; omega) hst474.1 hq470 (Bd_e hB447 (hw473 33 (by decide)) (hw473 34 (by decide)) (hw473 35 (by decide))) hU t_q1 t_q13  (by omega) (by omega) hG hS (lv_sub hl [0, 1, 2, 3, 4] rfl)
set_option maxHeartbeats 40000000 in
set_option maxRecDepth 100000 in
/-- the law's case 9 -/
theorem law_c9 {p : Program} {e : Env} {s : State} {m : MethodId} {below : List Frame} {meth : Method} {c : Code} (l : Launch) (hl9 : l.stackTraces = false) {b L : Nat} {xs : Nat → Int32} (hLN : L ≤ 3072) (hx : p.tables.exec = Jvm.exec) (hb : c.code = code) (hr : meth.sig.returnType = ret) (hml : c.maxLocals = 7) (hown : s.vm.findClass R_law = some m.cls) (hA : ∀ w ∈ AL, w.before #[Value.ref b] s = true) (hXs : va_X b L xs s s.heap) (hbl : b < s.heap.size) (hlocks : meth.locks = false) {dC : Nat → ClassId} {dI : Nat → Nat → Nat} {dA : Nat → ClassId} {sz : Nat} (hE : en dC dI dA sz s) (hsz : sz = s.heap.size) (hbA : ¬ ty_A sz b) (X : va_W) (q1 q13 q29 : Nat) (n : Nat) (ih : LJ p l e s m below meth c b dC dI dA sz X q1 q13 q29 n) (i : Int32) (Γ : ty_G) (g : gh) (kc ks : Nat) (H : Heap) (locs : List Loc) (ls : Array Slot) (fq : Nat → Int64) (hm : (3073 - i.toInt : Int) < (n + 1 : Nat)) (hi0 : 0 ≤ i.toInt ∧ i.toInt ≤ 3072) (hy4 : g 4 0 ≤ i.toInt) (hRL : RLA g) (hIJ : IJ g) (hBd : Bd Γ g) (hU : Un Γ) (t_q1 : ty Γ q1 1) (t_q13 : ty Γ q13 30) (hkc : kc ≤ 300 + i.toInt.toNat) (hks : ks ≤ 30000 + 28 * i.toInt.toNat) (hG : ty_ok (dC, dI) vwCl Γ (TP dA Γ g) sz ((q29, .inl (dA 3, 1, .inr (.inl fq))) :: X) H) (hS : va_S (ty_A sz) s.heap H locs) (hl : lv_has ls 7 [(4, .int i), (3, .ref q29), (2, .ref q13), (1, .ref q1), (0, .ref b)]) (hiL : i.toInt + 6 ≤ (L : Int)) : W p l e room_1 s m #[Value.ref b] below meth c H locs kc ks (lw_Z below #[Value.ref b] s) (F0 m 473 ls []) := by
  refine lv_aload_n hx hb dL_law_473 rfl (lv_at hl 3 rfl) ?_
  refine lv_aload_n hx hb dL_law_474 rfl (lv_at hl 4 rfl) ?_
  refine lv_iload hx hb dL_law_475 (lv_at hl 0 rfl) ?_
  refine ty_iconst hx hb (1) dL_law_477 (by decide) (fun x479 h480 => ?_)
  refine ty_iadd hx hb dL_law_478 (fun x481 h482 => ?_)
  have h483 := lw_ix (k := 1) h480 h482 hi0 hiL hLN (by decide)
  refine va_sld hx hb hXs hbl hbA hS (i := x481) (ty_ix h483.2) dL_law_479 ?_
  refine W.eq (g2 := F0 m 480 ls [.int (xs (i.toInt.toNat + 1)), .ref q1]) (by rw [lw_xs (xs := xs) h483.1 hi0.1]) ?_
  clear h483 h482 h480
  refine lv_topi (fun x484 s485 => ?_)
  refine lv_aload_n hx hb dL_law_480 rfl (lv_at hl 4 rfl) ?_
  refine lv_iload hx hb dL_law_481 (lv_at hl 0 rfl) ?_
  refine ty_iconst hx hb (2) dL_law_483 (by decide) (fun x486 h487 => ?_)
  refine ty_iadd hx hb dL_law_484 (fun x488 h489 => ?_)
  have h490 := lw_ix (k := 2) h487 h489 hi0 hiL hLN (by decide)
  refine va_sld hx hb hXs hbl hbA hS (i := x488) (ty_ix h490.2) dL_law_485 ?_
  refine W.eq (g2 := F0 m 486 ls [.int (xs (i.toInt.toNat + 2)), .int x484, .ref q1]) (by rw [lw_xs (xs := xs) h490.1 hi0.1]) ?_
  clear h490 h489 h487
  refine lv_topi (fun x491 s492 => ?_)
  refine lv_aload_n hx hb dL_law_486 rfl (lv_at hl 4 rfl) ?_
  refine lv_iload hx hb dL_law_487 (lv_at hl 0 rfl) ?_
  refine ty_iconst hx hb (3) dL_law_489 (by decide) (fun x493 h494 => ?_)
  refine ty_iadd hx hb dL_law_490 (fun x495 h496 => ?_)
  have h497 := lw_ix (k := 3) h494 h496 hi0 hiL hLN (by decide)
  refine va_sld hx hb hXs hbl hbA hS (i := x495) (ty_ix h497.2) dL_law_491 ?_
  refine W.eq (g2 := F0 m 492 ls [.int (xs (i.toInt.toNat + 3)), .int x491, .int x484, .ref q1]) (by rw [lw_xs (xs := xs) h497.1 hi0.1]) ?_
  clear h497 h496 h494
  refine lv_topi (fun x498 s499 => ?_)
  refine lv_aload_n hx hb dL_law_492 rfl (lv_at hl 4 rfl) ?_
  refine lv_iload hx hb dL_law_493 (lv_at hl 0 rfl) ?_
  refine ty_iconst hx hb (4) dL_law_495 (by decide) (fun x500 h501 => ?_)
  refine ty_iadd hx hb dL_law_496 (fun x502 h503 => ?_)
  have h504 := lw_ix (k := 4) h501 h503 hi0 hiL hLN (by decide)
  refine va_sld hx hb hXs hbl hbA hS (i := x502) (ty_ix h504.2) dL_law_497 ?_
  refine W.eq (g2 := F0 m 498 ls [.int (xs (i.toInt.toNat + 4)), .int x498, .int x491, .int x484, .ref q1]) (by rw [lw_xs (xs := xs) h504.1 hi0.1]) ?_
  clear h504 h503 h501
  refine lv_topi (fun x505 s506 => ?_)
  refine lv_aload_n hx hb dL_law_498 rfl (lv_at hl 4 rfl) ?_
  refine lv_iload hx hb dL_law_499 (lv_at hl 0 rfl) ?_
  refine ty_iconst hx hb (5) dL_law_501 (by decide) (fun x507 h508 => ?_)
  refine ty_iadd hx hb dL_law_502 (fun x509 h510 => ?_)
  have h511 := lw_ix (k := 5) h508 h510 hi0 hiL hLN (by decide)
  refine va_sld hx hb hXs hbl hbA hS (i := x509) (ty_ix h511.2) dL_law_503 ?_
  refine W.eq (g2 := F0 m 504 ls [.int (xs (i.toInt.toNat + 5)), .int x505, .int x498, .int x491, .int x484, .ref q1]) (by rw [lw_xs (xs := xs) h511.1 hi0.1]) ?_
  clear h511 h510 h508
  refine lv_topi (fun x512 s513 => ?_)
  refine cIB (va_runV (C := RX8) (As := [.int x484, .int x491, .int x498, .int x505, .int x512]) (rest := []) ⟨hx, hb, hml, hown, hA⟩ (k_X8_wish l dC dI dA sz ((q29, .inl (dA 3, 1, .inr (.inl fq))) :: X) Γ hU g q1 t_q1 x484 x491 x498 x505 x512   (RL_3 hRL) (hBd)) ⟨callB_of 5 hA (al_A wd_3_68) rfl rfl rfl (hA _ wd_1_1) (hA _ wd_3_65) (by decide +kernel) ⟨Nat.le_of_ble_eq_true rfl, Nat.le_of_ble_eq_true rfl⟩, hA _ wd_3_66, hA _ wd_3_67⟩ ⟨bl, recv_X8 hE hG t_q1, fun U hU9 hW9 => ⟨rfl, by rw [hU9]; exact hG, hE.go hS hU9 hW9⟩⟩ rfl rfl hl.1 rfl (lv_room (Nat.le_of_ble_eq_true rfl)) dL_law_504 ⟨(Nat.le_trans (show kc + 1 ≤ 300000 by omega) (Nat.le_of_ble_eq_true rfl)), (Nat.le_trans (show ks + 4 ≤ 300000 by omega) (Nat.le_of_ble_eq_true rfl))⟩) hS (fun x516 u514 H locs w515 hG hS => ?_)
  obtain ⟨Γ517, g518⟩ := u514
  dsimp only at w515 hG
  obtain ⟨hx519, hU, hB523, hf520, hq524⟩ := w515
  have hX525 : ext Γ Γ517 := ext.trans ext.rf hx519
  replace t_q13 : ty Γ517 q13 30 := hx519.one t_q13 (by decide)
  replace t_q1 : ty Γ517 q1 1 := hx519.one t_q1 (by decide)
  replace hq524 := HD.mk hq524
  have hw526 : ∀ c, c ∉ ([66] : List Nat) → g518 c = g c := fun c hc => funext fun j => hf520 c j (fun q => hc (by rw [q]; decide))
  have hj527 : IJ g518 := IJ_e hIJ (hw526 126 (by decide)) (hw526 132 (by decide)) (hw526 134 (by decide))
  refine lv_pop hx hb dL_law_507 rfl ?_
  refine lv_aload_n hx hb dL_law_508 rfl (lv_at hl 2 rfl) ?_
  refine lv_aload_n hx hb dL_law_509 rfl (lv_at hl 4 rfl) ?_
  refine lv_iload hx hb dL_law_510 (lv_at hl 0 rfl) ?_
  refine ty_iconst hx hb (1) dL_law_512 (by decide) (fun x528 h529 => ?_)
  refine ty_iadd hx hb dL_law_513 (fun x530 h531 => ?_)
  have h532 := lw_ix (k := 1) h529 h531 hi0 hiL hLN (by decide)
  refine va_sld hx hb hXs hbl hbA hS (i := x530) (ty_ix h532.2) dL_law_514 ?_
  refine W.eq (g2 := F0 m 515 ls [.int (xs (i.toInt.toNat + 1)), .ref q13]) (by rw [lw_xs (xs := xs) h532.1 hi0.1]) ?_
  clear h532 h531 h529
  refine W.eq (g2 := F0 m 515 ls [.int x484, .ref q13]) (by rw [s485]) ?_
  refine lv_aload_n hx hb dL_law_515 rfl (lv_at hl 4 rfl) ?_
  refine lv_iload hx hb dL_law_516 (lv_at hl 0 rfl) ?_
  refine ty_iconst hx hb (2) dL_law_518 (by decide) (fun x533 h534 => ?_)
  refine ty_iadd hx hb dL_law_519 (fun x535 h536 => ?_)
  have h537 := lw_ix (k := 2) h534 h536 hi0 hiL hLN (by decide)
  refine va_sld hx hb hXs hbl hbA hS (i := x535) (ty_ix h537.2) dL_law_520 ?_
  refine W.eq (g2 := F0 m 521 ls [.int (xs (i.toInt.toNat + 2)), .int x484, .ref q13]) (by rw [lw_xs (xs := xs) h537.1 hi0.1]) ?_
  clear h537 h536 h534
  refine W.eq (g2 := F0 m 521 ls [.int x491, .int x484, .ref q13]) (by rw [s492]) ?_
  refine lv_aload_n hx hb dL_law_521 rfl (lv_at hl 4 rfl) ?_
  refine lv_iload hx hb dL_law_522 (lv_at hl 0 rfl) ?_
  refine ty_iconst hx hb (3) dL_law_524 (by decide) (fun x538 h539 => ?_)
  refine ty_iadd hx hb dL_law_525 (fun x540 h541 => ?_)
  have h542 := lw_ix (k := 3) h539 h541 hi0 hiL hLN (by decide)
  refine va_sld hx hb hXs hbl hbA hS (i := x540) (ty_ix h542.2) dL_law_526 ?_
  refine W.eq (g2 := F0 m 527 ls [.int (xs (i.toInt.toNat + 3)), .int x491, .int x484, .ref q13]) (by rw [lw_xs (xs := xs) h542.1 hi0.1]) ?_
  clear h542 h541 h539
  refine W.eq (g2 := F0 m 527 ls [.int x498, .int x491, .int x484, .ref q13]) (by rw [s499]) ?_
  refine lv_aload_n hx hb dL_law_527 rfl (lv_at hl 4 rfl) ?_
  refine lv_iload hx hb dL_law_528 (lv_at hl 0 rfl) ?_
  refine ty_iconst hx hb (4) dL_law_530 (by decide) (fun x543 h544 => ?_)
  refine ty_iadd hx hb dL_law_531 (fun x545 h546 => ?_)
  have h547 := lw_ix (k := 4) h544 h546 hi0 hiL hLN (by decide)
  refine va_sld hx hb hXs hbl hbA hS (i := x545) (ty_ix h547.2) dL_law_532 ?_
  refine W.eq (g2 := F0 m 533 ls [.int (xs (i.toInt.toNat + 4)), .int x498, .int x491, .int x484, .ref q13]) (by rw [lw_xs (xs := xs) h547.1 hi0.1]) ?_
  clear h547 h546 h544
  refine W.eq (g2 := F0 m 533 ls [.int x505, .int x498, .int x491, .int x484, .ref q13]) (by rw [s506]) ?_
  refine lv_aload_n hx hb dL_law_533 rfl (lv_at hl 4 rfl) ?_
  refine lv_iload hx hb dL_law_534 (lv_at hl 0 rfl) ?_
  refine ty_iconst hx hb (5) dL_law_536 (by decide) (fun x548 h549 => ?_)
  refine ty_iadd hx hb dL_law_537 (fun x550 h551 => ?_)
  have h552 := lw_ix (k := 5) h549 h551 hi0 hiL hLN (by decide)
  refine va_sld hx hb hXs hbl hbA hS (i := x550) (ty_ix h552.2) dL_law_538 ?_
  refine W.eq (g2 := F0 m 539 ls [.int (xs (i.toInt.toNat + 5)), .int x505, .int x498, .int x491, .int x484, .ref q13]) (by rw [lw_xs (xs := xs) h552.1 hi0.1]) ?_
  clear h552 h551 h549
  refine W.eq (g2 := F0 m 539 ls [.int x512, .int x505, .int x498, .int x491, .int x484, .ref q13]) (by rw [s513]) ?_
  refine cI (va_runV (C := RX9) (As := [.int x484, .int x491, .int x498, .int x505, .int x512]) (rest := []) ⟨hx, hb, hml, hown, hA⟩ (k_X9_wish l dC dI dA sz ((q29, .inl (dA 3, 1, .inr (.inl fq))) :: X) Γ517 hU g518 q13 t_q13 x484 x491 x498 x505 x512   (RM_126 hRL (hw526 126 (by decide)))) ⟨callB_of 5 hA (al_A wd_5_136) rfl rfl rfl (hA _ wd_1_7) (hA _ wd_5_133) (by decide +kernel) ⟨Nat.le_of_ble_eq_true rfl, Nat.le_of_ble_eq_true rfl⟩, hA _ wd_5_134, hA _ wd_5_135⟩ ⟨bl, recv_X9 hE hG t_q13, fun U hU9 hW9 => ⟨rfl, by rw [hU9]; exact hG, hE.go hS hU9 hW9⟩⟩ rfl rfl hl.1 rfl (lv_room (Nat.le_of_ble_eq_true rfl)) dL_law_539 ⟨(Nat.le_trans (show (kc + 1) + 0 ≤ 300000 by omega) (Nat.le_of_ble_eq_true rfl)), (Nat.le_trans (show (ks + 4) + 0 ≤ 300000 by omega) (Nat.le_of_ble_eq_true rfl))⟩) hS (fun x555 u553 H locs w554 hG hS => ?_)
  obtain ⟨hf557, hq556⟩ := w554
  replace hq556 := HD.mk hq556
  have hw558 : ∀ c, c ∉ ([100, 135] : List Nat) → u553 c = g518 c := fun c hc => funext fun j => hf557 c j (fun q => hc (by rw [q]; decide)) (fun q => hc (by rw [q]; decide))
  have hst559 := st_wish (g := g) (u1 := g518) (u2 := u553) (r1 := x516) (r2 := x555) hRL hw526 hw558 hq524.v hq556.v
  have hrr560 := hst559.2
  refine lv_pop hx hb dL_law_542 rfl ?_
  refine lv_goto (tgt := 1075) hx hb dL_law_543 (by decide) ?_
  obtain ⟨x561, h562⟩ : ∃ y : Int32, y = i + Int32.ofInt (6) := ⟨_, rfl⟩
  try have h563 : x561.toInt = i.toInt + (6) := ty_inc h562 (by decide) (by omega) (by omega)
  refine lv_iinc (v := x561) (lv' := [(4, .int x561), (3, .ref q29), (2, .ref q13), (1, .ref q1), (0, .ref b)]) hx hb dL_law_1075 hl (k := 0) rfl h562.symm (by decide) rfl (fun ls hl => ?_)
  refine lv_goto (tgt := 23) hx hb dL_law_1078 (by decide) ?_
  exact ih x561 Γ517 u553 ((kc + 1)) ((ks + 4)) _ _ ls fq (by omega) (by omega) (by have a9 := congrFun (hw558 4 (by decide)) 0; have b9 := congrFun (hw526 4 (by decide)) 0; omega) hst559.1 (IJ_e hj527 (hw558 126 (by decide)) (hw558 132 (by decide)) (hw558 134 (by decide))) (Bd_e hB523 (hw558 33 (by decide)) (hw558 34 (by decide)) (hw558 35 (by decide))) hU t_q1 t_q13  (by omega) (by omega) hG hS (lv_sub hl [0, 1, 2, 3, 4] rfl)
set_option maxHeartbeats 40000000 in
set_option maxRecDepth 100000 in
/-- the law's case 10 -/
theorem law_c10 {p : Program} {e : Env} {s : State} {m : MethodId} {below : List Frame} {meth : Method} {c : Code} (l : Launch) (hl9 : l.stackTraces = false) {b L : Nat} {xs : Nat → Int32} (hLN : L ≤ 3072) (hx : p.tables.exec = Jvm.exec) (hb : c.code = code) (hr : meth.sig.returnType = ret) (hml : c.maxLocals = 7) (hown : s.vm.findClass R_law = some m.cls) (hA : ∀ w ∈ AL, w.before #[Value.ref b] s = true) (hXs : va_X b L xs s s.heap) (hbl : b < s.heap.size) (hlocks : meth.locks = false) {dC : Nat → ClassId} {dI : Nat → Nat → Nat} {dA : Nat → ClassId} {sz : Nat} (hE : en dC dI dA sz s) (hsz : sz = s.heap.size) (hbA : ¬ ty_A sz b) (X : va_W) (q1 q13 q29 : Nat) (n : Nat) (ih : LJ p l e s m below meth c b dC dI dA sz X q1 q13 q29 n) (i : Int32) (Γ : ty_G) (g : gh) (kc ks : Nat) (H : Heap) (locs : List Loc) (ls : Array Slot) (fq : Nat → Int64) (hm : (3073 - i.toInt : Int) < (n + 1 : Nat)) (hi0 : 0 ≤ i.toInt ∧ i.toInt ≤ 3072) (hy4 : g 4 0 ≤ i.toInt) (hRL : RLA g) (hIJ : IJ g) (hBd : Bd Γ g) (hU : Un Γ) (t_q1 : ty Γ q1 1) (t_q13 : ty Γ q13 30) (hkc : kc ≤ 300 + i.toInt.toNat) (hks : ks ≤ 30000 + 28 * i.toInt.toNat) (hG : ty_ok (dC, dI) vwCl Γ (TP dA Γ g) sz ((q29, .inl (dA 3, 1, .inr (.inl fq))) :: X) H) (hS : va_S (ty_A sz) s.heap H locs) (hl : lv_has ls 7 [(4, .int i), (3, .ref q29), (2, .ref q13), (1, .ref q1), (0, .ref b)]) (hiL : i.toInt + 6 ≤ (L : Int)) : W p l e room_1 s m #[Value.ref b] below meth c H locs kc ks (lw_Z below #[Value.ref b] s) (F0 m 546 ls []) := by
  refine lv_aload_n hx hb dL_law_546 rfl (lv_at hl 3 rfl) ?_
  refine lv_aload_n hx hb dL_law_547 rfl (lv_at hl 4 rfl) ?_
  refine lv_iload hx hb dL_law_548 (lv_at hl 0 rfl) ?_
  refine ty_iconst hx hb (1) dL_law_550 (by decide) (fun x564 h565 => ?_)
  refine ty_iadd hx hb dL_law_551 (fun x566 h567 => ?_)
  have h568 := lw_ix (k := 1) h565 h567 hi0 hiL hLN (by decide)
  refine va_sld hx hb hXs hbl hbA hS (i := x566) (ty_ix h568.2) dL_law_552 ?_
  refine W.eq (g2 := F0 m 553 ls [.int (xs (i.toInt.toNat + 1)), .ref q1]) (by rw [lw_xs (xs := xs) h568.1 hi0.1]) ?_
  clear h568 h567 h565
  refine lv_topi (fun x569 s570 => ?_)
  refine lv_aload_n hx hb dL_law_553 rfl (lv_at hl 4 rfl) ?_
  refine lv_iload hx hb dL_law_554 (lv_at hl 0 rfl) ?_
  refine ty_iconst hx hb (2) dL_law_556 (by decide) (fun x571 h572 => ?_)
  refine ty_iadd hx hb dL_law_557 (fun x573 h574 => ?_)
  have h575 := lw_ix (k := 2) h572 h574 hi0 hiL hLN (by decide)
  refine va_sld hx hb hXs hbl hbA hS (i := x573) (ty_ix h575.2) dL_law_558 ?_
  refine W.eq (g2 := F0 m 559 ls [.int (xs (i.toInt.toNat + 2)), .int x569, .ref q1]) (by rw [lw_xs (xs := xs) h575.1 hi0.1]) ?_
  clear h575 h574 h572
  refine lv_topi (fun x576 s577 => ?_)
  refine lv_aload_n hx hb dL_law_559 rfl (lv_at hl 4 rfl) ?_
  refine lv_iload hx hb dL_law_560 (lv_at hl 0 rfl) ?_
  refine ty_iconst hx hb (3) dL_law_562 (by decide) (fun x578 h579 => ?_)
  refine ty_iadd hx hb dL_law_563 (fun x580 h581 => ?_)
  have h582 := lw_ix (k := 3) h579 h581 hi0 hiL hLN (by decide)
  refine va_sld hx hb hXs hbl hbA hS (i := x580) (ty_ix h582.2) dL_law_564 ?_
  refine W.eq (g2 := F0 m 565 ls [.int (xs (i.toInt.toNat + 3)), .int x576, .int x569, .ref q1]) (by rw [lw_xs (xs := xs) h582.1 hi0.1]) ?_
  clear h582 h581 h579
  refine lv_topi (fun x583 s584 => ?_)
  refine lv_aload_n hx hb dL_law_565 rfl (lv_at hl 4 rfl) ?_
  refine lv_iload hx hb dL_law_566 (lv_at hl 0 rfl) ?_
  refine ty_iconst hx hb (4) dL_law_568 (by decide) (fun x585 h586 => ?_)
  refine ty_iadd hx hb dL_law_569 (fun x587 h588 => ?_)
  have h589 := lw_ix (k := 4) h586 h588 hi0 hiL hLN (by decide)
  refine va_sld hx hb hXs hbl hbA hS (i := x587) (ty_ix h589.2) dL_law_570 ?_
  refine W.eq (g2 := F0 m 571 ls [.int (xs (i.toInt.toNat + 4)), .int x583, .int x576, .int x569, .ref q1]) (by rw [lw_xs (xs := xs) h589.1 hi0.1]) ?_
  clear h589 h588 h586
  refine lv_topi (fun x590 s591 => ?_)
  refine lv_aload_n hx hb dL_law_571 rfl (lv_at hl 4 rfl) ?_
  refine lv_iload hx hb dL_law_572 (lv_at hl 0 rfl) ?_
  refine ty_iconst hx hb (5) dL_law_574 (by decide) (fun x592 h593 => ?_)
  refine ty_iadd hx hb dL_law_575 (fun x594 h595 => ?_)
  have h596 := lw_ix (k := 5) h593 h595 hi0 hiL hLN (by decide)
  refine va_sld hx hb hXs hbl hbA hS (i := x594) (ty_ix h596.2) dL_law_576 ?_
  refine W.eq (g2 := F0 m 577 ls [.int (xs (i.toInt.toNat + 5)), .int x590, .int x583, .int x576, .int x569, .ref q1]) (by rw [lw_xs (xs := xs) h596.1 hi0.1]) ?_
  clear h596 h595 h593
  refine lv_topi (fun x597 s598 => ?_)
  refine cIB (va_runV (C := RX8) (As := [.int x569, .int x576, .int x583, .int x590, .int x597]) (rest := []) ⟨hx, hb, hml, hown, hA⟩ (k_X8_rushWish l dC dI dA sz ((q29, .inl (dA 3, 1, .inr (.inl fq))) :: X) Γ hU g q1 t_q1 x569 x576 x583 x590 x597   (RL_2 hRL) (hBd)) ⟨callB_of 5 hA (al_A wd_3_106) rfl rfl rfl (hA _ wd_1_1) (hA _ wd_3_103) (by decide +kernel) ⟨Nat.le_of_ble_eq_true rfl, Nat.le_of_ble_eq_true rfl⟩, hA _ wd_3_104, hA _ wd_3_105⟩ ⟨bl, recv_X8 hE hG t_q1, fun U hU9 hW9 => ⟨rfl, by rw [hU9]; exact hG, hE.go hS hU9 hW9⟩⟩ rfl rfl hl.1 rfl (lv_room (Nat.le_of_ble_eq_true rfl)) dL_law_577 ⟨(Nat.le_trans (show kc + 1 ≤ 300000 by omega) (Nat.le_of_ble_eq_true rfl)), (Nat.le_trans (show ks + 4 ≤ 300000 by omega) (Nat.le_of_ble_eq_true rfl))⟩) hS (fun x601 u599 H locs w600 hG hS => ?_)
  obtain ⟨Γ602, g603⟩ := u599
  dsimp only at w600 hG
  obtain ⟨hx604, hU, hB608, hf605, hq609⟩ := w600
  have hX610 : ext Γ Γ602 := ext.trans ext.rf hx604
  replace t_q13 : ty Γ602 q13 30 := hx604.one t_q13 (by decide)
  replace t_q1 : ty Γ602 q1 1 := hx604.one t_q1 (by decide)
  replace hq609 := HD.mk hq609
  have hw611 : ∀ c, c ∉ ([56] : List Nat) → g603 c = g c := fun c hc => funext fun j => hf605 c j (fun q => hc (by rw [q]; decide))
  have hj612 : IJ g603 := IJ_e hIJ (hw611 126 (by decide)) (hw611 132 (by decide)) (hw611 134 (by decide))
  refine lv_pop hx hb dL_law_580 rfl ?_
  refine lv_aload_n hx hb dL_law_581 rfl (lv_at hl 2 rfl) ?_
  refine lv_aload_n hx hb dL_law_582 rfl (lv_at hl 4 rfl) ?_
  refine lv_iload hx hb dL_law_583 (lv_at hl 0 rfl) ?_
  refine ty_iconst hx hb (1) dL_law_585 (by decide) (fun x613 h614 => ?_)
  refine ty_iadd hx hb dL_law_586 (fun x615 h616 => ?_)
  have h617 := lw_ix (k := 1) h614 h616 hi0 hiL hLN (by decide)
  refine va_sld hx hb hXs hbl hbA hS (i := x615) (ty_ix h617.2) dL_law_587 ?_
  refine W.eq (g2 := F0 m 588 ls [.int (xs (i.toInt.toNat + 1)), .ref q13]) (by rw [lw_xs (xs := xs) h617.1 hi0.1]) ?_
  clear h617 h616 h614
  refine W.eq (g2 := F0 m 588 ls [.int x569, .ref q13]) (by rw [s570]) ?_
  refine lv_aload_n hx hb dL_law_588 rfl (lv_at hl 4 rfl) ?_
  refine lv_iload hx hb dL_law_589 (lv_at hl 0 rfl) ?_
  refine ty_iconst hx hb (2) dL_law_591 (by decide) (fun x618 h619 => ?_)
  refine ty_iadd hx hb dL_law_592 (fun x620 h621 => ?_)
  have h622 := lw_ix (k := 2) h619 h621 hi0 hiL hLN (by decide)
  refine va_sld hx hb hXs hbl hbA hS (i := x620) (ty_ix h622.2) dL_law_593 ?_
  refine W.eq (g2 := F0 m 594 ls [.int (xs (i.toInt.toNat + 2)), .int x569, .ref q13]) (by rw [lw_xs (xs := xs) h622.1 hi0.1]) ?_
  clear h622 h621 h619
  refine W.eq (g2 := F0 m 594 ls [.int x576, .int x569, .ref q13]) (by rw [s577]) ?_
  refine lv_aload_n hx hb dL_law_594 rfl (lv_at hl 4 rfl) ?_
  refine lv_iload hx hb dL_law_595 (lv_at hl 0 rfl) ?_
  refine ty_iconst hx hb (3) dL_law_597 (by decide) (fun x623 h624 => ?_)
  refine ty_iadd hx hb dL_law_598 (fun x625 h626 => ?_)
  have h627 := lw_ix (k := 3) h624 h626 hi0 hiL hLN (by decide)
  refine va_sld hx hb hXs hbl hbA hS (i := x625) (ty_ix h627.2) dL_law_599 ?_
  refine W.eq (g2 := F0 m 600 ls [.int (xs (i.toInt.toNat + 3)), .int x576, .int x569, .ref q13]) (by rw [lw_xs (xs := xs) h627.1 hi0.1]) ?_
  clear h627 h626 h624
  refine W.eq (g2 := F0 m 600 ls [.int x583, .int x576, .int x569, .ref q13]) (by rw [s584]) ?_
  refine lv_aload_n hx hb dL_law_600 rfl (lv_at hl 4 rfl) ?_
  refine lv_iload hx hb dL_law_601 (lv_at hl 0 rfl) ?_
  refine ty_iconst hx hb (4) dL_law_603 (by decide) (fun x628 h629 => ?_)
  refine ty_iadd hx hb dL_law_604 (fun x630 h631 => ?_)
  have h632 := lw_ix (k := 4) h629 h631 hi0 hiL hLN (by decide)
  refine va_sld hx hb hXs hbl hbA hS (i := x630) (ty_ix h632.2) dL_law_605 ?_
  refine W.eq (g2 := F0 m 606 ls [.int (xs (i.toInt.toNat + 4)), .int x583, .int x576, .int x569, .ref q13]) (by rw [lw_xs (xs := xs) h632.1 hi0.1]) ?_
  clear h632 h631 h629
  refine W.eq (g2 := F0 m 606 ls [.int x590, .int x583, .int x576, .int x569, .ref q13]) (by rw [s591]) ?_
  refine lv_aload_n hx hb dL_law_606 rfl (lv_at hl 4 rfl) ?_
  refine lv_iload hx hb dL_law_607 (lv_at hl 0 rfl) ?_
  refine ty_iconst hx hb (5) dL_law_609 (by decide) (fun x633 h634 => ?_)
  refine ty_iadd hx hb dL_law_610 (fun x635 h636 => ?_)
  have h637 := lw_ix (k := 5) h634 h636 hi0 hiL hLN (by decide)
  refine va_sld hx hb hXs hbl hbA hS (i := x635) (ty_ix h637.2) dL_law_611 ?_
  refine W.eq (g2 := F0 m 612 ls [.int (xs (i.toInt.toNat + 5)), .int x590, .int x583, .int x576, .int x569, .ref q13]) (by rw [lw_xs (xs := xs) h637.1 hi0.1]) ?_
  clear h637 h636 h634
  refine W.eq (g2 := F0 m 612 ls [.int x597, .int x590, .int x583, .int x576, .int x569, .ref q13]) (by rw [s598]) ?_
  refine cI (va_runV (C := RX9) (As := [.int x569, .int x576, .int x583, .int x590, .int x597]) (rest := []) ⟨hx, hb, hml, hown, hA⟩ (k_X9_rushWish l dC dI dA sz ((q29, .inl (dA 3, 1, .inr (.inl fq))) :: X) Γ602 hU g603 q13 t_q13 x569 x576 x583 x590 x597   (RM_104 hRL (hw611 104 (by decide)))) ⟨callB_of 5 hA (al_A wd_5_148) rfl rfl rfl (hA _ wd_1_7) (hA _ wd_5_145) (by decide +kernel) ⟨Nat.le_of_ble_eq_true rfl, Nat.le_of_ble_eq_true rfl⟩, hA _ wd_5_146, hA _ wd_5_147⟩ ⟨bl, recv_X9 hE hG t_q13, fun U hU9 hW9 => ⟨rfl, by rw [hU9]; exact hG, hE.go hS hU9 hW9⟩⟩ rfl rfl hl.1 rfl (lv_room (Nat.le_of_ble_eq_true rfl)) dL_law_612 ⟨(Nat.le_trans (show (kc + 1) + 0 ≤ 300000 by omega) (Nat.le_of_ble_eq_true rfl)), (Nat.le_trans (show (ks + 4) + 0 ≤ 300000 by omega) (Nat.le_of_ble_eq_true rfl))⟩) hS (fun x640 u638 H locs w639 hG hS => ?_)
  obtain ⟨hf642, hq641⟩ := w639
  replace hq641 := HD.mk hq641
  have hw643 : ∀ c, c ∉ ([100, 135] : List Nat) → u638 c = g603 c := fun c hc => funext fun j => hf642 c j (fun q => hc (by rw [q]; decide)) (fun q => hc (by rw [q]; decide))
  have hst644 := st_rushWish (g := g) (u1 := g603) (u2 := u638) (r1 := x601) (r2 := x640) hRL hw611 hw643 hq609.v hq641.v
  have hrr645 := hst644.2
  refine lv_pop hx hb dL_law_615 rfl ?_
  refine lv_goto (tgt := 1075) hx hb dL_law_616 (by decide) ?_
  obtain ⟨x646, h647⟩ : ∃ y : Int32, y = i + Int32.ofInt (6) := ⟨_, rfl⟩
  try have h648 : x646.toInt = i.toInt + (6) := ty_inc h647 (by decide) (by omega) (by omega)
  refine lv_iinc (v := x646) (lv' := [(4, .int x646), (3, .ref q29), (2, .ref q13), (1, .ref q1), (0, .ref b)]) hx hb dL_law_1075 hl (k := 0) rfl h647.symm (by decide) rfl (fun ls hl => ?_)
  refine lv_goto (tgt := 23) hx hb dL_law_1078 (by decide) ?_
  exact ih x646 Γ602 u638 ((kc + 1)) ((ks + 4)) _ _ ls fq (by omega) (by omega) (by have a9 := congrFun (hw643 4 (by decide)) 0; have b9 := congrFun (hw611 4 (by decide)) 0; omega) hst644.1 (IJ_e hj612 (hw643 126 (by decide)) (hw643 132 (by decide)) (hw643 134 (by decide))) (Bd_e hB608 (hw643 33 (by decide)) (hw643 34 (by decide)) (hw643 35 (by decide))) hU t_q1 t_q13  (by omega) (by omega) hG hS (lv_sub hl [0, 1, 2, 3, 4] rfl)
set_option maxHeartbeats 40000000 in
set_option maxRecDepth 100000 in
/-- the law's case 11 -/
theorem law_c11 {p : Program} {e : Env} {s : State} {m : MethodId} {below : List Frame} {meth : Method} {c : Code} (l : Launch) (hl9 : l.stackTraces = false) {b L : Nat} {xs : Nat → Int32} (hLN : L ≤ 3072) (hx : p.tables.exec = Jvm.exec) (hb : c.code = code) (hr : meth.sig.returnType = ret) (hml : c.maxLocals = 7) (hown : s.vm.findClass R_law = some m.cls) (hA : ∀ w ∈ AL, w.before #[Value.ref b] s = true) (hXs : va_X b L xs s s.heap) (hbl : b < s.heap.size) (hlocks : meth.locks = false) {dC : Nat → ClassId} {dI : Nat → Nat → Nat} {dA : Nat → ClassId} {sz : Nat} (hE : en dC dI dA sz s) (hsz : sz = s.heap.size) (hbA : ¬ ty_A sz b) (X : va_W) (q1 q13 q29 : Nat) (n : Nat) (ih : LJ p l e s m below meth c b dC dI dA sz X q1 q13 q29 n) (i : Int32) (Γ : ty_G) (g : gh) (kc ks : Nat) (H : Heap) (locs : List Loc) (ls : Array Slot) (fq : Nat → Int64) (hm : (3073 - i.toInt : Int) < (n + 1 : Nat)) (hi0 : 0 ≤ i.toInt ∧ i.toInt ≤ 3072) (hy4 : g 4 0 ≤ i.toInt) (hRL : RLA g) (hIJ : IJ g) (hBd : Bd Γ g) (hU : Un Γ) (t_q1 : ty Γ q1 1) (t_q13 : ty Γ q13 30) (hkc : kc ≤ 300 + i.toInt.toNat) (hks : ks ≤ 30000 + 28 * i.toInt.toNat) (hG : ty_ok (dC, dI) vwCl Γ (TP dA Γ g) sz ((q29, .inl (dA 3, 1, .inr (.inl fq))) :: X) H) (hS : va_S (ty_A sz) s.heap H locs) (hl : lv_has ls 7 [(4, .int i), (3, .ref q29), (2, .ref q13), (1, .ref q1), (0, .ref b)]) (hiL : i.toInt + 6 ≤ (L : Int)) : W p l e room_1 s m #[Value.ref b] below meth c H locs kc ks (lw_Z below #[Value.ref b] s) (F0 m 619 ls []) := by
  refine lv_aload_n hx hb dL_law_619 rfl (lv_at hl 3 rfl) ?_
  refine lv_aload_n hx hb dL_law_620 rfl (lv_at hl 4 rfl) ?_
  refine lv_iload hx hb dL_law_621 (lv_at hl 0 rfl) ?_
  refine ty_iconst hx hb (1) dL_law_623 (by decide) (fun x649 h650 => ?_)
  refine ty_iadd hx hb dL_law_624 (fun x651 h652 => ?_)
  have h653 := lw_ix (k := 1) h650 h652 hi0 hiL hLN (by decide)
  refine va_sld hx hb hXs hbl hbA hS (i := x651) (ty_ix h653.2) dL_law_625 ?_
  refine W.eq (g2 := F0 m 626 ls [.int (xs (i.toInt.toNat + 1)), .ref q1]) (by rw [lw_xs (xs := xs) h653.1 hi0.1]) ?_
  clear h653 h652 h650
  refine lv_topi (fun x654 s655 => ?_)
  refine cI (va_runV (C := RX8) (As := [.int x654]) (rest := []) ⟨hx, hb, hml, hown, hA⟩ (k_X8_rings l dC dI dA sz ((q29, .inl (dA 3, 1, .inr (.inl fq))) :: X) Γ hU g q1 t_q1 x654   (RL_3 hRL) (RL_64 hRL) (RL_86 hRL) (RL_cn hRL hIJ)) ⟨callB_of 1 hA (al_A wd_3_110) rfl rfl rfl (hA _ wd_1_1) (hA _ wd_3_107) (by decide +kernel) ⟨Nat.le_of_ble_eq_true rfl, Nat.le_of_ble_eq_true rfl⟩, hA _ wd_3_108, hA _ wd_3_109⟩ ⟨bl, recv_X8 hE hG t_q1, fun U hU9 hW9 => ⟨rfl, by rw [hU9]; exact hG, hE.go hS hU9 hW9⟩⟩ rfl rfl hl.1 rfl (lv_room (Nat.le_of_ble_eq_true rfl)) dL_law_626 ⟨(Nat.le_trans (show kc + 0 ≤ 300000 by omega) (Nat.le_of_ble_eq_true rfl)), (Nat.le_trans (show ks + 0 ≤ 300000 by omega) (Nat.le_of_ble_eq_true rfl))⟩) hS (fun x658 u656 H locs w657 hG hS => ?_)
  obtain ⟨hf661, hq659, hq660⟩ := w657
  replace hq659 := HD.mk hq659
  replace hq660 := HD.mk hq660
  have hw662 : ∀ c, c ∉ ([7, 8, 46, 65, 67, 68, 83, 84, 85, 86] : List Nat) → u656 c = g c := fun c hc => funext fun j => hf661 c j (fun q => hc (by rw [q]; decide)) (fun q => hc (by rw [q]; decide)) (fun q => hc (by rw [q]; decide)) (fun q => hc (by rw [q]; decide)) (fun q => hc (by rw [q]; decide)) (fun q => hc (by rw [q]; decide)) (fun q => hc (by rw [q]; decide)) (fun q => hc (by rw [q]; decide)) (fun q => hc (by rw [q]; decide)) (fun q => hc (by rw [q]; decide))
  have hb663 : Bd Γ u656 := Bd_e hBd (hw662 33 (by decide)) (hw662 34 (by decide)) (hw662 35 (by decide))
  have hj664 : IJ u656 := IJ_e hIJ (hw662 126 (by decide)) (hw662 132 (by decide)) (hw662 134 (by decide))
  refine lv_pop hx hb dL_law_629 rfl ?_
  refine lv_aload_n hx hb dL_law_630 rfl (lv_at hl 2 rfl) ?_
  refine lv_aload_n hx hb dL_law_631 rfl (lv_at hl 4 rfl) ?_
  refine lv_iload hx hb dL_law_632 (lv_at hl 0 rfl) ?_
  refine ty_iconst hx hb (1) dL_law_634 (by decide) (fun x665 h666 => ?_)
  refine ty_iadd hx hb dL_law_635 (fun x667 h668 => ?_)
  have h669 := lw_ix (k := 1) h666 h668 hi0 hiL hLN (by decide)
  refine va_sld hx hb hXs hbl hbA hS (i := x667) (ty_ix h669.2) dL_law_636 ?_
  refine W.eq (g2 := F0 m 637 ls [.int (xs (i.toInt.toNat + 1)), .ref q13]) (by rw [lw_xs (xs := xs) h669.1 hi0.1]) ?_
  clear h669 h668 h666
  refine W.eq (g2 := F0 m 637 ls [.int x654, .ref q13]) (by rw [s655]) ?_
  refine cI (va_runV (C := RX9) (As := [.int x654]) (rest := []) ⟨hx, hb, hml, hown, hA⟩ (k_X9_rings l dC dI dA sz ((q29, .inl (dA 3, 1, .inr (.inl fq))) :: X) Γ hU u656 q13 t_q13 x654   (RM_126 hRL (hw662 126 (by decide))) (hj664) (RM_131 hRL (hw662 126 (by decide)) (hw662 131 (by decide)))) ⟨callB_of 1 hA (al_A wd_5_152) rfl rfl rfl (hA _ wd_1_7) (hA _ wd_5_149) (by decide +kernel) ⟨Nat.le_of_ble_eq_true rfl, Nat.le_of_ble_eq_true rfl⟩, hA _ wd_5_150, hA _ wd_5_151⟩ ⟨bl, recv_X9 hE hG t_q13, fun U hU9 hW9 => ⟨rfl, by rw [hU9]; exact hG, hE.go hS hU9 hW9⟩⟩ rfl rfl hl.1 rfl (lv_room (Nat.le_of_ble_eq_true rfl)) dL_law_637 ⟨(Nat.le_trans (show kc + 0 ≤ 300000 by omega) (Nat.le_of_ble_eq_true rfl)), (Nat.le_trans (show ks + 0 ≤ 300000 by omega) (Nat.le_of_ble_eq_true rfl))⟩) hS (fun x672 u670 H locs w671 hG hS => ?_)
  obtain ⟨hf675, hq673, hq674⟩ := w671
  replace hq674 := HD.mk hq674
  have hw676 : ∀ c, c ∉ ([100, 132, 133, 134, 136, 137, 138, 139, 140, 141, 142, 143] : List Nat) → u670 c = u656 c := fun c hc => funext fun j => hf675 c j (fun q => hc (by rw [q]; decide)) (fun q => hc (by rw [q]; decide)) (fun q => hc (by rw [q]; decide)) (fun q => hc (by rw [q]; decide)) (fun q => hc (by rw [q]; decide)) (fun q => hc (by rw [q]; decide)) (fun q => hc (by rw [q]; decide)) (fun q => hc (by rw [q]; decide)) (fun q => hc (by rw [q]; decide)) (fun q => hc (by rw [q]; decide)) (fun q => hc (by rw [q]; decide)) (fun q => hc (by rw [q]; decide))
  have hst677 := st_rings (g := g) (u1 := u656) (u2 := u670) (r1 := x658) (r2 := x672) hRL hw662 hw676 hq659.v hq660.v hq674.v
  have hrr678 := hst677.2
  refine lv_pop hx hb dL_law_640 rfl ?_
  refine lv_goto (tgt := 1075) hx hb dL_law_641 (by decide) ?_
  obtain ⟨x679, h680⟩ : ∃ y : Int32, y = i + Int32.ofInt (6) := ⟨_, rfl⟩
  try have h681 : x679.toInt = i.toInt + (6) := ty_inc h680 (by decide) (by omega) (by omega)
  refine lv_iinc (v := x679) (lv' := [(4, .int x679), (3, .ref q29), (2, .ref q13), (1, .ref q1), (0, .ref b)]) hx hb dL_law_1075 hl (k := 0) rfl h680.symm (by decide) rfl (fun ls hl => ?_)
  refine lv_goto (tgt := 23) hx hb dL_law_1078 (by decide) ?_
  exact ih x679 Γ u670 (kc) (ks) _ _ ls fq (by omega) (by omega) (by have a9 := congrFun (hw676 4 (by decide)) 0; have b9 := congrFun (hw662 4 (by decide)) 0; omega) hst677.1 hq673 (Bd_e hb663 (hw676 33 (by decide)) (hw676 34 (by decide)) (hw676 35 (by decide))) hU t_q1 t_q13  (by omega) (by omega) hG hS (lv_sub hl [0, 1, 2, 3, 4] rfl)
set_option maxHeartbeats 40000000 in
set_option maxRecDepth 100000 in
/-- the law's case 12 -/
theorem law_c12 {p : Program} {e : Env} {s : State} {m : MethodId} {below : List Frame} {meth : Method} {c : Code} (l : Launch) (hl9 : l.stackTraces = false) {b L : Nat} {xs : Nat → Int32} (hLN : L ≤ 3072) (hx : p.tables.exec = Jvm.exec) (hb : c.code = code) (hr : meth.sig.returnType = ret) (hml : c.maxLocals = 7) (hown : s.vm.findClass R_law = some m.cls) (hA : ∀ w ∈ AL, w.before #[Value.ref b] s = true) (hXs : va_X b L xs s s.heap) (hbl : b < s.heap.size) (hlocks : meth.locks = false) {dC : Nat → ClassId} {dI : Nat → Nat → Nat} {dA : Nat → ClassId} {sz : Nat} (hE : en dC dI dA sz s) (hsz : sz = s.heap.size) (hbA : ¬ ty_A sz b) (X : va_W) (q1 q13 q29 : Nat) (n : Nat) (ih : LJ p l e s m below meth c b dC dI dA sz X q1 q13 q29 n) (i : Int32) (Γ : ty_G) (g : gh) (kc ks : Nat) (H : Heap) (locs : List Loc) (ls : Array Slot) (fq : Nat → Int64) (hm : (3073 - i.toInt : Int) < (n + 1 : Nat)) (hi0 : 0 ≤ i.toInt ∧ i.toInt ≤ 3072) (hy4 : g 4 0 ≤ i.toInt) (hRL : RLA g) (hIJ : IJ g) (hBd : Bd Γ g) (hU : Un Γ) (t_q1 : ty Γ q1 1) (t_q13 : ty Γ q13 30) (hkc : kc ≤ 300 + i.toInt.toNat) (hks : ks ≤ 30000 + 28 * i.toInt.toNat) (hG : ty_ok (dC, dI) vwCl Γ (TP dA Γ g) sz ((q29, .inl (dA 3, 1, .inr (.inl fq))) :: X) H) (hS : va_S (ty_A sz) s.heap H locs) (hl : lv_has ls 7 [(4, .int i), (3, .ref q29), (2, .ref q13), (1, .ref q1), (0, .ref b)]) (hiL : i.toInt + 6 ≤ (L : Int)) : W p l e room_1 s m #[Value.ref b] below meth c H locs kc ks (lw_Z below #[Value.ref b] s) (F0 m 644 ls []) := by
  refine lv_aload_n hx hb dL_law_644 rfl (lv_at hl 3 rfl) ?_
  refine lv_aload_n hx hb dL_law_645 rfl (lv_at hl 4 rfl) ?_
  refine lv_iload hx hb dL_law_646 (lv_at hl 0 rfl) ?_
  refine ty_iconst hx hb (1) dL_law_648 (by decide) (fun x682 h683 => ?_)
  refine ty_iadd hx hb dL_law_649 (fun x684 h685 => ?_)
  have h686 := lw_ix (k := 1) h683 h685 hi0 hiL hLN (by decide)
  refine va_sld hx hb hXs hbl hbA hS (i := x684) (ty_ix h686.2) dL_law_650 ?_
  refine W.eq (g2 := F0 m 651 ls [.int (xs (i.toInt.toNat + 1)), .ref q1]) (by rw [lw_xs (xs := xs) h686.1 hi0.1]) ?_
  clear h686 h685 h683
  refine lv_topi (fun x687 s688 => ?_)
  refine cI (va_runV (C := RX8) (As := [.int x687]) (rest := []) ⟨hx, hb, hml, hown, hA⟩ (k_X8_bank l dC dI dA sz ((q29, .inl (dA 3, 1, .inr (.inl fq))) :: X) Γ hU g q1 t_q1 x687   (RL_3 hRL)) ⟨callB_of 1 hA (al_A wd_3_186) rfl rfl rfl (hA _ wd_1_1) (hA _ wd_3_183) (by decide +kernel) ⟨Nat.le_of_ble_eq_true rfl, Nat.le_of_ble_eq_true rfl⟩, hA _ wd_3_184, hA _ wd_3_185⟩ ⟨bl, recv_X8 hE hG t_q1, fun U hU9 hW9 => ⟨rfl, by rw [hU9]; exact hG, hE.go hS hU9 hW9⟩⟩ rfl rfl hl.1 rfl (lv_room (Nat.le_of_ble_eq_true rfl)) dL_law_651 ⟨(Nat.le_trans (show kc + 0 ≤ 300000 by omega) (Nat.le_of_ble_eq_true rfl)), (Nat.le_trans (show ks + 0 ≤ 300000 by omega) (Nat.le_of_ble_eq_true rfl))⟩) hS (fun x691 u689 H locs w690 hG hS => ?_)
  obtain ⟨hf693, hq692⟩ := w690
  replace hq692 := HD.mk hq692
  have hw694 : ∀ c, c ∉ ([51, 65] : List Nat) → u689 c = g c := fun c hc => funext fun j => hf693 c j (fun q => hc (by rw [q]; decide)) (fun q => hc (by rw [q]; decide))
  have hb695 : Bd Γ u689 := Bd_e hBd (hw694 33 (by decide)) (hw694 34 (by decide)) (hw694 35 (by decide))
  have hj696 : IJ u689 := IJ_e hIJ (hw694 126 (by decide)) (hw694 132 (by decide)) (hw694 134 (by decide))
  refine lv_pop hx hb dL_law_654 rfl ?_
  refine lv_aload_n hx hb dL_law_655 rfl (lv_at hl 2 rfl) ?_
  refine lv_aload_n hx hb dL_law_656 rfl (lv_at hl 4 rfl) ?_
  refine lv_iload hx hb dL_law_657 (lv_at hl 0 rfl) ?_
  refine ty_iconst hx hb (1) dL_law_659 (by decide) (fun x697 h698 => ?_)
  refine ty_iadd hx hb dL_law_660 (fun x699 h700 => ?_)
  have h701 := lw_ix (k := 1) h698 h700 hi0 hiL hLN (by decide)
  refine va_sld hx hb hXs hbl hbA hS (i := x699) (ty_ix h701.2) dL_law_661 ?_
  refine W.eq (g2 := F0 m 662 ls [.int (xs (i.toInt.toNat + 1)), .ref q13]) (by rw [lw_xs (xs := xs) h701.1 hi0.1]) ?_
  clear h701 h700 h698
  refine W.eq (g2 := F0 m 662 ls [.int x687, .ref q13]) (by rw [s688]) ?_
  refine cI (va_runV (C := RX9) (As := [.int x687]) (rest := []) ⟨hx, hb, hml, hown, hA⟩ (k_X9_bank l dC dI dA sz ((q29, .inl (dA 3, 1, .inr (.inl fq))) :: X) Γ hU u689 q13 t_q13 x687   (RM_126 hRL (hw694 126 (by decide))) (hj696)) ⟨callB_of 1 hA (al_A wd_5_172) rfl rfl rfl (hA _ wd_1_7) (hA _ wd_5_169) (by decide +kernel) ⟨Nat.le_of_ble_eq_true rfl, Nat.le_of_ble_eq_true rfl⟩, hA _ wd_5_170, hA _ wd_5_171⟩ ⟨bl, recv_X9 hE hG t_q13, fun U hU9 hW9 => ⟨rfl, by rw [hU9]; exact hG, hE.go hS hU9 hW9⟩⟩ rfl rfl hl.1 rfl (lv_room (Nat.le_of_ble_eq_true rfl)) dL_law_662 ⟨(Nat.le_trans (show kc + 0 ≤ 300000 by omega) (Nat.le_of_ble_eq_true rfl)), (Nat.le_trans (show ks + 0 ≤ 300000 by omega) (Nat.le_of_ble_eq_true rfl))⟩) hS (fun x704 u702 H locs w703 hG hS => ?_)
  obtain ⟨hf707, hq705, hq706⟩ := w703
  replace hq706 := HD.mk hq706
  have hw708 : ∀ c, c ∉ ([100, 106, 132] : List Nat) → u702 c = u689 c := fun c hc => funext fun j => hf707 c j (fun q => hc (by rw [q]; decide)) (fun q => hc (by rw [q]; decide)) (fun q => hc (by rw [q]; decide))
  have hst709 := st_bank (g := g) (u1 := u689) (u2 := u702) (r1 := x691) (r2 := x704) hRL hw694 hw708 hq692.v hq706.v
  have hrr710 := hst709.2
  refine lv_pop hx hb dL_law_665 rfl ?_
  refine lv_goto (tgt := 1075) hx hb dL_law_666 (by decide) ?_
  obtain ⟨x711, h712⟩ : ∃ y : Int32, y = i + Int32.ofInt (6) := ⟨_, rfl⟩
  try have h713 : x711.toInt = i.toInt + (6) := ty_inc h712 (by decide) (by omega) (by omega)
  refine lv_iinc (v := x711) (lv' := [(4, .int x711), (3, .ref q29), (2, .ref q13), (1, .ref q1), (0, .ref b)]) hx hb dL_law_1075 hl (k := 0) rfl h712.symm (by decide) rfl (fun ls hl => ?_)
  refine lv_goto (tgt := 23) hx hb dL_law_1078 (by decide) ?_
  exact ih x711 Γ u702 (kc) (ks) _ _ ls fq (by omega) (by omega) (by have a9 := congrFun (hw708 4 (by decide)) 0; have b9 := congrFun (hw694 4 (by decide)) 0; omega) hst709.1 hq705 (Bd_e hb695 (hw708 33 (by decide)) (hw708 34 (by decide)) (hw708 35 (by decide))) hU t_q1 t_q13  (by omega) (by omega) hG hS (lv_sub hl [0, 1, 2, 3, 4] rfl)
set_option maxHeartbeats 40000000 in
set_option maxRecDepth 100000 in
/-- the law's case 13 -/
theorem law_c13 {p : Program} {e : Env} {s : State} {m : MethodId} {below : List Frame} {meth : Method} {c : Code} (l : Launch) (hl9 : l.stackTraces = false) {b L : Nat} {xs : Nat → Int32} (hLN : L ≤ 3072) (hx : p.tables.exec = Jvm.exec) (hb : c.code = code) (hr : meth.sig.returnType = ret) (hml : c.maxLocals = 7) (hown : s.vm.findClass R_law = some m.cls) (hA : ∀ w ∈ AL, w.before #[Value.ref b] s = true) (hXs : va_X b L xs s s.heap) (hbl : b < s.heap.size) (hlocks : meth.locks = false) {dC : Nat → ClassId} {dI : Nat → Nat → Nat} {dA : Nat → ClassId} {sz : Nat} (hE : en dC dI dA sz s) (hsz : sz = s.heap.size) (hbA : ¬ ty_A sz b) (X : va_W) (q1 q13 q29 : Nat) (n : Nat) (ih : LJ p l e s m below meth c b dC dI dA sz X q1 q13 q29 n) (i : Int32) (Γ : ty_G) (g : gh) (kc ks : Nat) (H : Heap) (locs : List Loc) (ls : Array Slot) (fq : Nat → Int64) (hm : (3073 - i.toInt : Int) < (n + 1 : Nat)) (hi0 : 0 ≤ i.toInt ∧ i.toInt ≤ 3072) (hy4 : g 4 0 ≤ i.toInt) (hRL : RLA g) (hIJ : IJ g) (hBd : Bd Γ g) (hU : Un Γ) (t_q1 : ty Γ q1 1) (t_q13 : ty Γ q13 30) (hkc : kc ≤ 300 + i.toInt.toNat) (hks : ks ≤ 30000 + 28 * i.toInt.toNat) (hG : ty_ok (dC, dI) vwCl Γ (TP dA Γ g) sz ((q29, .inl (dA 3, 1, .inr (.inl fq))) :: X) H) (hS : va_S (ty_A sz) s.heap H locs) (hl : lv_has ls 7 [(4, .int i), (3, .ref q29), (2, .ref q13), (1, .ref q1), (0, .ref b)]) (hiL : i.toInt + 6 ≤ (L : Int)) : W p l e room_1 s m #[Value.ref b] below meth c H locs kc ks (lw_Z below #[Value.ref b] s) (F0 m 669 ls []) := by
  refine lv_aload_n hx hb dL_law_669 rfl (lv_at hl 3 rfl) ?_
  refine lv_aload_n hx hb dL_law_670 rfl (lv_at hl 4 rfl) ?_
  refine lv_iload hx hb dL_law_671 (lv_at hl 0 rfl) ?_
  refine ty_iconst hx hb (1) dL_law_673 (by decide) (fun x714 h715 => ?_)
  refine ty_iadd hx hb dL_law_674 (fun x716 h717 => ?_)
  have h718 := lw_ix (k := 1) h715 h717 hi0 hiL hLN (by decide)
  refine va_sld hx hb hXs hbl hbA hS (i := x716) (ty_ix h718.2) dL_law_675 ?_
  refine W.eq (g2 := F0 m 676 ls [.int (xs (i.toInt.toNat + 1)), .ref q1]) (by rw [lw_xs (xs := xs) h718.1 hi0.1]) ?_
  clear h718 h717 h715
  refine lv_topi (fun x719 s720 => ?_)
  refine lv_aload_n hx hb dL_law_676 rfl (lv_at hl 4 rfl) ?_
  refine lv_iload hx hb dL_law_677 (lv_at hl 0 rfl) ?_
  refine ty_iconst hx hb (2) dL_law_679 (by decide) (fun x721 h722 => ?_)
  refine ty_iadd hx hb dL_law_680 (fun x723 h724 => ?_)
  have h725 := lw_ix (k := 2) h722 h724 hi0 hiL hLN (by decide)
  refine va_sld hx hb hXs hbl hbA hS (i := x723) (ty_ix h725.2) dL_law_681 ?_
  refine W.eq (g2 := F0 m 682 ls [.int (xs (i.toInt.toNat + 2)), .int x719, .ref q1]) (by rw [lw_xs (xs := xs) h725.1 hi0.1]) ?_
  clear h725 h724 h722
  refine lv_topi (fun x726 s727 => ?_)
  refine cI (va_runV (C := RX8) (As := [.int x719, .int x726]) (rest := []) ⟨hx, hb, hml, hown, hA⟩ (k_X8_take l dC dI dA sz ((q29, .inl (dA 3, 1, .inr (.inl fq))) :: X) Γ hU g q1 t_q1 x719 x726   (RL_2 hRL) (RL_3 hRL)) ⟨callB_of 2 hA (al_A wd_3_190) rfl rfl rfl (hA _ wd_1_1) (hA _ wd_3_187) (by decide +kernel) ⟨Nat.le_of_ble_eq_true rfl, Nat.le_of_ble_eq_true rfl⟩, hA _ wd_3_188, hA _ wd_3_189⟩ ⟨bl, recv_X8 hE hG t_q1, fun U hU9 hW9 => ⟨rfl, by rw [hU9]; exact hG, hE.go hS hU9 hW9⟩⟩ rfl rfl hl.1 rfl (lv_room (Nat.le_of_ble_eq_true rfl)) dL_law_682 ⟨(Nat.le_trans (show kc + 0 ≤ 300000 by omega) (Nat.le_of_ble_eq_true rfl)), (Nat.le_trans (show ks + 0 ≤ 300000 by omega) (Nat.le_of_ble_eq_true rfl))⟩) hS (fun x730 u728 H locs w729 hG hS => ?_)
  obtain ⟨hf732, hq731⟩ := w729
  replace hq731 := HD.mk hq731
  have hw733 : ∀ c, c ∉ ([51, 65, 68] : List Nat) → u728 c = g c := fun c hc => funext fun j => hf732 c j (fun q => hc (by rw [q]; decide)) (fun q => hc (by rw [q]; decide)) (fun q => hc (by rw [q]; decide))
  have hb734 : Bd Γ u728 := Bd_e hBd (hw733 33 (by decide)) (hw733 34 (by decide)) (hw733 35 (by decide))
  have hj735 : IJ u728 := IJ_e hIJ (hw733 126 (by decide)) (hw733 132 (by decide)) (hw733 134 (by decide))
  refine lv_pop hx hb dL_law_685 rfl ?_
  refine lv_aload_n hx hb dL_law_686 rfl (lv_at hl 2 rfl) ?_
  refine lv_aload_n hx hb dL_law_687 rfl (lv_at hl 4 rfl) ?_
  refine lv_iload hx hb dL_law_688 (lv_at hl 0 rfl) ?_
  refine ty_iconst hx hb (1) dL_law_690 (by decide) (fun x736 h737 => ?_)
  refine ty_iadd hx hb dL_law_691 (fun x738 h739 => ?_)
  have h740 := lw_ix (k := 1) h737 h739 hi0 hiL hLN (by decide)
  refine va_sld hx hb hXs hbl hbA hS (i := x738) (ty_ix h740.2) dL_law_692 ?_
  refine W.eq (g2 := F0 m 693 ls [.int (xs (i.toInt.toNat + 1)), .ref q13]) (by rw [lw_xs (xs := xs) h740.1 hi0.1]) ?_
  clear h740 h739 h737
  refine W.eq (g2 := F0 m 693 ls [.int x719, .ref q13]) (by rw [s720]) ?_
  refine lv_aload_n hx hb dL_law_693 rfl (lv_at hl 4 rfl) ?_
  refine lv_iload hx hb dL_law_694 (lv_at hl 0 rfl) ?_
  refine ty_iconst hx hb (2) dL_law_696 (by decide) (fun x741 h742 => ?_)
  refine ty_iadd hx hb dL_law_697 (fun x743 h744 => ?_)
  have h745 := lw_ix (k := 2) h742 h744 hi0 hiL hLN (by decide)
  refine va_sld hx hb hXs hbl hbA hS (i := x743) (ty_ix h745.2) dL_law_698 ?_
  refine W.eq (g2 := F0 m 699 ls [.int (xs (i.toInt.toNat + 2)), .int x719, .ref q13]) (by rw [lw_xs (xs := xs) h745.1 hi0.1]) ?_
  clear h745 h744 h742
  refine W.eq (g2 := F0 m 699 ls [.int x726, .int x719, .ref q13]) (by rw [s727]) ?_
  refine cI (va_runV (C := RX9) (As := [.int x719, .int x726]) (rest := []) ⟨hx, hb, hml, hown, hA⟩ (k_X9_take l dC dI dA sz ((q29, .inl (dA 3, 1, .inr (.inl fq))) :: X) Γ hU u728 q13 t_q13 x719 x726   (RM_104 hRL (hw733 104 (by decide))) (RM_126 hRL (hw733 126 (by decide))) (hj735)) ⟨callB_of 2 hA (al_A wd_5_176) rfl rfl rfl (hA _ wd_1_7) (hA _ wd_5_173) (by decide +kernel) ⟨Nat.le_of_ble_eq_true rfl, Nat.le_of_ble_eq_true rfl⟩, hA _ wd_5_174, hA _ wd_5_175⟩ ⟨bl, recv_X9 hE hG t_q13, fun U hU9 hW9 => ⟨rfl, by rw [hU9]; exact hG, hE.go hS hU9 hW9⟩⟩ rfl rfl hl.1 rfl (lv_room (Nat.le_of_ble_eq_true rfl)) dL_law_699 ⟨(Nat.le_trans (show kc + 0 ≤ 300000 by omega) (Nat.le_of_ble_eq_true rfl)), (Nat.le_trans (show ks + 0 ≤ 300000 by omega) (Nat.le_of_ble_eq_true rfl))⟩) hS (fun x748 u746 H locs w747 hG hS => ?_)
  obtain ⟨hf751, hq749, hq750⟩ := w747
  replace hq750 := HD.mk hq750
  have hw752 : ∀ c, c ∉ ([100, 106, 132, 134] : List Nat) → u746 c = u728 c := fun c hc => funext fun j => hf751 c j (fun q => hc (by rw [q]; decide)) (fun q => hc (by rw [q]; decide)) (fun q => hc (by rw [q]; decide)) (fun q => hc (by rw [q]; decide))
  have hst753 := st_take (g := g) (u1 := u728) (u2 := u746) (r1 := x730) (r2 := x748) hRL hw733 hw752 hq731.v hq750.v
  have hrr754 := hst753.2
  refine lv_pop hx hb dL_law_702 rfl ?_
  refine lv_goto (tgt := 1075) hx hb dL_law_703 (by decide) ?_
  obtain ⟨x755, h756⟩ : ∃ y : Int32, y = i + Int32.ofInt (6) := ⟨_, rfl⟩
  try have h757 : x755.toInt = i.toInt + (6) := ty_inc h756 (by decide) (by omega) (by omega)
  refine lv_iinc (v := x755) (lv' := [(4, .int x755), (3, .ref q29), (2, .ref q13), (1, .ref q1), (0, .ref b)]) hx hb dL_law_1075 hl (k := 0) rfl h756.symm (by decide) rfl (fun ls hl => ?_)
  refine lv_goto (tgt := 23) hx hb dL_law_1078 (by decide) ?_
  exact ih x755 Γ u746 (kc) (ks) _ _ ls fq (by omega) (by omega) (by have a9 := congrFun (hw752 4 (by decide)) 0; have b9 := congrFun (hw733 4 (by decide)) 0; omega) hst753.1 hq749 (Bd_e hb734 (hw752 33 (by decide)) (hw752 34 (by decide)) (hw752 35 (by decide))) hU t_q1 t_q13  (by omega) (by omega) hG hS (lv_sub hl [0, 1, 2, 3, 4] rfl)
set_option maxHeartbeats 40000000 in
set_option maxRecDepth 100000 in
/-- the law's case 14 -/
theorem law_c14 {p : Program} {e : Env} {s : State} {m : MethodId} {below : List Frame} {meth : Method} {c : Code} (l : Launch) (hl9 : l.stackTraces = false) {b L : Nat} {xs : Nat → Int32} (hLN : L ≤ 3072) (hx : p.tables.exec = Jvm.exec) (hb : c.code = code) (hr : meth.sig.returnType = ret) (hml : c.maxLocals = 7) (hown : s.vm.findClass R_law = some m.cls) (hA : ∀ w ∈ AL, w.before #[Value.ref b] s = true) (hXs : va_X b L xs s s.heap) (hbl : b < s.heap.size) (hlocks : meth.locks = false) {dC : Nat → ClassId} {dI : Nat → Nat → Nat} {dA : Nat → ClassId} {sz : Nat} (hE : en dC dI dA sz s) (hsz : sz = s.heap.size) (hbA : ¬ ty_A sz b) (X : va_W) (q1 q13 q29 : Nat) (n : Nat) (ih : LJ p l e s m below meth c b dC dI dA sz X q1 q13 q29 n) (i : Int32) (Γ : ty_G) (g : gh) (kc ks : Nat) (H : Heap) (locs : List Loc) (ls : Array Slot) (fq : Nat → Int64) (hm : (3073 - i.toInt : Int) < (n + 1 : Nat)) (hi0 : 0 ≤ i.toInt ∧ i.toInt ≤ 3072) (hy4 : g 4 0 ≤ i.toInt) (hRL : RLA g) (hIJ : IJ g) (hBd : Bd Γ g) (hU : Un Γ) (t_q1 : ty Γ q1 1) (t_q13 : ty Γ q13 30) (hkc : kc ≤ 300 + i.toInt.toNat) (hks : ks ≤ 30000 + 28 * i.toInt.toNat) (hG : ty_ok (dC, dI) vwCl Γ (TP dA Γ g) sz ((q29, .inl (dA 3, 1, .inr (.inl fq))) :: X) H) (hS : va_S (ty_A sz) s.heap H locs) (hl : lv_has ls 7 [(4, .int i), (3, .ref q29), (2, .ref q13), (1, .ref q1), (0, .ref b)]) (hiL : i.toInt + 6 ≤ (L : Int)) : W p l e room_1 s m #[Value.ref b] below meth c H locs kc ks (lw_Z below #[Value.ref b] s) (F0 m 706 ls []) := by
  refine lv_aload_n hx hb dL_law_706 rfl (lv_at hl 3 rfl) ?_
  refine cI (va_runV (C := RX8) (As := []) (rest := []) ⟨hx, hb, hml, hown, hA⟩ (k_X8_rush l dC dI dA sz ((q29, .inl (dA 3, 1, .inr (.inl fq))) :: X) Γ hU g q1 t_q1   (RL_2 hRL) (RL_3 hRL)) ⟨callB_of 0 hA (al_A wd_3_198) rfl rfl rfl (hA _ wd_1_1) (hA _ wd_3_195) (by decide +kernel) ⟨Nat.le_of_ble_eq_true rfl, Nat.le_of_ble_eq_true rfl⟩, hA _ wd_3_196, hA _ wd_3_197⟩ ⟨bl, recv_X8 hE hG t_q1, fun U hU9 hW9 => ⟨rfl, by rw [hU9]; exact hG, hE.go hS hU9 hW9⟩⟩ rfl rfl hl.1 rfl (lv_room (Nat.le_of_ble_eq_true rfl)) dL_law_707 ⟨(Nat.le_trans (show kc + 0 ≤ 300000 by omega) (Nat.le_of_ble_eq_true rfl)), (Nat.le_trans (show ks + 0 ≤ 300000 by omega) (Nat.le_of_ble_eq_true rfl))⟩) hS (fun x760 u758 H locs w759 hG hS => ?_)
  obtain ⟨hf762, hq761⟩ := w759
  replace hq761 := HD.mk hq761
  have hw763 : ∀ c, c ∉ ([51, 52, 55, 56, 65, 68] : List Nat) → u758 c = g c := fun c hc => funext fun j => hf762 c j (fun q => hc (by rw [q]; decide)) (fun q => hc (by rw [q]; decide)) (fun q => hc (by rw [q]; decide)) (fun q => hc (by rw [q]; decide)) (fun q => hc (by rw [q]; decide)) (fun q => hc (by rw [q]; decide))
  have hb764 : Bd Γ u758 := Bd_e hBd (hw763 33 (by decide)) (hw763 34 (by decide)) (hw763 35 (by decide))
  have hj765 : IJ u758 := IJ_e hIJ (hw763 126 (by decide)) (hw763 132 (by decide)) (hw763 134 (by decide))
  refine lv_pop hx hb dL_law_710 rfl ?_
  refine lv_aload_n hx hb dL_law_711 rfl (lv_at hl 2 rfl) ?_
  refine cI (va_runV (C := RX9) (As := []) (rest := []) ⟨hx, hb, hml, hown, hA⟩ (k_X9_rush l dC dI dA sz ((q29, .inl (dA 3, 1, .inr (.inl fq))) :: X) Γ hU u758 q13 t_q13   (RM_104 hRL (hw763 104 (by decide))) (RM_126 hRL (hw763 126 (by decide))) (hj765)) ⟨callB_of 0 hA (al_A wd_5_184) rfl rfl rfl (hA _ wd_1_7) (hA _ wd_5_181) (by decide +kernel) ⟨Nat.le_of_ble_eq_true rfl, Nat.le_of_ble_eq_true rfl⟩, hA _ wd_5_182, hA _ wd_5_183⟩ ⟨bl, recv_X9 hE hG t_q13, fun U hU9 hW9 => ⟨rfl, by rw [hU9]; exact hG, hE.go hS hU9 hW9⟩⟩ rfl rfl hl.1 rfl (lv_room (Nat.le_of_ble_eq_true rfl)) dL_law_712 ⟨(Nat.le_trans (show kc + 0 ≤ 300000 by omega) (Nat.le_of_ble_eq_true rfl)), (Nat.le_trans (show ks + 0 ≤ 300000 by omega) (Nat.le_of_ble_eq_true rfl))⟩) hS (fun x768 u766 H locs w767 hG hS => ?_)
  obtain ⟨hf771, hq769, hq770⟩ := w767
  replace hq770 := HD.mk hq770
  have hw772 : ∀ c, c ∉ ([100, 106, 107, 132, 134, 135, 144, 145] : List Nat) → u766 c = u758 c := fun c hc => funext fun j => hf771 c j (fun q => hc (by rw [q]; decide)) (fun q => hc (by rw [q]; decide)) (fun q => hc (by rw [q]; decide)) (fun q => hc (by rw [q]; decide)) (fun q => hc (by rw [q]; decide)) (fun q => hc (by rw [q]; decide)) (fun q => hc (by rw [q]; decide)) (fun q => hc (by rw [q]; decide))
  have hst773 := st_rush (g := g) (u1 := u758) (u2 := u766) (r1 := x760) (r2 := x768) hRL hw763 hw772 hq761.v hq770.v
  have hrr774 := hst773.2
  refine lv_pop hx hb dL_law_715 rfl ?_
  refine lv_goto (tgt := 1075) hx hb dL_law_716 (by decide) ?_
  obtain ⟨x775, h776⟩ : ∃ y : Int32, y = i + Int32.ofInt (6) := ⟨_, rfl⟩
  try have h777 : x775.toInt = i.toInt + (6) := ty_inc h776 (by decide) (by omega) (by omega)
  refine lv_iinc (v := x775) (lv' := [(4, .int x775), (3, .ref q29), (2, .ref q13), (1, .ref q1), (0, .ref b)]) hx hb dL_law_1075 hl (k := 0) rfl h776.symm (by decide) rfl (fun ls hl => ?_)
  refine lv_goto (tgt := 23) hx hb dL_law_1078 (by decide) ?_
  exact ih x775 Γ u766 (kc) (ks) _ _ ls fq (by omega) (by omega) (by have a9 := congrFun (hw772 4 (by decide)) 0; have b9 := congrFun (hw763 4 (by decide)) 0; omega) hst773.1 hq769 (Bd_e hb764 (hw772 33 (by decide)) (hw772 34 (by decide)) (hw772 35 (by decide))) hU t_q1 t_q13  (by omega) (by omega) hG hS (lv_sub hl [0, 1, 2, 3, 4] rfl)
set_option maxHeartbeats 40000000 in
set_option maxRecDepth 100000 in
/-- the law's case 15 -/
theorem law_c15 {p : Program} {e : Env} {s : State} {m : MethodId} {below : List Frame} {meth : Method} {c : Code} (l : Launch) (hl9 : l.stackTraces = false) {b L : Nat} {xs : Nat → Int32} (hLN : L ≤ 3072) (hx : p.tables.exec = Jvm.exec) (hb : c.code = code) (hr : meth.sig.returnType = ret) (hml : c.maxLocals = 7) (hown : s.vm.findClass R_law = some m.cls) (hA : ∀ w ∈ AL, w.before #[Value.ref b] s = true) (hXs : va_X b L xs s s.heap) (hbl : b < s.heap.size) (hlocks : meth.locks = false) {dC : Nat → ClassId} {dI : Nat → Nat → Nat} {dA : Nat → ClassId} {sz : Nat} (hE : en dC dI dA sz s) (hsz : sz = s.heap.size) (hbA : ¬ ty_A sz b) (X : va_W) (q1 q13 q29 : Nat) (n : Nat) (ih : LJ p l e s m below meth c b dC dI dA sz X q1 q13 q29 n) (i : Int32) (Γ : ty_G) (g : gh) (kc ks : Nat) (H : Heap) (locs : List Loc) (ls : Array Slot) (fq : Nat → Int64) (hm : (3073 - i.toInt : Int) < (n + 1 : Nat)) (hi0 : 0 ≤ i.toInt ∧ i.toInt ≤ 3072) (hy4 : g 4 0 ≤ i.toInt) (hRL : RLA g) (hIJ : IJ g) (hBd : Bd Γ g) (hU : Un Γ) (t_q1 : ty Γ q1 1) (t_q13 : ty Γ q13 30) (hkc : kc ≤ 300 + i.toInt.toNat) (hks : ks ≤ 30000 + 28 * i.toInt.toNat) (hG : ty_ok (dC, dI) vwCl Γ (TP dA Γ g) sz ((q29, .inl (dA 3, 1, .inr (.inl fq))) :: X) H) (hS : va_S (ty_A sz) s.heap H locs) (hl : lv_has ls 7 [(4, .int i), (3, .ref q29), (2, .ref q13), (1, .ref q1), (0, .ref b)]) (hiL : i.toInt + 6 ≤ (L : Int)) : W p l e room_1 s m #[Value.ref b] below meth c H locs kc ks (lw_Z below #[Value.ref b] s) (F0 m 719 ls []) := by
  refine lv_aload_n hx hb dL_law_719 rfl (lv_at hl 3 rfl) ?_
  refine lv_aload_n hx hb dL_law_720 rfl (lv_at hl 4 rfl) ?_
  refine lv_iload hx hb dL_law_721 (lv_at hl 0 rfl) ?_
  refine ty_iconst hx hb (1) dL_law_723 (by decide) (fun x778 h779 => ?_)
  refine ty_iadd hx hb dL_law_724 (fun x780 h781 => ?_)
  have h782 := lw_ix (k := 1) h779 h781 hi0 hiL hLN (by decide)
  refine va_sld hx hb hXs hbl hbA hS (i := x780) (ty_ix h782.2) dL_law_725 ?_
  refine W.eq (g2 := F0 m 726 ls [.int (xs (i.toInt.toNat + 1)), .ref q1]) (by rw [lw_xs (xs := xs) h782.1 hi0.1]) ?_
  clear h782 h781 h779
  refine lv_topi (fun x783 s784 => ?_)
  refine lv_aload_n hx hb dL_law_726 rfl (lv_at hl 4 rfl) ?_
  refine lv_iload hx hb dL_law_727 (lv_at hl 0 rfl) ?_
  refine ty_iconst hx hb (2) dL_law_729 (by decide) (fun x785 h786 => ?_)
  refine ty_iadd hx hb dL_law_730 (fun x787 h788 => ?_)
  have h789 := lw_ix (k := 2) h786 h788 hi0 hiL hLN (by decide)
  refine va_sld hx hb hXs hbl hbA hS (i := x787) (ty_ix h789.2) dL_law_731 ?_
  refine W.eq (g2 := F0 m 732 ls [.int (xs (i.toInt.toNat + 2)), .int x783, .ref q1]) (by rw [lw_xs (xs := xs) h789.1 hi0.1]) ?_
  clear h789 h788 h786
  refine lv_topi (fun x790 s791 => ?_)
  refine lv_aload_n hx hb dL_law_732 rfl (lv_at hl 4 rfl) ?_
  refine lv_iload hx hb dL_law_733 (lv_at hl 0 rfl) ?_
  refine ty_iconst hx hb (3) dL_law_735 (by decide) (fun x792 h793 => ?_)
  refine ty_iadd hx hb dL_law_736 (fun x794 h795 => ?_)
  have h796 := lw_ix (k := 3) h793 h795 hi0 hiL hLN (by decide)
  refine va_sld hx hb hXs hbl hbA hS (i := x794) (ty_ix h796.2) dL_law_737 ?_
  refine W.eq (g2 := F0 m 738 ls [.int (xs (i.toInt.toNat + 3)), .int x790, .int x783, .ref q1]) (by rw [lw_xs (xs := xs) h796.1 hi0.1]) ?_
  clear h796 h795 h793
  refine lv_topi (fun x797 s798 => ?_)
  refine cI (va_runV (C := RX8) (As := [.int x783, .int x790, .int x797]) (rest := []) ⟨hx, hb, hml, hown, hA⟩ (k_X8_shut l dC dI dA sz ((q29, .inl (dA 3, 1, .inr (.inl fq))) :: X) Γ hU g q1 t_q1 x783 x790 x797   (RL_1 hRL) (RL_3 hRL) (RL_5 hRL)) ⟨callB_of 3 hA (al_A wd_3_211) rfl rfl rfl (hA _ wd_1_1) (hA _ wd_3_208) (by decide +kernel) ⟨Nat.le_of_ble_eq_true rfl, Nat.le_of_ble_eq_true rfl⟩, hA _ wd_3_209, hA _ wd_3_210⟩ ⟨bl, recv_X8 hE hG t_q1, fun U hU9 hW9 => ⟨rfl, by rw [hU9]; exact hG, hE.go hS hU9 hW9⟩⟩ rfl rfl hl.1 rfl (lv_room (Nat.le_of_ble_eq_true rfl)) dL_law_738 ⟨(Nat.le_trans (show kc + 0 ≤ 300000 by omega) (Nat.le_of_ble_eq_true rfl)), (Nat.le_trans (show ks + 0 ≤ 300000 by omega) (Nat.le_of_ble_eq_true rfl))⟩) hS (fun x801 u799 H locs w800 hG hS => ?_)
  obtain ⟨hf803, hq802⟩ := w800
  replace hq802 := HD.mk hq802
  have hw804 : ∀ c, c ∉ ([44, 51, 65] : List Nat) → u799 c = g c := fun c hc => funext fun j => hf803 c j (fun q => hc (by rw [q]; decide)) (fun q => hc (by rw [q]; decide)) (fun q => hc (by rw [q]; decide))
  have hb805 : Bd Γ u799 := Bd_e hBd (hw804 33 (by decide)) (hw804 34 (by decide)) (hw804 35 (by decide))
  have hj806 : IJ u799 := IJ_e hIJ (hw804 126 (by decide)) (hw804 132 (by decide)) (hw804 134 (by decide))
  refine lv_pop hx hb dL_law_741 rfl ?_
  refine lv_aload_n hx hb dL_law_742 rfl (lv_at hl 2 rfl) ?_
  refine lv_aload_n hx hb dL_law_743 rfl (lv_at hl 4 rfl) ?_
  refine lv_iload hx hb dL_law_744 (lv_at hl 0 rfl) ?_
  refine ty_iconst hx hb (1) dL_law_746 (by decide) (fun x807 h808 => ?_)
  refine ty_iadd hx hb dL_law_747 (fun x809 h810 => ?_)
  have h811 := lw_ix (k := 1) h808 h810 hi0 hiL hLN (by decide)
  refine va_sld hx hb hXs hbl hbA hS (i := x809) (ty_ix h811.2) dL_law_748 ?_
  refine W.eq (g2 := F0 m 749 ls [.int (xs (i.toInt.toNat + 1)), .ref q13]) (by rw [lw_xs (xs := xs) h811.1 hi0.1]) ?_
  clear h811 h810 h808
  refine W.eq (g2 := F0 m 749 ls [.int x783, .ref q13]) (by rw [s784]) ?_
  refine lv_aload_n hx hb dL_law_749 rfl (lv_at hl 4 rfl) ?_
  refine lv_iload hx hb dL_law_750 (lv_at hl 0 rfl) ?_
  refine ty_iconst hx hb (2) dL_law_752 (by decide) (fun x812 h813 => ?_)
  refine ty_iadd hx hb dL_law_753 (fun x814 h815 => ?_)
  have h816 := lw_ix (k := 2) h813 h815 hi0 hiL hLN (by decide)
  refine va_sld hx hb hXs hbl hbA hS (i := x814) (ty_ix h816.2) dL_law_754 ?_
  refine W.eq (g2 := F0 m 755 ls [.int (xs (i.toInt.toNat + 2)), .int x783, .ref q13]) (by rw [lw_xs (xs := xs) h816.1 hi0.1]) ?_
  clear h816 h815 h813
  refine W.eq (g2 := F0 m 755 ls [.int x790, .int x783, .ref q13]) (by rw [s791]) ?_
  refine lv_aload_n hx hb dL_law_755 rfl (lv_at hl 4 rfl) ?_
  refine lv_iload hx hb dL_law_756 (lv_at hl 0 rfl) ?_
  refine ty_iconst hx hb (3) dL_law_758 (by decide) (fun x817 h818 => ?_)
  refine ty_iadd hx hb dL_law_759 (fun x819 h820 => ?_)
  have h821 := lw_ix (k := 3) h818 h820 hi0 hiL hLN (by decide)
  refine va_sld hx hb hXs hbl hbA hS (i := x819) (ty_ix h821.2) dL_law_760 ?_
  refine W.eq (g2 := F0 m 761 ls [.int (xs (i.toInt.toNat + 3)), .int x790, .int x783, .ref q13]) (by rw [lw_xs (xs := xs) h821.1 hi0.1]) ?_
  clear h821 h820 h818
  refine W.eq (g2 := F0 m 761 ls [.int x797, .int x790, .int x783, .ref q13]) (by rw [s798]) ?_
  refine cI (va_runV (C := RX9) (As := [.int x783, .int x790, .int x797]) (rest := []) ⟨hx, hb, hml, hown, hA⟩ (k_X9_shut l dC dI dA sz ((q29, .inl (dA 3, 1, .inr (.inl fq))) :: X) Γ hU u799 q13 t_q13 x783 x790 x797   (RM_101 hRL (hw804 101 (by decide))) (RM_126 hRL (hw804 126 (by decide))) (RM_112 hRL (hw804 112 (by decide))) (hj806)) ⟨callB_of 3 hA (al_A wd_5_192) rfl rfl rfl (hA _ wd_1_7) (hA _ wd_5_189) (by decide +kernel) ⟨Nat.le_of_ble_eq_true rfl, Nat.le_of_ble_eq_true rfl⟩, hA _ wd_5_190, hA _ wd_5_191⟩ ⟨bl, recv_X9 hE hG t_q13, fun U hU9 hW9 => ⟨rfl, by rw [hU9]; exact hG, hE.go hS hU9 hW9⟩⟩ rfl rfl hl.1 rfl (lv_room (Nat.le_of_ble_eq_true rfl)) dL_law_761 ⟨(Nat.le_trans (show kc + 0 ≤ 300000 by omega) (Nat.le_of_ble_eq_true rfl)), (Nat.le_trans (show ks + 0 ≤ 300000 by omega) (Nat.le_of_ble_eq_true rfl))⟩) hS (fun x824 u822 H locs w823 hG hS => ?_)
  obtain ⟨hf827, hq825, hq826⟩ := w823
  replace hq826 := HD.mk hq826
  have hw828 : ∀ c, c ∉ ([100, 106, 110, 132] : List Nat) → u822 c = u799 c := fun c hc => funext fun j => hf827 c j (fun q => hc (by rw [q]; decide)) (fun q => hc (by rw [q]; decide)) (fun q => hc (by rw [q]; decide)) (fun q => hc (by rw [q]; decide))
  have hst829 := st_shut (g := g) (u1 := u799) (u2 := u822) (r1 := x801) (r2 := x824) hRL hw804 hw828 hq802.v hq826.v
  have hrr830 := hst829.2
  refine lv_pop hx hb dL_law_764 rfl ?_
  refine lv_goto (tgt := 1075) hx hb dL_law_765 (by decide) ?_
  obtain ⟨x831, h832⟩ : ∃ y : Int32, y = i + Int32.ofInt (6) := ⟨_, rfl⟩
  try have h833 : x831.toInt = i.toInt + (6) := ty_inc h832 (by decide) (by omega) (by omega)
  refine lv_iinc (v := x831) (lv' := [(4, .int x831), (3, .ref q29), (2, .ref q13), (1, .ref q1), (0, .ref b)]) hx hb dL_law_1075 hl (k := 0) rfl h832.symm (by decide) rfl (fun ls hl => ?_)
  refine lv_goto (tgt := 23) hx hb dL_law_1078 (by decide) ?_
  exact ih x831 Γ u822 (kc) (ks) _ _ ls fq (by omega) (by omega) (by have a9 := congrFun (hw828 4 (by decide)) 0; have b9 := congrFun (hw804 4 (by decide)) 0; omega) hst829.1 hq825 (Bd_e hb805 (hw828 33 (by decide)) (hw828 34 (by decide)) (hw828 35 (by decide))) hU t_q1 t_q13  (by omega) (by omega) hG hS (lv_sub hl [0, 1, 2, 3, 4] rfl)
