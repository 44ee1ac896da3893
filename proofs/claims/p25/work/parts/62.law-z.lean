set_option maxHeartbeats 40000000 in
set_option maxRecDepth 100000 in
/-- the law's loop -/
theorem law_loop {p : Program} {e : Env} {s : State} {m : MethodId} {below : List Frame} {meth : Method} {c : Code} (l : Launch) (hl9 : l.stackTraces = false) {b L : Nat} {xs : Nat → Int32} (hLN : L ≤ 3072) (hx : p.tables.exec = Jvm.exec) (hb : c.code = code) (hr : meth.sig.returnType = ret) (hml : c.maxLocals = 7) (hown : s.vm.findClass R_law = some m.cls) (hA : ∀ w ∈ AL, w.before #[Value.ref b] s = true) (hXs : va_X b L xs s s.heap) (hbl : b < s.heap.size) (hlocks : meth.locks = false) {dC : Nat → ClassId} {dI : Nat → Nat → Nat} {dA : Nat → ClassId} {sz : Nat} (hE : en dC dI dA sz s) (hsz : sz = s.heap.size) (hbA : ¬ ty_A sz b) (X : va_W) (q1 q13 q29 : Nat) : ∀ n, LJ p l e s m below meth c b dC dI dA sz X q1 q13 q29 n := by
  intro n
  induction n with
  | zero => intro i Γ g kc ks H locs ls hm hi0 hy4 hRL hIJ hBd hU t_q1 t_q13 t_q29 hkc hks hG hS hl; exfalso; omega
  | succ n ih =>
    intro i Γ g kc ks H locs ls hm hi0 hy4 hRL hIJ hBd hU t_q1 t_q13 t_q29 hkc hks hG hS hl
    refine lv_iload hx hb dL_law_23 (lv_at hl 0 rfl) ?_
    refine lv_aload_n hx hb dL_law_25 rfl (lv_at hl 4 rfl) ?_
    refine va_slen hx hb hXs hbl hbA hS dL_law_26 ?_
    refine lv_topi (fun x40 h41 => ?_)
    have h42 := lw_len h41 hLN
    refine ty_bipush hx hb (6) dL_law_27 (by decide) (fun x43 h44 => ?_)
    refine ty_isub hx hb dL_law_29 (fun x45 h46 => ?_)
    try have h47 : x45.toInt = x40.toInt - x43.toInt := ty_sub h46 (by omega) (by omega)
    refine ty_icmp_gt (tgt := 1053) hx hb dL_law_30 (by decide) (fun c48 => ?_) (fun c48 => ?_)
    · skip
      refine ty_iconst hx hb (1) dL_law_1053 (by decide) (fun x49 h50 => ?_)
      obtain rfl : x49 = 1 := ty_eq32.mpr (by rw [Int32.toInt_one]; omega)
      refine va_forget (fun q hq => hsz ▸ hS.2.2 q hq) ?_
      refine W.widen (k := 601024) (n := 7293034) (Nat.le_trans (show kc ≤ 300000 by omega) (Nat.le_of_ble_eq_true rfl)) (Nat.le_trans (show ks ≤ 300000 by omega) (Nat.le_of_ble_eq_true rfl)) ?_
      exact lw_ret hx hb hr hlocks dL_law_1054
    · skip
      refine lv_aload_n hx hb dL_law_33 rfl (lv_at hl 4 rfl) ?_
      refine lv_iload hx hb dL_law_34 (lv_at hl 0 rfl) ?_
      refine va_sld hx hb hXs hbl hbA hS (i := i) (ty_ix (by omega)) dL_law_36 ?_
      refine lv_topi (fun x51 s52 => ?_)
      refine ty_bipush hx hb (31) dL_law_37 (by decide) (fun x53 h54 => ?_)
      refine ty_iand hx hb dL_law_39 (fun x55 h56 => ?_)
      by_cases c57 : x55.toInt < 0 ∨ 23 < x55.toInt
      · skip
        refine lv_tableOut (tgt := 1047) hx hb dL_law_40 c57 (by decide) ?_
        obtain ⟨x58, h59⟩ : ∃ y : Int32, y = i + Int32.ofInt (6) := ⟨_, rfl⟩
        try have h60 : x58.toInt = i.toInt + (6) := ty_inc h59 (by decide) (by omega) (by omega)
        refine lv_iinc (v := x58) (lv' := [(4, .int x58), (3, .ref q29), (2, .ref q13), (1, .ref q1), (0, .ref b)]) hx hb dL_law_1047 hl (k := 0) rfl h59.symm (by decide) rfl (fun ls hl => ?_)
        refine lv_goto (tgt := 23) hx hb dL_law_1050 (by decide) ?_
        exact ih x58 Γ g (kc) (ks) _ _ ls (by omega) (by omega) (by omega) hRL hIJ hBd hU t_q1 t_q13 t_q29 (by omega) (by omega) hG hS (lv_sub hl [0, 1, 2, 3, 4] rfl)
      · skip
        rcases (show x55.toInt = 0 ∨ x55.toInt = 1 ∨ x55.toInt = 2 ∨ x55.toInt = 3 ∨ x55.toInt = 4 ∨ x55.toInt = 5 ∨ x55.toInt = 6 ∨ x55.toInt = 7 ∨ x55.toInt = 8 ∨ x55.toInt = 9 ∨ x55.toInt = 10 ∨ x55.toInt = 11 ∨ x55.toInt = 12 ∨ x55.toInt = 13 ∨ x55.toInt = 14 ∨ x55.toInt = 15 ∨ x55.toInt = 16 ∨ x55.toInt = 17 ∨ x55.toInt = 18 ∨ x55.toInt = 19 ∨ x55.toInt = 20 ∨ x55.toInt = 21 ∨ x55.toInt = 22 ∨ x55.toInt = 23 by omega) with q61 | q62 | q63 | q64 | q65 | q66 | q67 | q68 | q69 | q70 | q71 | q72 | q73 | q74 | q75 | q76 | q77 | q78 | q79 | q80 | q81 | q82 | q83 | q84
        · skip
          refine lv_tableIn (tgt := 152) (off := 112) hx hb dL_law_40 (by omega) (by omega) (by rw [q61]; rfl) (by decide) ?_
          exact law_c0 l hl9 hLN hx hb hr hml hown hA hXs hbl hlocks hE hsz hbA X q1 q13 q29 n ih i Γ g kc ks _ _ ls hm hi0 hy4 hRL hIJ hBd hU t_q1 t_q13 t_q29 hkc hks hG hS hl (by omega)
        · skip
          refine lv_tableIn (tgt := 189) (off := 149) hx hb dL_law_40 (by omega) (by omega) (by rw [q62]; rfl) (by decide) ?_
          exact law_c1 l hl9 hLN hx hb hr hml hown hA hXs hbl hlocks hE hsz hbA X q1 q13 q29 n ih i Γ g kc ks _ _ ls hm hi0 hy4 hRL hIJ hBd hU t_q1 t_q13 t_q29 hkc hks hG hS hl (by omega)
        · skip
          refine lv_tableIn (tgt := 214) (off := 174) hx hb dL_law_40 (by omega) (by omega) (by rw [q63]; rfl) (by decide) ?_
          exact law_c2 l hl9 hLN hx hb hr hml hown hA hXs hbl hlocks hE hsz hbA X q1 q13 q29 n ih i Γ g kc ks _ _ ls hm hi0 hy4 hRL hIJ hBd hU t_q1 t_q13 t_q29 hkc hks hG hS hl (by omega)
        · skip
          refine lv_tableIn (tgt := 263) (off := 223) hx hb dL_law_40 (by omega) (by omega) (by rw [q64]; rfl) (by decide) ?_
          exact law_c3 l hl9 hLN hx hb hr hml hown hA hXs hbl hlocks hE hsz hbA X q1 q13 q29 n ih i Γ g kc ks _ _ ls hm hi0 hy4 hRL hIJ hBd hU t_q1 t_q13 t_q29 hkc hks hG hS hl (by omega)
        · skip
          refine lv_tableIn (tgt := 336) (off := 296) hx hb dL_law_40 (by omega) (by omega) (by rw [q65]; rfl) (by decide) ?_
          exact law_c4 l hl9 hLN hx hb hr hml hown hA hXs hbl hlocks hE hsz hbA X q1 q13 q29 n ih i Γ g kc ks _ _ ls hm hi0 hy4 hRL hIJ hBd hU t_q1 t_q13 t_q29 hkc hks hG hS hl (by omega)
        · skip
          refine lv_tableIn (tgt := 361) (off := 321) hx hb dL_law_40 (by omega) (by omega) (by rw [q66]; rfl) (by decide) ?_
          exact law_c5 l hl9 hLN hx hb hr hml hown hA hXs hbl hlocks hE hsz hbA X q1 q13 q29 n ih i Γ g kc ks _ _ ls hm hi0 hy4 hRL hIJ hBd hU t_q1 t_q13 t_q29 hkc hks hG hS hl (by omega)
        · skip
          refine lv_tableIn (tgt := 374) (off := 334) hx hb dL_law_40 (by omega) (by omega) (by rw [q67]; rfl) (by decide) ?_
          exact law_c6 l hl9 hLN hx hb hr hml hown hA hXs hbl hlocks hE hsz hbA X q1 q13 q29 n ih i Γ g kc ks _ _ ls hm hi0 hy4 hRL hIJ hBd hU t_q1 t_q13 t_q29 hkc hks hG hS hl (by omega)
        · skip
          refine lv_tableIn (tgt := 387) (off := 347) hx hb dL_law_40 (by omega) (by omega) (by rw [q68]; rfl) (by decide) ?_
          exact law_c7 l hl9 hLN hx hb hr hml hown hA hXs hbl hlocks hE hsz hbA X q1 q13 q29 n ih i Γ g kc ks _ _ ls hm hi0 hy4 hRL hIJ hBd hU t_q1 t_q13 t_q29 hkc hks hG hS hl (by omega)
        · skip
          refine lv_tableIn (tgt := 424) (off := 384) hx hb dL_law_40 (by omega) (by omega) (by rw [q69]; rfl) (by decide) ?_
          exact law_c8 l hl9 hLN hx hb hr hml hown hA hXs hbl hlocks hE hsz hbA X q1 q13 q29 n ih i Γ g kc ks _ _ ls hm hi0 hy4 hRL hIJ hBd hU t_q1 t_q13 t_q29 hkc hks hG hS hl (by omega)
        · skip
          refine lv_tableIn (tgt := 473) (off := 433) hx hb dL_law_40 (by omega) (by omega) (by rw [q70]; rfl) (by decide) ?_
          exact law_c9 l hl9 hLN hx hb hr hml hown hA hXs hbl hlocks hE hsz hbA X q1 q13 q29 n ih i Γ g kc ks _ _ ls hm hi0 hy4 hRL hIJ hBd hU t_q1 t_q13 t_q29 hkc hks hG hS hl (by omega)
        · skip
          refine lv_tableIn (tgt := 546) (off := 506) hx hb dL_law_40 (by omega) (by omega) (by rw [q71]; rfl) (by decide) ?_
          exact law_c10 l hl9 hLN hx hb hr hml hown hA hXs hbl hlocks hE hsz hbA X q1 q13 q29 n ih i Γ g kc ks _ _ ls hm hi0 hy4 hRL hIJ hBd hU t_q1 t_q13 t_q29 hkc hks hG hS hl (by omega)
        · skip
          refine lv_tableIn (tgt := 619) (off := 579) hx hb dL_law_40 (by omega) (by omega) (by rw [q72]; rfl) (by decide) ?_
          exact law_c11 l hl9 hLN hx hb hr hml hown hA hXs hbl hlocks hE hsz hbA X q1 q13 q29 n ih i Γ g kc ks _ _ ls hm hi0 hy4 hRL hIJ hBd hU t_q1 t_q13 t_q29 hkc hks hG hS hl (by omega)
        · skip
          refine lv_tableIn (tgt := 644) (off := 604) hx hb dL_law_40 (by omega) (by omega) (by rw [q73]; rfl) (by decide) ?_
          exact law_c12 l hl9 hLN hx hb hr hml hown hA hXs hbl hlocks hE hsz hbA X q1 q13 q29 n ih i Γ g kc ks _ _ ls hm hi0 hy4 hRL hIJ hBd hU t_q1 t_q13 t_q29 hkc hks hG hS hl (by omega)
        · skip
          refine lv_tableIn (tgt := 669) (off := 629) hx hb dL_law_40 (by omega) (by omega) (by rw [q74]; rfl) (by decide) ?_
          exact law_c13 l hl9 hLN hx hb hr hml hown hA hXs hbl hlocks hE hsz hbA X q1 q13 q29 n ih i Γ g kc ks _ _ ls hm hi0 hy4 hRL hIJ hBd hU t_q1 t_q13 t_q29 hkc hks hG hS hl (by omega)
        · skip
          refine lv_tableIn (tgt := 706) (off := 666) hx hb dL_law_40 (by omega) (by omega) (by rw [q75]; rfl) (by decide) ?_
          exact law_c14 l hl9 hLN hx hb hr hml hown hA hXs hbl hlocks hE hsz hbA X q1 q13 q29 n ih i Γ g kc ks _ _ ls hm hi0 hy4 hRL hIJ hBd hU t_q1 t_q13 t_q29 hkc hks hG hS hl (by omega)
        · skip
          refine lv_tableIn (tgt := 719) (off := 679) hx hb dL_law_40 (by omega) (by omega) (by rw [q76]; rfl) (by decide) ?_
          exact law_c15 l hl9 hLN hx hb hr hml hown hA hXs hbl hlocks hE hsz hbA X q1 q13 q29 n ih i Γ g kc ks _ _ ls hm hi0 hy4 hRL hIJ hBd hU t_q1 t_q13 t_q29 hkc hks hG hS hl (by omega)
        · skip
          refine lv_tableIn (tgt := 768) (off := 728) hx hb dL_law_40 (by omega) (by omega) (by rw [q77]; rfl) (by decide) ?_
          exact law_c16 l hl9 hLN hx hb hr hml hown hA hXs hbl hlocks hE hsz hbA X q1 q13 q29 n ih i Γ g kc ks _ _ ls hm hi0 hy4 hRL hIJ hBd hU t_q1 t_q13 t_q29 hkc hks hG hS hl (by omega)
        · skip
          refine lv_tableIn (tgt := 793) (off := 753) hx hb dL_law_40 (by omega) (by omega) (by rw [q78]; rfl) (by decide) ?_
          exact law_c17 l hl9 hLN hx hb hr hml hown hA hXs hbl hlocks hE hsz hbA X q1 q13 q29 n ih i Γ g kc ks _ _ ls hm hi0 hy4 hRL hIJ hBd hU t_q1 t_q13 t_q29 hkc hks hG hS hl (by omega)
        · skip
          refine lv_tableIn (tgt := 806) (off := 766) hx hb dL_law_40 (by omega) (by omega) (by rw [q79]; rfl) (by decide) ?_
          exact law_c18 l hl9 hLN hx hb hr hml hown hA hXs hbl hlocks hE hsz hbA X q1 q13 q29 n ih i Γ g kc ks _ _ ls hm hi0 hy4 hRL hIJ hBd hU t_q1 t_q13 t_q29 hkc hks hG hS hl (by omega)
        · skip
          refine lv_tableIn (tgt := 871) (off := 831) hx hb dL_law_40 (by omega) (by omega) (by rw [q80]; rfl) (by decide) ?_
          exact law_c19 l hl9 hLN hx hb hr hml hown hA hXs hbl hlocks hE hsz hbA X q1 q13 q29 n ih i Γ g kc ks _ _ ls hm hi0 hy4 hRL hIJ hBd hU t_q1 t_q13 t_q29 hkc hks hG hS hl (by omega)
        · skip
          refine lv_tableIn (tgt := 908) (off := 868) hx hb dL_law_40 (by omega) (by omega) (by rw [q81]; rfl) (by decide) ?_
          exact law_c20 l hl9 hLN hx hb hr hml hown hA hXs hbl hlocks hE hsz hbA X q1 q13 q29 n ih i Γ g kc ks _ _ ls hm hi0 hy4 hRL hIJ hBd hU t_q1 t_q13 t_q29 hkc hks hG hS hl (by omega)
        · skip
          refine lv_tableIn (tgt := 945) (off := 905) hx hb dL_law_40 (by omega) (by omega) (by rw [q82]; rfl) (by decide) ?_
          exact law_c21 l hl9 hLN hx hb hr hml hown hA hXs hbl hlocks hE hsz hbA X q1 q13 q29 n ih i Γ g kc ks _ _ ls hm hi0 hy4 hRL hIJ hBd hU t_q1 t_q13 t_q29 hkc hks hG hS hl (by omega)
        · skip
          refine lv_tableIn (tgt := 985) (off := 945) hx hb dL_law_40 (by omega) (by omega) (by rw [q83]; rfl) (by decide) ?_
          exact law_c22 l hl9 hLN hx hb hr hml hown hA hXs hbl hlocks hE hsz hbA X q1 q13 q29 n ih i Γ g kc ks _ _ ls hm hi0 hy4 hRL hIJ hBd hU t_q1 t_q13 t_q29 hkc hks hG hS hl (by omega)
        · skip
          refine lv_tableIn (tgt := 1022) (off := 982) hx hb dL_law_40 (by omega) (by omega) (by rw [q84]; rfl) (by decide) ?_
          exact law_c23 l hl9 hLN hx hb hr hml hown hA hXs hbl hlocks hE hsz hbA X q1 q13 q29 n ih i Γ g kc ks _ _ ls hm hi0 hy4 hRL hIJ hBd hU t_q1 t_q13 t_q29 hkc hks hG hS hl (by omega)
set_option maxHeartbeats 40000000 in
set_option maxRecDepth 100000 in
/-- the law, from its entry -/
theorem whole_start {p : Program} {e : Env} {s : State} {m : MethodId} {below : List Frame} {meth : Method} {c : Code} (l : Launch) (hl9 : l.stackTraces = false) {b L : Nat} {xs : Nat → Int32} (hLN : L ≤ 3072) (C0 : lw_At p s m meth c b L xs) : W p l e room_1 s m #[Value.ref b] below meth c s.heap [] 0 0 (lw_Z below #[Value.ref b] s) (entryFrame m ([Value.ref b] : List Value).toArray 7) := by
  obtain ⟨hx, hb, hr, hml, hown, hts, hXs, hbl, hlocks, hgv⟩ := C0
  have hA : ∀ w ∈ AL, w.before #[Value.ref b] s = true := fun w h => hts w (al_in h)
  obtain ⟨dC, dI, dA, hE⟩ := en_start hts hgv
  obtain ⟨sz, hsz⟩ : ∃ z, z = s.heap.size := ⟨_, rfl⟩
  rw [← hsz] at hE
  have hbA : ¬ ty_A sz b := by rw [hsz]; exact Nat.not_le.mpr hbl
  obtain ⟨X, eX⟩ : ∃ z : va_W, z = [] := ⟨_, rfl⟩
  obtain ⟨Γ, eΓ⟩ : ∃ z : ty_G, z = fun _ => (0, 0) := ⟨_, rfl⟩
  obtain ⟨g, eg⟩ : ∃ z : gh, z = lw_g := ⟨_, rfl⟩
  have hU : Un Γ := by rw [eΓ]; exact ⟨fun a b _ h => absurd (show sg 0 = true from h) (by decide), fun a b _ h => absurd (show sg2 0 = true from h) (by decide)⟩
  have hL0 : tyIn Γ [] := by rw [eΓ]; exact fun a h => absurd rfl h
  have hG : ty_ok (dC, dI) vwCl Γ (TP dA Γ g) sz X s.heap := by rw [eΓ, eX, hsz]; exact ⟨Nat.le_refl _, fun a h => absurd rfl h, List.nodup_nil, fun _ h => nomatch h⟩
  have zg : ∀ c j : Nat, c = 19 ∨ c = 33 ∨ c = 34 ∨ c = 35 ∨ c = 36 ∨ (80 ≤ c ∧ c ≤ 86) → g c j = 0 := by rw [eg]; intro c j h; exact lw_g0 j (by simp only [List.mem_cons, List.not_mem_nil, or_false, not_or]; omega)
  have z46 : ∀ j : Nat, g 46 j = -1 := by rw [eg]; exact fun j => rfl
  have z56 : ∀ j : Nat, g 56 j = -1 := by rw [eg]; exact fun j => rfl
  have z43 : ∀ j : Nat, g 43 j = if j < 318 then -1 else 0 := by rw [eg]; exact fun j => rfl
  have z0 : ∀ c j : Nat, c ∉ [14, 121, 46, 56, 43, 12] → g c j = 0 := by rw [eg]; exact fun c j h => lw_g0 j h
  have zz : g 1 0 = 0 ∧ g 2 0 = 0 ∧ g 3 0 = 0 ∧ g 4 0 = 0 ∧ g 5 0 = 0 ∧ g 7 0 = 0 ∧ g 8 0 = 0 ∧ g 30 0 = 0 ∧ g 31 0 = 0 ∧ g 32 0 = 0 ∧ g 6 0 = 0 ∧ g 9 0 = 0 ∧ g 16 0 = 0 ∧ g 15 0 = 0 ∧ g 17 0 = 0 ∧ g 18 0 = 0 ∧ g 33 0 = 0 ∧ g 34 0 = 0 ∧ g 35 0 = 0 ∧ g 36 0 = 0 ∧ g 13 0 = 0 ∧ g 10 0 = 0 ∧ g 11 0 = 0 ∧ g 10 1 = 0 ∧ g 11 1 = 0 ∧ g 14 0 = -1 ∧ g 12 0 = 1 := by rw [eg]; exact ⟨rfl, rfl, rfl, rfl, rfl, rfl, rfl, rfl, rfl, rfl, rfl, rfl, rfl, rfl, rfl, rfl, rfl, rfl, rfl, rfl, rfl, rfl, rfl, rfl, rfl, rfl, rfl⟩
  have z100 : ∀ c j : Nat, 100 ≤ c ∧ c ≠ 121 → g c j = 0 := fun c j h => z0 c j (by simp only [List.mem_cons, List.not_mem_nil, or_false, not_or]; omega)
  have zm : g 101 0 = 0 ∧ g 104 0 = 0 ∧ g 126 0 = 0 ∧ g 122 0 = 0 ∧ g 111 0 = 0 ∧ g 112 0 = 0 ∧ g 114 0 = 0 ∧ g 118 0 = 0 ∧ g 121 0 = -1 := by rw [eg]; exact ⟨rfl, rfl, rfl, rfl, rfl, rfl, rfl, rfl, rfl⟩
  clear eΓ eX eg
  have hS : va_S (ty_A sz) s.heap s.heap [] := va_S.rf
  have hl := lv_entry ([.ref b]) (n := 7) (Nat.le_of_ble_eq_true rfl)
  rw [lg_entry_eq]
  generalize (lg_sl ([.ref b]) ++ List.replicate (7 - (lg_sl ([.ref b])).length) Slot.unset).toArray = ls at hl ⊢
  have hl : lv_has ls 7 [(0, .ref b)] := hl
  refine new_X8 hx hb hA hE hG hS hown wd_1_22 wd_1_23 wd_1_1 (Nat.le_of_ble_eq_true rfl) (Nat.le_of_ble_eq_true rfl) dL_law_0 (fun q1 H z_q1 s_q1 e_q1 hG hS => ?_)
  clear z_q1 s_q1 e_q1
  refine lv_dup hx hb dL_law_3 rfl ?_
  refine cVB (va_runI (As := []) (rest := [.ref q1]) ⟨hx, hb, hml, hown, hA⟩ (k_X8_init l dC dI dA sz X Γ hU g q1  hL0 (fun c j h => zg c j (by omega)) (z46) (by omega) (by first | with_reducible assumption | omega)) ⟨callB_of 0 hA (al_A wd_1_26) rfl rfl rfl (hA _ wd_1_1) (hA _ wd_1_24) (by decide +kernel) ⟨Nat.le_of_ble_eq_true rfl, Nat.le_of_ble_eq_true rfl⟩, rfl, hA _ wd_1_25⟩ ⟨bl, fun U hU9 hW9 => ⟨rfl, by rw [hU9]; exact hG, hE.go hS hU9 hW9⟩⟩ rfl rfl hl.1 rfl (lv_room (Nat.le_of_ble_eq_true rfl)) dL_law_4 ⟨Nat.le_of_ble_eq_true rfl, Nat.le_of_ble_eq_true rfl⟩) hS (fun u2 H locs w3 hG hS => ?_)
  obtain ⟨Γ4, g5⟩ := u2
  dsimp only at w3 hG
  obtain ⟨hx6, hU, hL7, t_q1, hf8, hq11⟩ := w3
  replace t_q1 : ty Γ4 q1 1 := t_q1
  have hL7 : tyIn Γ4 ((1, 0) :: ((9, 0) :: ((24, 0) :: ((23, 0) :: ((23, 0) :: ((8, 0) :: ((27, 0) :: ((22, 0) :: ((21, 0) :: ((20, 0) :: ((19, 0) :: ((6, 1) :: ((26, 1) :: ((17, 1) :: ((16, 1) :: ((6, 0) :: ((26, 0) :: ((17, 0) :: ((16, 0) :: ((7, 0) :: ((18, 0) :: ((12, 0) :: ((11, 0) :: ((10, 0) :: [])))))))))))))))))))))))) := hL7
  have hX12 : ext Γ Γ4 := ext.trans ext.rf hx6
  refine lv_astore_n (lv' := [(1, .ref q1), (0, .ref b)]) hx hb dL_law_7 rfl hl (by decide) rfl (fun ls hl => ?_)
  refine new_X9 hx hb hA hE hG hS hown wd_4_124 wd_4_125 wd_1_7 (Nat.le_of_ble_eq_true rfl) (Nat.le_of_ble_eq_true rfl) dL_law_8 (fun q13 H z_q13 s_q13 e_q13 hG hS => ?_)
  clear z_q13 s_q13 e_q13
  refine lv_dup hx hb dL_law_11 rfl ?_
  have hk14 : g5 121 0 = g 121 0 := hf8 121 0 (by decide)
  refine cVB (va_runI (As := []) (rest := [.ref q13]) ⟨hx, hb, hml, hown, hA⟩ (k_X9_init l dC dI dA sz X Γ4 hU g5 q13  ((1, 0) :: ((9, 0) :: ((24, 0) :: ((23, 0) :: ((23, 0) :: ((8, 0) :: ((27, 0) :: ((22, 0) :: ((21, 0) :: ((20, 0) :: ((19, 0) :: ((6, 1) :: ((26, 1) :: ((17, 1) :: ((16, 1) :: ((6, 0) :: ((26, 0) :: ((17, 0) :: ((16, 0) :: ((7, 0) :: ((18, 0) :: ((12, 0) :: ((11, 0) :: ((10, 0) :: [])))))))))))))))))))))))) hL7 (by decide)  (fun c j h => by rw [hf8 c j (by omega)]; exact z100 c j h) (by first | with_reducible assumption | omega)) ⟨callB_of 0 hA (al_A wd_4_128) rfl rfl rfl (hA _ wd_1_7) (hA _ wd_4_126) (by decide +kernel) ⟨Nat.le_of_ble_eq_true rfl, Nat.le_of_ble_eq_true rfl⟩, rfl, hA _ wd_4_127⟩ ⟨bl, fun U hU9 hW9 => ⟨rfl, by rw [hU9]; exact hG, hE.go hS hU9 hW9⟩⟩ rfl rfl hl.1 rfl (lv_room (Nat.le_of_ble_eq_true rfl)) dL_law_12 ⟨Nat.le_of_ble_eq_true rfl, Nat.le_of_ble_eq_true rfl⟩) hS (fun u15 H locs w16 hG hS => ?_)
  obtain ⟨Γ17, g18⟩ := u15
  dsimp only at w16 hG
  obtain ⟨hx19, hU, hL20, t_q13, hf21, hq24⟩ := w16
  replace t_q13 : ty Γ17 q13 30 := t_q13
  have hL20 : tyIn Γ17 ((30, 0) :: ((146, 0) :: ((145, 0) :: ((144, 0) :: ((140, 0) :: ((139, 0) :: ((138, 0) :: ((136, 0) :: ((135, 0) :: ((134, 0) :: ((133, 0) :: ((132, 0) :: ((131, 0) :: ((130, 0) :: ((129, 0) :: ((128, 0) :: ((127, 0) :: ((125, 0) :: ((123, 0) :: ((113, 0) :: ((110, 0) :: ((109, 0) :: ((108, 0) :: ((107, 0) :: ((106, 0) :: ((105, 0) :: ((103, 0) :: ((102, 0) :: ((1, 0) :: ((9, 0) :: ((24, 0) :: ((23, 0) :: ((23, 0) :: ((8, 0) :: ((27, 0) :: ((22, 0) :: ((21, 0) :: ((20, 0) :: ((19, 0) :: ((6, 1) :: ((26, 1) :: ((17, 1) :: ((16, 1) :: ((6, 0) :: ((26, 0) :: ((17, 0) :: ((16, 0) :: ((7, 0) :: ((18, 0) :: ((12, 0) :: ((11, 0) :: ((10, 0) :: [])))))))))))))))))))))))))))))))))))))))))))))))))))) := hL20
  have hn25 : g5 109 = (g 109) := by rw [(show g5 109 = g 109 from funext fun j => hf8 109 j (by decide))]
  rw [hn25] at hq24
  have hX26 : ext Γ Γ17 := ext.trans hX12 hx19
  replace t_q1 : ty Γ17 q1 1 := hx19.one t_q1 (by decide)
  refine lv_astore_n (lv' := [(2, .ref q13), (1, .ref q1), (0, .ref b)]) hx hb dL_law_15 rfl hl (by decide) rfl (fun ls hl => ?_)
  refine ty_iconst hx hb (1) dL_law_16 (by decide) (fun x27 h28 => ?_)
  refine new_J hx hb hA hE hG hS wd_5_239 (N := 1) (by omega) (by decide) (Nat.le_of_ble_eq_true rfl) (Nat.le_of_ble_eq_true rfl) (25, 0) (fun Γ' => by rw [TP_25 rfl]; exact ⟨_, rfl⟩) dL_law_17 (fun q29 H z_q29 s_q29 e_q29 hG hS => ?_)
  obtain ⟨Γ30, eΓ30⟩ : ∃ z, z = va_up Γ17 q29 (25, 0) := ⟨_, rfl⟩
  rw [← eΓ30] at hG
  have hx31 : ext Γ17 Γ30 := by rw [eΓ30]; exact ext.up z_q29
  have hU : Un Γ30 := by rw [eΓ30]; exact Un.up0 hU rfl rfl
  have hL32 : tyIn Γ30 ((25, 0) :: ((30, 0) :: ((146, 0) :: ((145, 0) :: ((144, 0) :: ((140, 0) :: ((139, 0) :: ((138, 0) :: ((136, 0) :: ((135, 0) :: ((134, 0) :: ((133, 0) :: ((132, 0) :: ((131, 0) :: ((130, 0) :: ((129, 0) :: ((128, 0) :: ((127, 0) :: ((125, 0) :: ((123, 0) :: ((113, 0) :: ((110, 0) :: ((109, 0) :: ((108, 0) :: ((107, 0) :: ((106, 0) :: ((105, 0) :: ((103, 0) :: ((102, 0) :: ((1, 0) :: ((9, 0) :: ((24, 0) :: ((23, 0) :: ((23, 0) :: ((8, 0) :: ((27, 0) :: ((22, 0) :: ((21, 0) :: ((20, 0) :: ((19, 0) :: ((6, 1) :: ((26, 1) :: ((17, 1) :: ((16, 1) :: ((6, 0) :: ((26, 0) :: ((17, 0) :: ((16, 0) :: ((7, 0) :: ((18, 0) :: ((12, 0) :: ((11, 0) :: ((10, 0) :: []))))))))))))))))))))))))))))))))))))))))))))))))))))) := by rw [eΓ30]; exact hL20.up
  have hX33 : ext Γ Γ30 := ext.trans hX26 hx31
  replace t_q13 : ty Γ30 q13 30 := hx31.one t_q13 (by decide)
  replace t_q1 : ty Γ30 q1 1 := hx31.one t_q1 (by decide)
  have t_q29 : ty Γ30 q29 25 := by rw [eΓ30]; unfold ty; rw [va_up_self]
  clear z_q29 s_q29 e_q29
  refine lv_astore_n (lv' := [(3, .ref q29), (2, .ref q13), (1, .ref q1), (0, .ref b)]) hx hb dL_law_19 rfl hl (by decide) rfl (fun ls hl => ?_)
  refine ty_iconst hx hb (0) dL_law_20 (by decide) (fun x34 h35 => ?_)
  refine lv_istore (lv' := [(4, .int x34), (3, .ref q29), (2, .ref q13), (1, .ref q1), (0, .ref b)]) hx hb dL_law_21 hl (by decide) rfl (fun ls hl => ?_)
  have hF36 : ∀ c, c ≠ 82 → c ≠ 109 → g18 c = g c := fun c h82 h109 => funext fun j => by rw [hf21 c j h109, hf8 c j h82]
  have hj37 : IJ g18 := IJ_zero (fun j => by rw [hF36 132 (by decide) (by decide)]; exact z100 132 j (by decide)) (by rw [hF36 126 (by decide) (by decide)]; exact z100 126 0 (by decide))
  have hr38 : RLA g18 := RLA_0 (fun c hc => by rw [hF36 c (fun q => absurd hc (by rw [q]; decide)) (fun q => absurd hc (by rw [q]; decide))]; exact z0 c 0 (fun q => absurd hc ((show ∀ c, c ∈ [14, 121, 46, 56, 43, 12] → c ∉ [1, 2, 3, 4, 5, 6, 18, 33, 34, 35, 101, 104, 111, 112, 114, 118, 122, 126, 13] by decide) c q))) (by rw [hF36 121 (by decide) (by decide), hF36 14 (by decide) (by decide)]; omega) (by rw [hF36 12 (by decide) (by decide)]; omega) (fun c hc j => by rw [hF36 c (fun q => absurd hc (by rw [q]; decide)) (fun q => absurd hc (by rw [q]; decide))]; exact z0 c j (fun q => absurd hc ((show ∀ c, c ∈ [14, 121, 46, 56, 43, 12] → c ∉ [50, 51, 52, 53, 54, 105, 106, 107, 108, 41, 42, 102, 103, 44, 110, 60, 61, 62, 63, 64, 65, 67, 68, 127, 128, 129, 130, 131, 132, 133, 134, 135, 80, 81, 11, 123, 125, 86, 113, 19] by decide) c q))) (fun j => by rw [hF36 56 (by decide) (by decide)]; exact z56 j) (funext fun j => by rw [hF36 43 (by decide) (by decide), z43 j, hq24, fz_at, z100 109 j (by decide)]; by_cases q : j < 318; (rw [if_pos q, if_pos ⟨Nat.zero_le _, by omega⟩]); (rw [if_neg q, if_neg (by omega)])) (fun j hj => by rw [hF36 43 (by decide) (by decide), z43 j, if_pos hj]) (fun j hj => by rw [(show g18 82 = g5 82 from funext fun j => hf21 82 j (by decide)), hq11, fz_at, if_neg (by omega), fz_at, if_pos ⟨Nat.zero_le _, by omega⟩])
  have hb39 : Bd Γ30 g18 := Bd_in (L := ((25, 0) :: ((30, 0) :: ((146, 0) :: ((145, 0) :: ((144, 0) :: ((140, 0) :: ((139, 0) :: ((138, 0) :: ((136, 0) :: ((135, 0) :: ((134, 0) :: ((133, 0) :: ((132, 0) :: ((131, 0) :: ((130, 0) :: ((129, 0) :: ((128, 0) :: ((127, 0) :: ((125, 0) :: ((123, 0) :: ((113, 0) :: ((110, 0) :: ((109, 0) :: ((108, 0) :: ((107, 0) :: ((106, 0) :: ((105, 0) :: ((103, 0) :: ((102, 0) :: ((1, 0) :: ((9, 0) :: ((24, 0) :: ((23, 0) :: ((23, 0) :: ((8, 0) :: ((27, 0) :: ((22, 0) :: ((21, 0) :: ((20, 0) :: ((19, 0) :: ((6, 1) :: ((26, 1) :: ((17, 1) :: ((16, 1) :: ((6, 0) :: ((26, 0) :: ((17, 0) :: ((16, 0) :: ((7, 0) :: ((18, 0) :: ((12, 0) :: ((11, 0) :: ((10, 0) :: [])))))))))))))))))))))))))))))))))))))))))))))))))))))) hL32 (by decide)
  have hy0 : g18 4 0 = 0 := by rw [hF36 4 (by decide) (by decide)]; exact z0 4 0 (by decide)
  exact law_loop l hl9 hLN hx hb hr hml hown hA hXs hbl hlocks hE hsz hbA X q1 q13 q29 ((3073 - x34.toInt) + 1).toNat x34 Γ30 g18 ((((((0 + 1) + 24) + 1) + 27) + 1)) ((((((0 + 13) + 6604) + 47) + 3734) + 1)) _ _ ls (by omega) (by omega) (by omega) hr38 hj37 hb39 hU t_q1 t_q13 t_q29 (Nat.le_trans (Nat.le_of_ble_eq_true rfl : (((((0 + 1) + 24) + 1) + 27) + 1) ≤ 300) (Nat.le_add_right _ _)) (Nat.le_trans (Nat.le_of_ble_eq_true rfl : (((((0 + 13) + 6604) + 47) + 3734) + 1) ≤ 30000) (Nat.le_add_right _ _)) hG hS (lv_sub hl [0, 1, 2, 3, 4] rfl)
