theorem ast_25 {p : Program} {l : Launch} {e : Env} {R : Room} {s : State} {m : MethodId} {args : Array Value} {below : List Frame} {meth : Method} {c : Code} {H : Heap} {locs : List Loc} {cells slots : Nat} {Q : State → Prop} {cc : ByteArray} {pc : Nat} {ls : Array Slot} {rest : List Value} {dC : Nat → ClassId} {dI : Nat → Nat → Nat} {dA : Nat → ClassId} {a : Nat} {H0 : Heap} {sz : Nat} {X : va_W} {Γ : ty_G} {g : gh} (hx : p.tables.exec = Jvm.exec) (hb : c.code = cc) (hE : en dC dI dA sz s) (hG : ty_ok (dC, dI) vwCl Γ (TP dA Γ g) sz X H) (hS0 : va_S (ty_A sz) H0 H locs) (ha : (Γ a).1 = 25) {i : Int32} {x : Int64} (hin : 0 ≤ i.toInt ∧ i.toInt < ((1 : Nat) : Int)) (hdg : decode cc pc = .ok (.lastore, 1)) (kk : ∀ (H1 : Heap) (locs1 : List Loc), ty_ok (dC, dI) vwCl Γ (TP dA Γ g) sz X H1 → va_S (ty_A sz) H0 H1 locs1 → W p l e R s m args below meth c H1 locs1 cells slots Q (F0 m (pc + 1) ls rest)) : W p l e R s m args below meth c H locs cells slots Q (F0 m pc ls (.long x :: .int i :: .ref a :: rest)) := by
  obtain ⟨hsa, y, h2, h3⟩ := hG.2.1 a (by rw [ha]; decide)
  rw [TP_25 ha] at h3
  obtain ⟨f, rfl⟩ := h3
  refine W.last hx hb h2 ((hE.1.2 3 _ rfl).1 1 (fun j => .long (f j))) (fun q => by cases q) (by show ¬ (i < 0 ∨ (arrV _ _ _).slots.size ≤ _); rw [arrV_size]; exact ty_ix hin) rfl rfl hdg fun H1 e z oq => ?_
  refine kk H1 _ (ty_set hG (by rw [ha]; decide) z oq (x := .inl (dA 3, 1, .inr (.inl (vp_updL f i.toNatClampNeg x)))) ?_ (fun b y _ _ h => h) (by rw [TP_25 ha]; exact ⟨_, rfl⟩)) (ty_put_S hS0 z oq hsa)
  show H1[a]? = some (vp_cell _ _)
  rw [e, vp_cell_l, vp_cell_l, arrV_store]
  congr 2
  funext q
  by_cases hq : q = i.toNatClampNeg
  · subst hq
    simp [updV, vp_updL]
  · simp [updV, vp_updL, hq]

set_option maxHeartbeats 4000000 in
set_option maxRecDepth 100000 in
/-- WeekBank.of:  -/
theorem k_X8_of (l : Launch) (dC : Nat → ClassId) (dI : Nat → Nat → Nat) (dA : Nat → ClassId) (sz : Nat) (X : va_W) (Γ : ty_G) (hU : Un Γ) (g : gh) (hl9 : l.stackTraces = false) (h0 : Nat) (t_h0 : ty Γ h0 1) (p1 : Int32) (p2 : Int32) (g3 : g 3 0 = g 35 0 ∧ 0 ≤ g 3 0 ∧ g 3 0 ≤ 200) : vx_Met l yX8_of (.code yX8_of cX8_of 4 (Option.some Jvm.ClassFile.FieldType.int) :: AL) ({ frames := 6, cells := 1, slots := 6, locals := 82 }) (PCx dC dI dA sz X Γ g [.ref h0, .int p1, .int p2]) (va_Qi (fun (r : Int32) (u : gh) => u = g) (okb dC dI dA sz X Γ) (ty_A sz)) (vx_X (fun (u : gh) => u = g ∧ (True)) (fun E u t => E = nse ∧ okb dC dI dA sz X Γ u t) (ty_A sz)) 1 6 (ty_A sz) := by
  refine vx_ofW (cc := cX8_of) (maxL := 4) (ret := (Option.some Jvm.ClassFile.FieldType.int)) (by decide) rfl ?_
  intro p e s m args below meth c s₁ B hml ht0 hv
  obtain ⟨rfl, hG, hE⟩ := hv
  have hx := B.exec
  have hb := B.bytes
  have hr := B.returns
  have hts := atoms_spec B.pre
  have hA : ∀ w ∈ AL, w.before _ s = true := fun w h => hts w (List.mem_cons_of_mem _ h)
  have hown : s.vm.findClass RX8 = some m.cls := findClass_of_methodNamed B.named
  have hlocks := B.notSynchronized
  have hS : va_S (ty_A sz) s.heap s.heap [] := va_S.rf
  have hl := lv_entry ([.ref h0, .int p1, .int p2]) (n := 4) (Nat.le_of_ble_eq_true rfl)
  rw [lg_entry_eq]
  generalize (lg_sl ([.ref h0, .int p1, .int p2]) ++ List.replicate (4 - (lg_sl ([.ref h0, .int p1, .int p2])).length) Slot.unset).toArray = ls at hl ⊢
  have hl : lv_has ls 4 [(0, .ref h0), (1, .int p1), (2, .int p2)] := hl
  refine lv_aload_n hx hb dX8_of_0 rfl (lv_at hl 0 rfl) ?_
  refine lv_iload_n hx hb dX8_of_1 rfl (lv_at hl 1 rfl) ?_
  refine cQ (va_runV (C := RX8) (As := [.int p1]) (rest := []) ⟨hx, hb, hml, hown, hA⟩ (k_X8_giftAt l dC dI dA sz X Γ hU g h0 t_h0 p1   (by omega)) ⟨callB_of 1 hA (al_A wd_3_76) rfl rfl rfl (hA _ wd_1_1) (hA _ wd_3_73) (by decide +kernel) ⟨Nat.le_of_ble_eq_true rfl, Nat.le_of_ble_eq_true rfl⟩, hA _ wd_3_75, hA _ ws_18⟩ ⟨bl, recv_X8 hE hG t_h0, fun U hU9 hW9 => ⟨rfl, by rw [hU9]; exact hG, hE.go hS hU9 hW9⟩⟩ rfl rfl hl.1 rfl (lv_room (Nat.le_of_ble_eq_true rfl)) dX8_of_2 ⟨Nat.zero_le _, Nat.zero_le _⟩) hS (fun r3 u1 H locs w2 hG hS => ?_)
  obtain ⟨z_r3, n_r3, t_r3, w2⟩ := w2
  obtain ⟨eu4, w2⟩ := w2
  rw [eu4] at hG
  rcases pz_or w2 with w2 | w2
  · skip
    obtain ⟨b5, h6⟩ := Option.ne_none_iff_exists'.mp (fun h9 => absurd (n_r3 h9) (by omega))
    obtain ⟨t_b5, p_b5⟩ := t_r3 b5 h6
    clear t_r3 n_r3
    subst h6
    replace t_b5 : Γ b5 = (4, (p1.toInt).toNat) := by rw [t_b5, show z_r3 = p1.toInt by omega]
    replace p_b5 : 0 ≤ p1.toInt := by omega
    refine lv_astore_n (lv' := [(3, .ref b5), (0, .ref h0), (1, .int p1), (2, .int p2)]) hx hb dX8_of_5 rfl hl (by decide) rfl (fun ls hl => ?_)
    refine lv_aload_n hx hb dX8_of_6 rfl (lv_at hl 0 rfl) ?_
    refine lv_ifnonnull (tgt := 21) hx hb dX8_of_7 (by decide) ?_
    refine lv_iload_n hx hb dX8_of_21 rfl (lv_at hl 3 rfl) ?_
    by_cases c7 : p2.toInt < 0 ∨ 7 < p2.toInt
    · skip
      refine lv_tableOut (tgt := 150) hx hb dX8_of_22 c7 (by decide) ?_
      obtain ⟨sa, hsa⟩ := hE.2.2.2.2.2.2.2.2
      exact cx_throw hx hb hl9 (rx := rx13) (ix := 13) rx13_0 rx13_1 rx13_2 rx13_5 hown (by decide) (by decide) (hA _ wd_4_58) (hA _ wd_1_21) hsa (cx_atoms hA hE.2.2.2.2.2) hE.2.2.2.2.2.1.1 hE.2.2.2.2.2.1.2 hS (hl.1.trans hml.symm) dX8_of_150 dX8_of_153 dX8_of_154 dX8_of_157 dX8_of_160 (fun x hx => (ht0 x hx).elim) (Nat.le_of_ble_eq_true rfl) (Nat.le_of_ble_eq_true rfl) (Nat.le_of_ble_eq_true rfl) (Nat.le_of_ble_eq_true rfl) hlocks (fun t _ z1 z2 => ⟨g, ⟨rfl, trivial⟩, ⟨rfl, ty_grow hG z1 z2⟩, Nat.le_trans hS.1 z1, fun q hq hn => (z2 q (Nat.lt_of_lt_of_le hq hS.1)).trans (hS.2.1 q hq hn)⟩) hS.2.2 (Nat.le_of_ble_eq_true rfl) (Nat.le_of_ble_eq_true rfl)
    · skip
      rcases (show p2.toInt = 0 ∨ p2.toInt = 1 ∨ p2.toInt = 2 ∨ p2.toInt = 3 ∨ p2.toInt = 4 ∨ p2.toInt = 5 ∨ p2.toInt = 6 ∨ p2.toInt = 7 by omega) with q8 | q9 | q10 | q11 | q12 | q13 | q14 | q15
      · skip
        refine lv_tableIn (tgt := 68) (off := 46) hx hb dX8_of_22 (by omega) (by omega) (by rw [q8]; rfl) (by decide) ?_
        refine lv_aload_n hx hb dX8_of_68 rfl (lv_at hl 0 rfl) ?_
        refine get_X2_1 hx hb hA hown hE hG t_b5 wd_3_22 dX8_of_69 (fun b16 t_b16 p_b16 => ?_)
        refine get_X3_0 hx hb hA hown hE hG t_b16 wd_2_7 dX8_of_72 (fun x17 h18 => ?_)
        refine vx_ret ?_
        refine W.widen (k := 1) (n := 6) (by omega) (by omega) ?_
        exact W.iret (v := x17) hx hb hr (fun t ht hW => ⟨⟨x17, g, rfl, rfl, ok1 ht hG⟩, hS.F ht⟩) hS.2.2 dX8_of_75
      · skip
        refine lv_tableIn (tgt := 76) (off := 54) hx hb dX8_of_22 (by omega) (by omega) (by rw [q9]; rfl) (by decide) ?_
        refine lv_aload_n hx hb dX8_of_76 rfl (lv_at hl 0 rfl) ?_
        refine get_X2_2 hx hb hA hown hE hG t_b5 wd_3_24 dX8_of_77 (fun b19 t_b19 p_b19 => ?_)
        refine get_X1_0 hx hb hA hown hE hG t_b19 wd_1_212 dX8_of_80 (fun x20 h21 => ?_)
        refine vx_ret ?_
        refine W.widen (k := 1) (n := 6) (by omega) (by omega) ?_
        exact W.iret (v := x20) hx hb hr (fun t ht hW => ⟨⟨x20, g, rfl, rfl, ok1 ht hG⟩, hS.F ht⟩) hS.2.2 dX8_of_83
      · skip
        refine lv_tableIn (tgt := 84) (off := 62) hx hb dX8_of_22 (by omega) (by omega) (by rw [q10]; rfl) (by decide) ?_
        refine lv_aload_n hx hb dX8_of_84 rfl (lv_at hl 0 rfl) ?_
        refine get_X2_3 hx hb hA hown hE hG t_b5 wd_3_26 dX8_of_85 (fun x22 h23 => ?_)
        refine vx_ret ?_
        refine W.widen (k := 1) (n := 6) (by omega) (by omega) ?_
        exact W.iret (v := x22) hx hb hr (fun t ht hW => ⟨⟨x22, g, rfl, rfl, ok1 ht hG⟩, hS.F ht⟩) hS.2.2 dX8_of_88
      · skip
        refine lv_tableIn (tgt := 89) (off := 67) hx hb dX8_of_22 (by omega) (by omega) (by rw [q11]; rfl) (by decide) ?_
        refine lv_aload_n hx hb dX8_of_89 rfl (lv_at hl 0 rfl) ?_
        refine get_X2_4 hx hb hA hown hE hG t_b5 wd_3_28 dX8_of_90 (fun x25 h26 => ?_)
        refine vx_ret ?_
        refine W.widen (k := 1) (n := 6) (by omega) (by omega) ?_
        exact W.iret (v := x25) hx hb hr (fun t ht hW => ⟨⟨x25, g, rfl, rfl, ok1 ht hG⟩, hS.F ht⟩) hS.2.2 dX8_of_93
      · skip
        refine lv_tableIn (tgt := 94) (off := 72) hx hb dX8_of_22 (by omega) (by omega) (by rw [q12]; rfl) (by decide) ?_
        refine lv_aload_n hx hb dX8_of_94 rfl (lv_at hl 0 rfl) ?_
        refine get_X2_5 hx hb hA hown hE hG t_b5 wd_3_30 dX8_of_95 (fun x28 h29 => ?_)
        refine vx_ret ?_
        refine W.widen (k := 1) (n := 6) (by omega) (by omega) ?_
        exact W.iret (v := x28) hx hb hr (fun t ht hW => ⟨⟨x28, g, rfl, rfl, ok1 ht hG⟩, hS.F ht⟩) hS.2.2 dX8_of_98
      · skip
        refine lv_tableIn (tgt := 99) (off := 77) hx hb dX8_of_22 (by omega) (by omega) (by rw [q13]; rfl) (by decide) ?_
        refine lv_aload_n hx hb dX8_of_99 rfl (lv_at hl 0 rfl) ?_
        refine get_X2_6 hx hb hA hown hE hG t_b5 wd_3_34 dX8_of_100 (fun x31 h32 => ?_)
        refine vx_ret ?_
        refine W.widen (k := 1) (n := 6) (by omega) (by omega) ?_
        exact W.iret (v := x31) hx hb hr (fun t ht hW => ⟨⟨x31, g, rfl, rfl, ok1 ht hG⟩, hS.F ht⟩) hS.2.2 dX8_of_103
      · skip
        refine lv_tableIn (tgt := 104) (off := 82) hx hb dX8_of_22 (by omega) (by omega) (by rw [q14]; rfl) (by decide) ?_
        refine lv_aload_n hx hb dX8_of_104 rfl (lv_at hl 0 rfl) ?_
        refine get_X2_6 hx hb hA hown hE hG t_b5 wd_3_34 dX8_of_105 (fun x34 h35 => ?_)
        refine ty_iconst hx hb (1) dX8_of_108 (by decide) (fun x37 h38 => ?_)
        refine ty_icmp_ne (tgt := 129) hx hb dX8_of_109 (by decide) (fun c39 => ?_) (fun c39 => ?_)
        · skip
          refine ty_iconst hx hb (-1) dX8_of_129 (by decide) (fun x40 h41 => ?_)
          refine vx_ret ?_
          refine W.widen (k := 1) (n := 6) (by omega) (by omega) ?_
          exact W.iret (v := x40) hx hb hr (fun t ht hW => ⟨⟨x40, g, rfl, rfl, ok1 ht hG⟩, hS.F ht⟩) hS.2.2 dX8_of_130
        · skip
          refine lv_aload_n hx hb dX8_of_112 rfl (lv_at hl 0 rfl) ?_
          refine get_X2_8 hx hb hA hown hE hG t_b5 wd_3_40 dX8_of_113 (fun r42 n_r42 t_r42 => ?_)
          refine ty_ifnull (tgt := 129) hx hb dX8_of_116 (by decide) (fun h44 => ?_) (fun b43 h44 => ?_)
          · skip
            have hz45 := n_r42 h44
            subst h44
            have hl : lv_has ls 4 [(3, .ref b5), (0, .ref h0), (1, .int p1), (2, .int p2)] := hl
            refine ty_iconst hx hb (-1) dX8_of_129 (by decide) (fun x46 h47 => ?_)
            refine vx_ret ?_
            refine W.widen (k := 1) (n := 6) (by omega) (by omega) ?_
            exact W.iret (v := x46) hx hb hr (fun t ht hW => ⟨⟨x46, g, rfl, rfl, ok1 ht hG⟩, hS.F ht⟩) hS.2.2 dX8_of_130
          · skip
            obtain ⟨t_b43, p_b43⟩ := t_r42 b43 h44
            clear t_r42 n_r42
            subst h44
            have hl : lv_has ls 4 [(3, .ref b5), (0, .ref h0), (1, .int p1), (2, .int p2)] := hl
            refine lv_aload_n hx hb dX8_of_119 rfl (lv_at hl 0 rfl) ?_
            refine get_X2_8 hx hb hA hown hE hG t_b5 wd_3_40 dX8_of_120 (fun r48 n_r48 t_r48 => ?_)
            obtain ⟨b49, h50⟩ := Option.ne_none_iff_exists'.mp (fun h9 => absurd (n_r48 h9) (by omega))
            obtain ⟨t_b49, p_b49⟩ := t_r48 b49 h50
            clear t_r48 n_r48
            subst h50
            have hl : lv_has ls 4 [(3, .ref b5), (0, .ref h0), (1, .int p1), (2, .int p2)] := hl
            refine get_X2_0 hx hb hA hown hE hG t_b49 wd_3_19 dX8_of_123 (fun x51 h52 => ?_)
            refine lv_goto (tgt := 130) hx hb dX8_of_126 (by decide) ?_
            refine vx_ret ?_
            refine W.widen (k := 1) (n := 6) (by omega) (by omega) ?_
            exact W.iret (v := x51) hx hb hr (fun t ht hW => ⟨⟨x51, g, rfl, rfl, ok1 ht hG⟩, hS.F ht⟩) hS.2.2 dX8_of_130
      · skip
        refine lv_tableIn (tgt := 131) (off := 109) hx hb dX8_of_22 (by omega) (by omega) (by rw [q15]; rfl) (by decide) ?_
        refine lv_aload_n hx hb dX8_of_131 rfl (lv_at hl 0 rfl) ?_
        refine cI (va_runV (C := RX2) (As := []) (rest := []) ⟨hx, hb, hml, hown, hA⟩ (k_X2_isGot l dC dI dA sz X Γ hU g b5 (p1.toInt).toNat t_b5   ) ⟨callB_of 0 hA (al_A wd_2_67) rfl rfl rfl (hA _ wd_1_15) (hA _ wd_4_37) (by decide +kernel) ⟨Nat.le_of_ble_eq_true rfl, Nat.le_of_ble_eq_true rfl⟩, hA _ wd_2_65, hA _ wd_2_66⟩ ⟨bl, recv_X2 hE hG (by rw [t_b5]), fun U hU9 hW9 => ⟨rfl, by rw [hU9]; exact hG, hE.go hS hU9 hW9⟩⟩ rfl rfl hl.1 rfl (lv_room (Nat.le_of_ble_eq_true rfl)) dX8_of_132 ⟨Nat.zero_le _, Nat.zero_le _⟩) hS (fun x55 u53 H locs w54 hG hS => ?_)
        obtain ⟨eu56, w54⟩ := w54
        rw [eu56] at hG
        rcases pz_or w54 with w54 | w54
        · skip
          refine ty_if_eq (tgt := 148) hx hb dX8_of_135 (by decide) (fun c57 => ?_) (fun c57 => ?_)
          · exfalso; omega
          · skip
            refine lv_aload_n hx hb dX8_of_138 rfl (lv_at hl 0 rfl) ?_
            refine get_X2_9 hx hb hA hown hE hG t_b5 wd_3_43 dX8_of_139 (fun r58 n_r58 t_r58 => ?_)
            refine cI (va_runS (As := [va_rf r58]) (rest := []) ⟨hx, hb, hml, hown, hA⟩ (k_X8_numberOf l dC dI dA sz X Γ hU g (r58) ((g 68 (p1.toInt).toNat)) (And.intro n_r58 t_r58).1 (And.intro n_r58 t_r58).2   ) ⟨callB_of 1 hA (al_A wd_4_36) rfl rfl rfl (hA _ wd_1_1) (hA _ wd_4_34) (by decide +kernel) ⟨Nat.le_of_ble_eq_true rfl, Nat.le_of_ble_eq_true rfl⟩, hA _ wd_4_35⟩ ⟨bl, fun U hU9 hW9 => ⟨rfl, by rw [hU9]; exact hG, hE.go hS hU9 hW9⟩⟩ rfl rfl hl.1 rfl (lv_room (Nat.le_of_ble_eq_true rfl)) dX8_of_142 ⟨Nat.zero_le _, Nat.zero_le _⟩) hS (fun x61 u59 H locs w60 hG hS => ?_)
            obtain ⟨eu62, w60⟩ := w60
            rw [eu62] at hG
            refine lv_goto (tgt := 149) hx hb dX8_of_145 (by decide) ?_
            refine vx_ret ?_
            refine W.widen (k := 1) (n := 6) (by omega) (by omega) ?_
            exact W.iret (v := x61) hx hb hr (fun t ht hW => ⟨⟨x61, g, rfl, rfl, ok1 ht hG⟩, hS.F ht⟩) hS.2.2 dX8_of_149
        · skip
          refine ty_if_eq (tgt := 148) hx hb dX8_of_135 (by decide) (fun c63 => ?_) (fun c63 => ?_)
          · skip
            refine ty_iconst hx hb (-1) dX8_of_148 (by decide) (fun x64 h65 => ?_)
            refine vx_ret ?_
            refine W.widen (k := 1) (n := 6) (by omega) (by omega) ?_
            exact W.iret (v := x64) hx hb hr (fun t ht hW => ⟨⟨x64, g, rfl, rfl, ok1 ht hG⟩, hS.F ht⟩) hS.2.2 dX8_of_149
          · exfalso; omega
  · skip
    obtain rfl : r3 = none := rq_no t_r3 (by omega)
    clear n_r3 t_r3
    refine lv_astore_nN (lv' := [(3, .null), (0, .ref h0), (1, .int p1), (2, .int p2)]) hx hb dX8_of_5 rfl hl (by decide) rfl (fun ls hl => ?_)
    refine lv_aload_nN hx hb dX8_of_6 rfl (lv_at hl 0 rfl) ?_
    refine lv_ifnonnullN hx hb dX8_of_7 ?_
    obtain ⟨sa, hsa⟩ := hE.2.2.2.2.2.2.2.1
    exact cx_throw hx hb hl9 (rx := rx13) (ix := 13) rx13_0 rx13_1 rx13_2 rx13_5 hown (by decide) (by decide) (hA _ wd_4_58) (hA _ wd_1_21) hsa (cx_atoms hA hE.2.2.2.2.2) hE.2.2.2.2.2.1.1 hE.2.2.2.2.2.1.2 hS (hl.1.trans hml.symm) dX8_of_10 dX8_of_13 dX8_of_14 dX8_of_17 dX8_of_20 (fun x hx => (ht0 x hx).elim) (Nat.le_of_ble_eq_true rfl) (Nat.le_of_ble_eq_true rfl) (Nat.le_of_ble_eq_true rfl) (Nat.le_of_ble_eq_true rfl) hlocks (fun t _ z1 z2 => ⟨g, ⟨rfl, trivial⟩, ⟨rfl, ty_grow hG z1 z2⟩, Nat.le_trans hS.1 z1, fun q hq hn => (z2 q (Nat.lt_of_lt_of_le hq hS.1)).trans (hS.2.1 q hq hn)⟩) hS.2.2 (Nat.le_of_ble_eq_true rfl) (Nat.le_of_ble_eq_true rfl)

set_option maxHeartbeats 4000000 in
set_option maxRecDepth 100000 in
/-- the law's own of -/
theorem k_L_of (l : Launch) (hl9 : l.stackTraces = false) (dC : Nat → ClassId) (dI : Nat → Nat → Nat) (dA : Nat → ClassId) (sz : Nat) (X : va_W) (Γ : ty_G) (hU : Un Γ) (g : gh) (h0 : Nat) (t_h0 : ty Γ h0 1) (p1 p2 : Int32) (h3 : Nat) (t_h3 : ty Γ h3 25) (g3 : g 3 0 = g 35 0 ∧ 0 ≤ g 3 0 ∧ g 3 0 ≤ 200) : vx_Met l yL_of (.codeWith yL_of cL_of 5 (some .int) [(0, 10, 13, 13)] :: AL) ({ frames := 7, cells := 1, slots := 6, locals := 105 }) (PCx dC dI dA sz X Γ g [.ref h0, .int p1, .int p2, .ref h3]) (va_Qi (fun (r : Int32) (u : gh) => u = g) (okb dC dI dA sz X Γ) (ty_A sz)) (vx_X (fun (_ : gh) => False) (fun _ _ _ => False) (ty_A sz)) 1 6 (ty_A sz) := by
  refine vx_ofWH (cc := cL_of) (maxL := 5) (ret := some .int) (by decide) rfl ?_
  intro p e s m args below meth c s₁ B hml hv
  obtain ⟨rfl, hG, hE⟩ := hv
  have hx := B.exec
  have hb := B.bytes
  have hr := B.returns
  have hts := atoms_spec B.pre
  have hA : ∀ w ∈ AL, w.before _ s = true := fun w h => hts w (List.mem_cons_of_mem _ h)
  have hown : s.vm.findClass RL = some m.cls := findClass_of_methodNamed B.named
  have hlocks := B.notSynchronized
  have hTb : c.exceptionTable.toList = tableOf [(0, 10, 13, 13)] := vx_table (x := yL_of) B (hts _ List.mem_cons_self)
  have hS : va_S (ty_A sz) s.heap s.heap [] := va_S.rf
  have hl := lv_entry ([.ref h0, .int p1, .int p2, .ref h3]) (n := 5) (Nat.le_of_ble_eq_true rfl)
  rw [lg_entry_eq]
  generalize (lg_sl ([.ref h0, .int p1, .int p2, .ref h3]) ++ List.replicate (5 - (lg_sl ([.ref h0, .int p1, .int p2, .ref h3])).length) Slot.unset).toArray = ls at hl ⊢
  have hl : lv_has ls 5 [(0, .ref h0), (1, .int p1), (2, .int p2), (3, .ref h3)] := hl
  refine lv_aload_n hx hb dL_of_0 rfl (lv_at hl 3 rfl) ?_
  refine ty_iconst hx hb (0) dL_of_1 (by decide) (fun x1 h1 => ?_)
  refine lv_aload_n hx hb dL_of_2 rfl (lv_at hl 0 rfl) ?_
  refine lv_iload_n hx hb dL_of_3 rfl (lv_at hl 1 rfl) ?_
  refine lv_iload_n hx hb dL_of_4 rfl (lv_at hl 2 rfl) ?_
  refine vx_calli (vx_runV (C := RX8) (As := [.int p1, .int p2]) (rest := [.int x1, .ref h3]) ⟨hx, hb, hml, hown, hA⟩ (k_X8_of l dC dI dA sz X Γ hU g hl9 h0 t_h0 p1 p2 g3) ⟨callB_of 2 hA (al_A wd_4_57) rfl rfl rfl (hA _ wd_1_1) (hA _ wd_4_54) (by decide +kernel) ⟨Nat.le_of_ble_eq_true rfl, Nat.le_of_ble_eq_true rfl⟩, hA _ wd_4_55, hA _ wd_4_56⟩ ⟨bl, recv_X8 hE hG t_h0, fun U hU9 hW9 => ⟨rfl, by rw [hU9]; exact hG, hE.go hS hU9 hW9⟩⟩ rfl rfl hl.1 rfl (lv_room (Nat.le_of_ble_eq_true rfl)) dL_of_5 ⟨Nat.le_of_ble_eq_true rfl, Nat.le_of_ble_eq_true rfl⟩) hS (fun _ _ h => h) (fun _ h => h) (fun _ _ h => h) (fun E ce q9 u t H1 locs1 ht _ hp hB _ _ hS hce hcv hcl => ?_) (fun r u t H1 locs1 ht _ hp hB _ _ hS => ?_)
  · obtain ⟨rfl, hG⟩ := hB
    have hG : ty_ok (dC, dI) vwCl Γ (TP dA Γ g) sz X H1 := by rw [← ht, ← hp.1]; exact hG
    refine ct_catch (E := nse) (own := RL) (name := nse) hown _ [] hTb rfl (by decide) (hA _ wd_4_53) (va_Nw.use rfl hE.2.2.2.2.2.2.1.2.2.2) hce hcv hcl ?_
    refine lv_astore (lv' := [(4, .ref q9), (0, .ref h0), (1, .int p1), (2, .int p2), (3, .ref h3)]) hx hb dL_of_13 hl (by decide) rfl (fun ls hl => ?_)
    refine ty_iconst hx hb (1) dL_of_15 (by decide) (fun x2 h2 => ?_)
    refine vx_ret ?_
    refine W.widen (k := 1) (n := 6) (by omega) (by omega) ?_
    exact W.iret (v := x2) hx hb hr (fun t ht hW => ⟨⟨x2, g, rfl, rfl, ok1 ht hG⟩, hS.F ht⟩) hS.2.2 dL_of_16
  · have hG : ty_ok (dC, dI) vwCl Γ (TP dA Γ g) sz X H1 := by rw [← ht, ← (show u = g from hp)]; exact hB
    refine lv_i2l hx hb dL_of_8 rfl ?_
    refine ast_25 hx hb hE hG hS t_h3 (by omega) dL_of_9 (fun H locs hG hS => ?_)
    refine lv_goto (tgt := 17) hx hb dL_of_10 (by decide) ?_
    refine ty_iconst hx hb (0) dL_of_17 (by decide) (fun x2 h2 => ?_)
    refine vx_ret ?_
    refine W.widen (k := 1) (n := 6) (by omega) (by omega) ?_
    exact W.iret (v := x2) hx hb hr (fun t ht hW => ⟨⟨x2, g, rfl, rfl, ok1 ht hG⟩, hS.F ht⟩) hS.2.2 dL_of_18
