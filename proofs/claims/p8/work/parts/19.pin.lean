/-! ===== an object's fields, read more than once in one heap ===== -/
theorem vp_at {fs : List Value} {N k : Nat} {v : Value} (hl : fs.length = N) (hk : k < N) (e : vp_V fs k = v) : fs[k]? = some v := by
  subst e; simp [vp_V, hl, hk]
section PIN
variable {p : Program} {l : Launch} {e : Env} {R : Room} {s : State} {m : MethodId} {args : Array Value} {below : List Frame} {meth : Method} {c : Code} {H : Heap} {locs : List Loc} {cells slots : Nat} {Q : State → Prop} {cc : ByteArray} {pc : Nat} {ls : Array Slot} {rest : List Value} {dC : Nat → ClassId} {dI : Nat → Nat → Nat} {dA : Nat → ClassId} {sz : Nat} {X : va_W} {Γ : ty_G} {g : gh} {a : Nat}
theorem pin_X2 (hG : ty_ok (dC, dI) vwCl Γ (TP dA Γ g) sz X H) (ha : (Γ a).1 = 4) : ∃ fs : List Value, va_at (dC, dI) vwCl (a, .inr (2, fs)) H ∧ fs.length = 10 ∧ ∀ k, k < 10 → F2 Γ k (vp_V fs k) := by
  obtain ⟨-, x, h2, h3⟩ := hG.2.1 a (by rw [ha]; decide)
  rw [TP_4 ha] at h3
  obtain ⟨fs, rfl, hl, hF⟩ := h3
  exact ⟨fs, h2, hl, hF⟩
theorem pin_X3 (hG : ty_ok (dC, dI) vwCl Γ (TP dA Γ g) sz X H) (ha : (Γ a).1 = 3) : ∃ fs : List Value, va_at (dC, dI) vwCl (a, .inr (3, fs)) H ∧ fs.length = 8 ∧ ∀ k, k < 8 → F3 Γ k (vp_V fs k) := by
  obtain ⟨-, x, h2, h3⟩ := hG.2.1 a (by rw [ha]; decide)
  rw [TP_3 ha] at h3
  obtain ⟨fs, rfl, hl, hF⟩ := h3
  exact ⟨fs, h2, hl, hF⟩
theorem gep_X2 {fs : List Value} (hx : p.tables.exec = Jvm.exec) (hb : c.code = cc) (hA : ∀ w ∈ AL, w.before args s = true) (hE : en dC dI dA sz s) (hat : va_at (dC, dI) vwCl (a, .inr (2, fs)) H) {own : String} {index : Nat} (hown : s.vm.findClass own = some m.cls) (k : Nat) (hk : k < 10) (hl : Cond.fieldLink own index "WeekBank$Gift" (TX2 k).2.1 (TX2 k).2.2.1 ∈ AL) (hrf : (TX2 k).1 = "WeekBank$Gift") (v : Value) (hv : fs[k]? = some v) (hdg : decode cc pc = .ok (.getfield index, 3)) (kk : W p l e R s m args below meth c H locs cells slots Q (F0 m (pc + 3) ls (v :: rest))) : W p l e R s m args below meth c H locs cells slots Q (F0 m pc ls (.ref a :: rest)) :=
  va_get (C := RX2) (T := TX2) (N := 10) (ci := 2) hx hb hA in_X2 hown hE.1 (ty_one hat) 0 rfl rfl k hk (hA _ hl) (fun x h => by rw [← hrf]; exact h) hv hdg kk
theorem gep_X3 {fs : List Value} (hx : p.tables.exec = Jvm.exec) (hb : c.code = cc) (hA : ∀ w ∈ AL, w.before args s = true) (hE : en dC dI dA sz s) (hat : va_at (dC, dI) vwCl (a, .inr (3, fs)) H) {own : String} {index : Nat} (hown : s.vm.findClass own = some m.cls) (k : Nat) (hk : k < 8) (hl : Cond.fieldLink own index "WeekBank$Owner" (TX3 k).2.1 (TX3 k).2.2.1 ∈ AL) (hrf : (TX3 k).1 = "WeekBank$Owner") (v : Value) (hv : fs[k]? = some v) (hdg : decode cc pc = .ok (.getfield index, 3)) (kk : W p l e R s m args below meth c H locs cells slots Q (F0 m (pc + 3) ls (v :: rest))) : W p l e R s m args below meth c H locs cells slots Q (F0 m pc ls (.ref a :: rest)) :=
  va_get (C := RX3) (T := TX3) (N := 8) (ci := 3) hx hb hA in_X3 hown hE.1 (ty_one hat) 0 rfl rfl k hk (hA _ hl) (fun x h => by rw [← hrf]; exact h) hv hdg kk
end PIN
