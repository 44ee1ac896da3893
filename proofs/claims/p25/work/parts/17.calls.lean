theorem al_A {d : Cond} (h : d ∈ AL) : GoodIn AL (d :: AL) := fun w hw => (List.mem_cons.mp hw).elim (fun e => ⟨e ▸ h, good_of_word (List.mem_filter.mp (e ▸ h)).2⟩) (fun h => ⟨h, good_of_word (List.mem_filter.mp h).2⟩)
theorem ty_inc {x y : Int32} {n k : Int} (e : y = x + Int32.ofInt n) (hn : (Int32.ofInt n).toInt = k) (h1 : -2147483648 ≤ x.toInt + k) (h2 : x.toInt + k < 2147483648) : y.toInt = x.toInt + k := by
  have := ty_add e (by rw [hn]; exact h1) (by rw [hn]; exact h2)
  rw [hn] at this; exact this
theorem ty_mulr {x y z : Int32} {k : Int} (e : z = x * y) (hy : y.toInt = k) (h1 : -2147483648 ≤ x.toInt * k) (h2 : x.toInt * k < 2147483648) : z.toInt = x.toInt * k := by
  have := ty_mul e (by rw [hy]; exact h1) (by rw [hy]; exact h2)
  rw [hy] at this; exact this
theorem ty_mull {x y z : Int32} {k : Int} (e : z = x * y) (hx : x.toInt = k) (h1 : -2147483648 ≤ k * y.toInt) (h2 : k * y.toInt < 2147483648) : z.toInt = k * y.toInt := by
  have := ty_mul e (by rw [hx]; exact h1) (by rw [hx]; exact h2)
  rw [hx] at this; exact this
section CALLS
variable {p : Program} {l : Launch} {e : Env} {R : Room} {s : State} {m : MethodId} {args : Array Value} {below : List Frame} {meth : Method} {c : Code} {H : Heap} {locs : List Loc} {cells slots : Nat} {Q : State → Prop}
variable {cc : ByteArray} {pc : Nat} {ls : Array Slot} {rest : List Value} {dC : Nat → ClassId} {dI : Nat → Nat → Nat} {dA : Nat → ClassId}  {H0 : Heap} {sz : Nat} {X : va_W} {Γ : ty_G} {g : gh}
abbrev PCx (dC : Nat → ClassId) (dI : Nat → Nat → Nat) (dA : Nat → ClassId) (sz : Nat) (X : va_W) (Γ : ty_G) (g : gh) (av : List Value) : Array Value → State → Prop := va_Pc av (fun U => ty_ok (dC, dI) vwCl Γ (TP dA Γ g) sz X U.heap ∧ en dC dI dA sz U)
abbrev okb (dC : Nat → ClassId) (dI : Nat → Nat → Nat) (dA : Nat → ClassId) (sz : Nat) (X : va_W) (Γ : ty_G) : gh → State → Prop := fun u t => ty_ok (dC, dI) vwCl Γ (TP dA Γ u) sz X t.heap
abbrev okB (dC : Nat → ClassId) (dI : Nat → Nat → Nat) (dA : Nat → ClassId) (sz : Nat) (X : va_W) : ty_G × gh → State → Prop := fun u t => ty_ok (dC, dI) vwCl u.1 (TP dA u.1 u.2) sz X t.heap
theorem bl {av : List Value} : FrameBlind (PCx dC dI dA sz X Γ g av) := fun a U gg mk h => ⟨h.1, h.2.1, h.2.2.blind gg mk a⟩
theorem ok1 {t : State} (ht : t.heap = H) (h : ty_ok (dC, dI) vwCl Γ (TP dA Γ g) sz X H) : okb dC dI dA sz X Γ g t := by subst ht; exact h
theorem ok2 {t : State} (ht : t.heap = H) (h : ty_ok (dC, dI) vwCl Γ (TP dA Γ g) sz X H) : okB dC dI dA sz X (Γ, g) t := by subst ht; exact h
variable {rest' st0 : List Value} {a : Array Value} {mc ms : Nat}
theorem cI {post : Int32 → (gh) → Prop} (hr : va_Run p l e R s m args below meth c H locs cells slots mc ms (F0 m pc ls st0) rest (va_Qi post (okb dC dI dA sz X Γ) (ty_A sz) a) (ty_A sz)) (hS : va_S (ty_A sz) H0 H locs)
    (kk : ∀ (r : Int32) (u : gh) (H1 : Heap) (locs1 : List Loc), post r u → ty_ok (dC, dI) vwCl Γ (TP dA Γ u) sz X H1 → va_S (ty_A sz) H0 H1 locs1 → W p l e R s m args below meth c H1 locs1 (cells + mc) (slots + ms) Q (F0 m (pc + 3) ls (.int r :: rest))) : W p l e R s m args below meth c H locs cells slots Q (F0 m pc ls st0) :=
  va_calli hr hS (fun _ _ h => h) (fun _ h => h) (fun r u t H1 locs1 ht _ hw hB _ _ hS1 => kk r u H1 locs1 hw (by rw [← ht]; exact hB) hS1)
theorem cIB {post : Int32 → (ty_G × gh) → Prop} (hr : va_Run p l e R s m args below meth c H locs cells slots mc ms (F0 m pc ls st0) rest (va_Qi post (okB dC dI dA sz X) (ty_A sz) a) (ty_A sz)) (hS : va_S (ty_A sz) H0 H locs)
    (kk : ∀ (r : Int32) (u : ty_G × gh) (H1 : Heap) (locs1 : List Loc), post r u → ty_ok (dC, dI) vwCl u.1 (TP dA u.1 u.2) sz X H1 → va_S (ty_A sz) H0 H1 locs1 → W p l e R s m args below meth c H1 locs1 (cells + mc) (slots + ms) Q (F0 m (pc + 3) ls (.int r :: rest))) : W p l e R s m args below meth c H locs cells slots Q (F0 m pc ls st0) :=
  va_calli hr hS (fun _ _ h => h) (fun _ h => h) (fun r u t H1 locs1 ht _ hw hB _ _ hS1 => kk r u H1 locs1 hw (by rw [← ht]; exact hB) hS1)
theorem cV {post : (gh) → Prop} (hr : va_Run p l e R s m args below meth c H locs cells slots mc ms (F0 m pc ls st0) rest (va_Qv post (okb dC dI dA sz X Γ) (ty_A sz) a) (ty_A sz)) (hS : va_S (ty_A sz) H0 H locs)
    (kk : ∀ (u : gh) (H1 : Heap) (locs1 : List Loc), post u → ty_ok (dC, dI) vwCl Γ (TP dA Γ u) sz X H1 → va_S (ty_A sz) H0 H1 locs1 → W p l e R s m args below meth c H1 locs1 (cells + mc) (slots + ms) Q (F0 m (pc + 3) ls (rest))) : W p l e R s m args below meth c H locs cells slots Q (F0 m pc ls st0) :=
  va_callv hr hS (fun _ _ h => h) (fun _ h => h) (fun u t H1 locs1 ht _ hw hB _ _ hS1 => kk u H1 locs1 hw (by rw [← ht]; exact hB) hS1)
theorem cVB {post : (ty_G × gh) → Prop} (hr : va_Run p l e R s m args below meth c H locs cells slots mc ms (F0 m pc ls st0) rest (va_Qv post (okB dC dI dA sz X) (ty_A sz) a) (ty_A sz)) (hS : va_S (ty_A sz) H0 H locs)
    (kk : ∀ (u : ty_G × gh) (H1 : Heap) (locs1 : List Loc), post u → ty_ok (dC, dI) vwCl u.1 (TP dA u.1 u.2) sz X H1 → va_S (ty_A sz) H0 H1 locs1 → W p l e R s m args below meth c H1 locs1 (cells + mc) (slots + ms) Q (F0 m (pc + 3) ls (rest))) : W p l e R s m args below meth c H locs cells slots Q (F0 m pc ls st0) :=
  va_callv hr hS (fun _ _ h => h) (fun _ h => h) (fun u t H1 locs1 ht _ hw hB _ _ hS1 => kk u H1 locs1 hw (by rw [← ht]; exact hB) hS1)
theorem cQ {post : Option Nat → (gh) → Prop} (hr : va_Run p l e R s m args below meth c H locs cells slots mc ms (F0 m pc ls st0) rest (va_Qq post (okb dC dI dA sz X Γ) (ty_A sz) a) (ty_A sz)) (hS : va_S (ty_A sz) H0 H locs)
    (kk : ∀ (r : Option Nat) (u : gh) (H1 : Heap) (locs1 : List Loc), post r u → ty_ok (dC, dI) vwCl Γ (TP dA Γ u) sz X H1 → va_S (ty_A sz) H0 H1 locs1 → W p l e R s m args below meth c H1 locs1 (cells + mc) (slots + ms) Q (F0 m (pc + 3) ls (va_rf r :: rest))) : W p l e R s m args below meth c H locs cells slots Q (F0 m pc ls st0) :=
  va_callq hr hS (fun _ _ h => h) (fun _ h => h) (fun r u t H1 locs1 ht _ hw hB _ _ hS1 => kk r u H1 locs1 hw (by rw [← ht]; exact hB) hS1)
theorem cQB {post : Option Nat → (ty_G × gh) → Prop} (hr : va_Run p l e R s m args below meth c H locs cells slots mc ms (F0 m pc ls st0) rest (va_Qq post (okB dC dI dA sz X) (ty_A sz) a) (ty_A sz)) (hS : va_S (ty_A sz) H0 H locs)
    (kk : ∀ (r : Option Nat) (u : ty_G × gh) (H1 : Heap) (locs1 : List Loc), post r u → ty_ok (dC, dI) vwCl u.1 (TP dA u.1 u.2) sz X H1 → va_S (ty_A sz) H0 H1 locs1 → W p l e R s m args below meth c H1 locs1 (cells + mc) (slots + ms) Q (F0 m (pc + 3) ls (va_rf r :: rest))) : W p l e R s m args below meth c H locs cells slots Q (F0 m pc ls st0) :=
  va_callq hr hS (fun _ _ h => h) (fun _ h => h) (fun r u t H1 locs1 ht _ hw hB _ _ hS1 => kk r u H1 locs1 hw (by rw [← ht]; exact hB) hS1)
end CALLS
