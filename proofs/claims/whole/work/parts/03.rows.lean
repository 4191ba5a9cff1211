/-! Rows that every walk uses: the shallow functions' guards, what a method owes, its returns, its calls. -/
theorem ks_bind {α β : Type} {x : Option α} {g : α → Option β} {out : β} (h : x.bind g = some out) : ∃ q, x = some q ∧ g q = some out := Option.bind_eq_some_iff.mp h
theorem ks_guard {α : Type} {c : Prop} [Decidable c] {x : Option α} {out : α} (h : (if c then x else none) = some out) : c ∧ x = some out := by
  by_cases hc : c
  · rw [if_pos hc] at h
    exact ⟨hc, h⟩
  · rw [if_neg hc] at h
    exact absurd h (by simp)
abbrev ks_Rm (f c z w : Nat) : Room := { frames := f, cells := c, slots := z, locals := w }
/-- what a walk stands on: the machine, the method, its words, the world at its start -/
def ks_M (p : Program) (s : State) (m : MethodId) (args : Array Value) (meth : Method) (c : Code) (D : va_G) (cy : Nat → ClassId) (ad : ks_A) (En : Nat → Prop) (gp : Nat → Prop) (n0 : Nat → Prop) (σ0 : ks_S) (o : Int64) (ws : List Cond) (cc : ByteArray) (own : String) (nL : Nat) (ret : Option FieldType) : Prop :=
  p.tables.exec = Jvm.exec ∧ c.code = cc ∧ c.maxLocals = nL ∧ meth.sig.returnType = ret ∧ s.vm.findClass own = some m.cls ∧ (∀ w ∈ ws, w.before args s = true) ∧ meth.locks = false ∧ ks_G ad En n0 ∧ ks_U D cy ad En n0 σ0 o s ∧ ∀ k, gp k → En k
def ks_Qi (D : va_G) (cy : Nat → ClassId) (ad : ks_A) (En : Nat → Prop) (n0 : Nat → Prop) (o : Int64) (out : Int32 × ks_S) : Array Value → State → Outcome → State → Prop := va_Qi (fun (r : Int32) (u : ks_S) => r = out.1 ∧ u = out.2) (fun u t => ks_U D cy ad En n0 u o t) (ks_F n0)
def ks_Qv (D : va_G) (cy : Nat → ClassId) (ad : ks_A) (En : Nat → Prop) (n0 : Nat → Prop) (o : Int64) (out : ks_S) : Array Value → State → Outcome → State → Prop := va_Qv (fun (u : ks_S) => u = out) (fun u t => ks_U D cy ad En n0 u o t) (ks_F n0)
def ks_Qr (D : va_G) (cy : Nat → ClassId) (ad : ks_A) (En : Nat → Prop) (n0 : Nat → Prop) (o : Int64) (k : Nat) (out : (Nat × Nat) × ks_S) : Array Value → State → Outcome → State → Prop := va_Qr (fun (u : ks_S) => u = out.2 ∧ ks_v En k out.1.1 out.1.2) (fun u a t => a = ad k out.1.1 out.1.2 ∧ ks_U D cy ad En n0 u o t) (ks_F n0)
/-- an exception's class by its number -/
def ks_E (n : Nat) : String := if n = 0 then "java/lang/IndexOutOfBoundsException" else if n = 1 then "java/lang/IllegalStateException" else "java/lang/IllegalArgumentException"
/-- of a method that may throw: what it answers, and what it throws -/
def ks_Yi (D : va_G) (cy : Nat → ClassId) (ad : ks_A) (En : Nat → Prop) (n0 : Nat → Prop) (o : Int64) (out : (Nat ⊕ Int32) × ks_S) : Array Value → State → Outcome → State → Prop := va_Qi (fun (r : Int32) (u : ks_S) => out = (.inr r, u)) (fun u t => ks_U D cy ad En n0 u o t) (ks_F n0)
def ks_Yv (D : va_G) (cy : Nat → ClassId) (ad : ks_A) (En : Nat → Prop) (n0 : Nat → Prop) (o : Int64) (out : (Nat ⊕ Unit) × ks_S) : Array Value → State → Outcome → State → Prop := va_Qv (fun (u : ks_S) => out = (.inr (), u)) (fun u t => ks_U D cy ad En n0 u o t) (ks_F n0)
def ks_Yr (D : va_G) (cy : Nat → ClassId) (ad : ks_A) (En : Nat → Prop) (n0 : Nat → Prop) (o : Int64) (k : Nat) (out : (Nat ⊕ (Nat × Nat)) × ks_S) : Array Value → State → Outcome → State → Prop := va_Qr (fun (u : ks_S) => ∃ i j, out = (.inr (i, j), u) ∧ ks_v En k i j) (fun u a t => (∀ i j, out.1 = .inr (i, j) → a = ad k i j) ∧ ks_U D cy ad En n0 u o t) (ks_F n0)
def ks_X {α : Type} (D : va_G) (cy : Nat → ClassId) (ad : ks_A) (En : Nat → Prop) (n0 : Nat → Prop) (o : Int64) (out : (Nat ⊕ α) × ks_S) : String → State → State → Prop := vx_X (fun (u : ks_S) => ∃ n, out = (.inl n, u)) (fun E u t => (∀ n, out.1 = .inl n → E = ks_E n) ∧ ks_U D cy ad En n0 u o t) (ks_F n0)
section KSW
variable {p : Program} {l : Launch} {e : Env} {R : Room} {s : State} {m : MethodId} {args : Array Value} {below : List Frame} {meth : Method} {c : Code} {H : Heap} {locs : List Loc} {cells slots : Nat} {Q : State → Prop}
variable {cc : ByteArray} {pc : Nat} {ls : Array Slot} {rest st0 : List Value} {D : va_G} {cy : Nat → ClassId} {ad : ks_A} {En : Nat → Prop} {gp : Nat → Prop} {n0 : Nat → Prop} {σ0 σ : ks_S} {o : Int64} {ws : List Cond} {own : String} {nL : Nat} {a : Array Value}
theorem ks_iret {x : Int32} {out : Int32 × ks_S} (C : ks_M p s m args meth c D cy ad En gp n0 σ0 o ws cc own nL (some .int)) (hf : some (x, σ) = some out) (hW : ks_W D cy ad En σ o H) (hS : va_S (ks_F n0) s.heap H locs) (hdg : decode cc pc = .ok (.ireturn, 1)) : W p l e R s m args below meth c H locs cells slots (MQ below (ks_Qi D cy ad En n0 o out) args s cells slots (ks_F n0)) (F0 m pc ls [.int x]) := by
  obtain ⟨hx, hb, -, hr, -, -, hlocks, -, hU, -⟩ := C
  cases hf
  exact W.iret (v := x) hx hb hr (fun t ht hWm => ⟨⟨x, σ, rfl, ⟨rfl, rfl⟩, hU.now hS hW hWm.alike ht⟩, hS.F ht⟩) hS.2.2 hdg
theorem ks_zret {x : Int32} {out : Int32 × ks_S} (C : ks_M p s m args meth c D cy ad En gp n0 σ0 o ws cc own nL (some .boolean)) (hn : narrow .boolean (.int x) = .int x) (hf : some (x, σ) = some out) (hW : ks_W D cy ad En σ o H) (hS : va_S (ks_F n0) s.heap H locs) (hdg : decode cc pc = .ok (.ireturn, 1)) : W p l e R s m args below meth c H locs cells slots (MQ below (ks_Qi D cy ad En n0 o out) args s cells slots (ks_F n0)) (F0 m pc ls [.int x]) := by
  obtain ⟨hx, hb, -, hr, -, -, hlocks, -, hU, -⟩ := C
  cases hf
  exact W.zret (v := x) hx hb hr hn (fun t ht hWm => ⟨⟨x, σ, rfl, ⟨rfl, rfl⟩, hU.now hS hW hWm.alike ht⟩, hS.F ht⟩) hS.2.2 hdg
theorem ks_vret {out : ks_S} (C : ks_M p s m args meth c D cy ad En gp n0 σ0 o ws cc own nL none) (hf : some σ = some out) (hW : ks_W D cy ad En σ o H) (hS : va_S (ks_F n0) s.heap H locs) (hdg : decode cc pc = .ok (.return_, 1)) : W p l e R s m args below meth c H locs cells slots (MQ below (ks_Qv D cy ad En n0 o out) args s cells slots (ks_F n0)) (F0 m pc ls []) := by
  obtain ⟨hx, hb, -, hr, -, -, hlocks, -, hU, -⟩ := C
  cases hf
  exact W.vret hx hb hr (fun t ht hWm => ⟨⟨σ, rfl, rfl, hU.now hS hW hWm.alike ht⟩, hS.F ht⟩) hS.2.2 hdg
theorem ks_aret {k i j : Nat} {nm : String} {out : (Nat × Nat) × ks_S} (C : ks_M p s m args meth c D cy ad En gp n0 σ0 o ws cc own nL (some (.object nm))) (hv : ks_v En k i j) (hf : some ((i, j), σ) = some out) (hW : ks_W D cy ad En σ o H) (hS : va_S (ks_F n0) s.heap H locs) (hdg : decode cc pc = .ok (.areturn, 1)) : W p l e R s m args below meth c H locs cells slots (MQ below (ks_Qr D cy ad En n0 o k out) args s cells slots (ks_F n0)) (F0 m pc ls [.ref (ad k i j)]) := by
  obtain ⟨hx, hb, -, hr, -, -, hlocks, -, hU, -⟩ := C
  cases hf
  exact W.aret (v := .ref (ad k i j)) hx hb hr (Or.inl ⟨_, rfl⟩) (Or.inr ⟨_, rfl⟩) (fun t ht hWm => ⟨⟨σ, ad k i j, rfl, ⟨rfl, hv⟩, rfl, hU.now hS hW hWm.alike ht⟩, hS.F ht⟩) hS.2.2 hdg
/-- the same for a method that may throw -/
theorem ks_yiret {x : Int32} {mc ms : Nat} {out : (Nat ⊕ Int32) × ks_S} (hc : cells ≤ mc) (hz : slots ≤ ms) (C : ks_M p s m args meth c D cy ad En gp n0 σ0 o ws cc own nL (some .int)) (hf : some (.inr x, σ) = some out) (hW : ks_W D cy ad En σ o H) (hS : va_S (ks_F n0) s.heap H locs) (hdg : decode cc pc = .ok (.ireturn, 1)) : W p l e R s m args below meth c H locs cells slots (vx_MQ below (ks_Yi D cy ad En n0 o out) (ks_X D cy ad En n0 o out) args s mc ms (ks_F n0)) (F0 m pc ls [.int x]) := by
  obtain ⟨hx, hb, -, hr, -, -, hlocks, -, hU, -⟩ := C
  cases hf
  refine W.widen (k := mc) (n := ms) hc hz ?_
  exact vx_ret (W.iret (v := x) hx hb hr (fun t ht hWm => ⟨⟨x, σ, rfl, rfl, hU.now hS hW hWm.alike ht⟩, hS.F ht⟩) hS.2.2 hdg)
theorem ks_yzret {x : Int32} {mc ms : Nat} {out : (Nat ⊕ Int32) × ks_S} (hc : cells ≤ mc) (hz : slots ≤ ms) (C : ks_M p s m args meth c D cy ad En gp n0 σ0 o ws cc own nL (some .boolean)) (hn : narrow .boolean (.int x) = .int x) (hf : some (.inr x, σ) = some out) (hW : ks_W D cy ad En σ o H) (hS : va_S (ks_F n0) s.heap H locs) (hdg : decode cc pc = .ok (.ireturn, 1)) : W p l e R s m args below meth c H locs cells slots (vx_MQ below (ks_Yi D cy ad En n0 o out) (ks_X D cy ad En n0 o out) args s mc ms (ks_F n0)) (F0 m pc ls [.int x]) := by
  obtain ⟨hx, hb, -, hr, -, -, hlocks, -, hU, -⟩ := C
  cases hf
  refine W.widen (k := mc) (n := ms) hc hz ?_
  exact vx_ret (W.zret (v := x) hx hb hr hn (fun t ht hWm => ⟨⟨x, σ, rfl, rfl, hU.now hS hW hWm.alike ht⟩, hS.F ht⟩) hS.2.2 hdg)
theorem ks_yvret {mc ms : Nat} {out : (Nat ⊕ Unit) × ks_S} (hc : cells ≤ mc) (hz : slots ≤ ms) (C : ks_M p s m args meth c D cy ad En gp n0 σ0 o ws cc own nL none) (hf : some (.inr (), σ) = some out) (hW : ks_W D cy ad En σ o H) (hS : va_S (ks_F n0) s.heap H locs) (hdg : decode cc pc = .ok (.return_, 1)) : W p l e R s m args below meth c H locs cells slots (vx_MQ below (ks_Yv D cy ad En n0 o out) (ks_X D cy ad En n0 o out) args s mc ms (ks_F n0)) (F0 m pc ls []) := by
  obtain ⟨hx, hb, -, hr, -, -, hlocks, -, hU, -⟩ := C
  cases hf
  refine W.widen (k := mc) (n := ms) hc hz ?_
  exact vx_ret (W.vret hx hb hr (fun t ht hWm => ⟨⟨σ, rfl, rfl, hU.now hS hW hWm.alike ht⟩, hS.F ht⟩) hS.2.2 hdg)
theorem ks_yaret {k i j : Nat} {nm : String} {mc ms : Nat} {out : (Nat ⊕ (Nat × Nat)) × ks_S} (hc : cells ≤ mc) (hz : slots ≤ ms) (C : ks_M p s m args meth c D cy ad En gp n0 σ0 o ws cc own nL (some (.object nm))) (hv : ks_v En k i j) (hf : some (.inr (i, j), σ) = some out) (hW : ks_W D cy ad En σ o H) (hS : va_S (ks_F n0) s.heap H locs) (hdg : decode cc pc = .ok (.areturn, 1)) : W p l e R s m args below meth c H locs cells slots (vx_MQ below (ks_Yr D cy ad En n0 o k out) (ks_X D cy ad En n0 o out) args s mc ms (ks_F n0)) (F0 m pc ls [.ref (ad k i j)]) := by
  obtain ⟨hx, hb, -, hr, -, -, hlocks, -, hU, -⟩ := C
  cases hf
  refine W.widen (k := mc) (n := ms) hc hz ?_
  exact vx_ret (W.aret (v := .ref (ad k i j)) hx hb hr (Or.inl ⟨_, rfl⟩) (Or.inr ⟨_, rfl⟩) (fun t ht hWm => ⟨⟨σ, ad k i j, rfl, ⟨i, j, rfl, hv⟩, (fun i' j' q => by cases q; rfl), hU.now hS hW hWm.alike ht⟩, hS.F ht⟩) hS.2.2 hdg)
/-- behind a call -/
theorem ks_calli {x : Int32} {σ1 : ks_S} (hr : va_Run p l e R s m args below meth c H locs cells slots 0 0 (F0 m pc ls st0) rest (ks_Qi D cy ad En n0 o (x, σ1) a) (ks_F n0)) (hS : va_S (ks_F n0) s.heap H locs)
    (kk : ∀ (H1 : Heap) (locs1 : List Loc), ks_W D cy ad En σ1 o H1 → va_S (ks_F n0) s.heap H1 locs1 → W p l e R s m args below meth c H1 locs1 cells slots Q (F0 m (pc + 3) ls (.int x :: rest))) : W p l e R s m args below meth c H locs cells slots Q (F0 m pc ls st0) := by
  refine va_calli hr hS (fun q _ h => h) (fun q h => h) (fun r u t H1 locs1 ht hvm hw hB hz1 hk1 hS1 => ?_)
  obtain ⟨rfl, rfl⟩ : r = x ∧ u = σ1 := hw
  exact kk H1 locs1 (hB.W ht) hS1
theorem ks_callv {σ1 : ks_S} (hr : va_Run p l e R s m args below meth c H locs cells slots 0 0 (F0 m pc ls st0) rest (ks_Qv D cy ad En n0 o σ1 a) (ks_F n0)) (hS : va_S (ks_F n0) s.heap H locs)
    (kk : ∀ (H1 : Heap) (locs1 : List Loc), ks_W D cy ad En σ1 o H1 → va_S (ks_F n0) s.heap H1 locs1 → W p l e R s m args below meth c H1 locs1 cells slots Q (F0 m (pc + 3) ls rest)) : W p l e R s m args below meth c H locs cells slots Q (F0 m pc ls st0) := by
  refine va_callv hr hS (fun q _ h => h) (fun q h => h) (fun u t H1 locs1 ht hvm hw hB hz1 hk1 hS1 => ?_)
  have hw' : u = σ1 := hw
  subst hw'
  exact kk H1 locs1 (hB.W ht) hS1
theorem ks_callr {k i j : Nat} {σ1 : ks_S} (hr : va_Run p l e R s m args below meth c H locs cells slots 0 0 (F0 m pc ls st0) rest (ks_Qr D cy ad En n0 o k ((i, j), σ1) a) (ks_F n0)) (hS : va_S (ks_F n0) s.heap H locs)
    (kk : ∀ (H1 : Heap) (locs1 : List Loc), ks_v En k i j → ks_W D cy ad En σ1 o H1 → va_S (ks_F n0) s.heap H1 locs1 → W p l e R s m args below meth c H1 locs1 cells slots Q (F0 m (pc + 3) ls (.ref (ad k i j) :: rest))) : W p l e R s m args below meth c H locs cells slots Q (F0 m pc ls st0) := by
  refine va_callr hr hS (fun q _ h => h) (fun q h => h) (fun u ra t H1 locs1 ht hvm hw hB hz1 hk1 hS1 => ?_)
  obtain ⟨h1, h2⟩ : u = σ1 ∧ ks_v En k i j := hw
  obtain ⟨h3, h4⟩ : ra = ad k i j ∧ ks_U D cy ad En n0 u o t := hB
  subst h1; subst h3
  exact kk H1 locs1 h2 (h4.W ht) hS1
end KSW
