/-! Rows for the law and its wrappers: the world with the law's long array, a caught throw, a call that never throws. -/
def ks_nc : List (String × String) := [("java/lang/IllegalStateException", "java/lang/IndexOutOfBoundsException"), ("java/lang/IllegalArgumentException", "java/lang/IndexOutOfBoundsException"), ("java/lang/IllegalArgumentException", "java/lang/IllegalStateException")]
def ks_NC (U : State) : Prop := ∀ q ∈ ks_nc, va_Nc q.1 q.2 U
theorem ks_NC.moved {u U : State} (hvm : u.vm.Alike U.vm) (h : ks_NC u) : ks_NC U := fun q hq => va_Nc.moved hvm (h q hq)
def ks_UL (D : va_G) (cy : Nat → ClassId) (ad : ks_A) (En : Nat → Prop) (n0 : Nat → Prop) (σ : ks_S) (o : Int64) (U : State) : Prop := ks_U D cy ad En n0 σ o U ∧ ks_N n0 U ∧ ks_NC U
theorem ks_UL.blind {D : va_G} {cy : Nat → ClassId} {ad : ks_A} {En : Nat → Prop} {n0 : Nat → Prop} {σ : ks_S} {o : Int64} {av : List Value} : FrameBlind (va_Pc av (ks_UL D cy ad En n0 σ o)) := fun a U g mk q => ⟨q.1, ks_U.moved (u := U) (U := U.calling g mk a) (Vm.Alike.refl U.vm) rfl q.2.1, ks_N.moved (u := U) (U := U.calling g mk a) (Vm.Alike.refl U.vm) rfl q.2.2.1, ks_NC.moved (u := U) (U := U.calling g mk a) (Vm.Alike.refl U.vm) q.2.2.2⟩
/-- the world where a walk is, by what its start says of the tables alone -/
theorem ks_at {D : va_G} {cy : Nat → ClassId} {ad : ks_A} {En : Nat → Prop} {n0 : Nat → Prop} {σ : ks_S} {o : Int64} {s t : State} {H : Heap} {locs : List Loc} (h1 : True) (hK : va_K D vwCl (ks_t cy) s) (hS : va_S (ks_F n0) s.heap H locs) (hW : ks_W D cy ad En σ o H) (hvm : s.vm.Alike t.vm) (ht : t.heap = H) : ks_U D cy ad En n0 σ o t := ⟨trivial, by rw [ht]; exact hW, va_K.moved hvm hK⟩
def ks_Li (D : va_G) (cy : Nat → ClassId) (ad : ks_A) (En : Nat → Prop) (n0 : Nat → Prop) (out : Int32 × (ks_S × Int64)) : Array Value → State → Outcome → State → Prop := va_Qi (fun (r : Int32) (u : ks_S × Int64) => r = out.1 ∧ u = out.2) (fun u t => ks_U D cy ad En n0 u.1 u.2 t) (ks_F n0)
def ks_LX (n0 : Nat → Prop) : String → State → State → Prop := vx_X (fun _ : Unit => False) (fun _ _ _ => True) (ks_F n0)
section KSL
variable {p : Program} {l : Launch} {e : Env} {R : Room} {s : State} {m : MethodId} {args : Array Value} {below : List Frame} {meth : Method} {c : Code} {H : Heap} {locs : List Loc} {cells slots : Nat} {Q : State → Prop}
variable {cc : ByteArray} {pc : Nat} {ls : Array Slot} {rest st0 : List Value} {D : va_G} {cy : Nat → ClassId} {ad : ks_A} {En : Nat → Prop} {n0 : Nat → Prop} {σ : ks_S} {o : Int64} {own : String} {nL : Nat} {a : Array Value} {mc ms : Nat}
theorem ks_last {H0 : Heap} (hexec : p.tables.exec = Jvm.exec) (hb : c.code = cc) (hK : va_K D vwCl (ks_t cy) s) (hG : ks_G ad En n0) (hW : ks_W D cy ad En σ o H) (hS0 : va_S (ks_F n0) H0 H locs) (he : En 45) {y : Int64} (hdg : decode cc pc = .ok (.lastore, 1))
    (kk : ∀ (H1 : Heap) (locs1 : List Loc), ks_W D cy ad En σ y H1 → va_S (ks_F n0) H0 H1 locs1 → W p l e R s m args below meth c H1 locs1 cells slots Q (F0 m (pc + 1) ls rest)) : W p l e R s m args below meth c H locs cells slots Q (F0 m pc ls (.long y :: .int 0 :: .ref (ad 45 0 0) :: rest)) := by
  have h0 := hW 45 0 0 (ks_v45 (i := 0) (j := 0) he)
  rw [ks_c45] at h0
  have h0' : H[ad 45 0 0]? = some (vp_cell (cy 2) (1, .inr (.inl (fun _ => o)))) := h0
  refine W.last hexec hb h0' ((hK.2 2 _ rfl).1 1 (fun _ => .long o)) (fun q => by cases q) (by show ¬ ((0 : Int32) < 0 ∨ (arrV _ _ _).slots.size ≤ _); rw [arrV_size]; exact (by decide : ¬ ((0 : Int32) < 0 ∨ 1 ≤ (0 : Int32).toNatClampNeg))) rfl rfl hdg fun H1 e z oq => ?_
  refine kk H1 _ (hW.out hG he ?_ oq) (hS0.put z oq (hG.1 45 0 0 (ks_v45 (i := 0) (j := 0) he)))
  rw [ks_c45]
  show H1[ad 45 0 0]? = some (vp_cell _ _)
  rw [e]
  rw [vp_cell_l, vp_cell_l, arrV_store]
  show some (arrV (cy 2) 1 _) = some (arrV (cy 2) 1 _)
  unfold arrV
  congr 3
  funext q
  have hq : q.val = 0 := by have := q.isLt; omega
  simp [updV, hq]
theorem ks_lald {H0 : Heap} (hexec : p.tables.exec = Jvm.exec) (hb : c.code = cc) (hK : va_K D vwCl (ks_t cy) s) (hW : ks_W D cy ad En σ o H) (he : En 45) (hdg : decode cc pc = .ok (.laload, 1))
    (kk : W p l e R s m args below meth c H locs cells slots Q (F0 m (pc + 1) ls (.long o :: rest))) : W p l e R s m args below meth c H locs cells slots Q (F0 m pc ls (.int 0 :: .ref (ad 45 0 0) :: rest)) :=
  va_lald (f := fun _ => o) (n := 1) hexec hb hK (ks_P1 hW (ks_v45 (i := 0) (j := 0) he) (ks_c45 cy ad o 0 0 _)) 0 2 rfl rfl (ks_in_vp (by decide)) hdg kk
theorem ks_lret {x : Int32} {out : Int32 × (ks_S × Int64)} (hx : p.tables.exec = Jvm.exec) (hb : c.code = cc) (hr : meth.sig.returnType = some .int) (hlocks : meth.locks = false) (h1 : True) (hK : va_K D vwCl (ks_t cy) s) (hc : cells ≤ mc) (hz : slots ≤ ms) (hf : some (x, (σ, o)) = some out) (hW : ks_W D cy ad En σ o H) (hS : va_S (ks_F n0) s.heap H locs) (hdg : decode cc pc = .ok (.ireturn, 1)) : W p l e R s m args below meth c H locs cells slots (vx_MQ below (ks_Li D cy ad En n0 out) (ks_LX n0) args s mc ms (ks_F n0)) (F0 m pc ls [.int x]) := by
  cases hf
  refine W.widen (k := mc) (n := ms) hc hz ?_
  exact vx_ret (W.iret (v := x) hx hb hr (fun t ht hWm => ⟨⟨x, (σ, o), rfl, ⟨rfl, rfl⟩, ks_at h1 hK hS hW hWm.alike ht⟩, hS.F ht⟩) hS.2.2 hdg)
/-- a call that threw, and is caught here -/
theorem ks_xcatch {α : Type} {n : Nat} {σ1 : ks_S} {kc kz : Nat} {Qa : State → Outcome → State → Prop} (hr : vx_Run p l e R s m args below meth c H locs cells slots kc kz (F0 m pc ls st0) rest Qa (ks_X D cy ad En n0 o ((.inl n, σ1) : (Nat ⊕ α) × ks_S)) (ks_F n0)) (hno : ∀ st v t, ¬ Qa st (.returned v) t) (hS : va_S (ks_F n0) s.heap H locs)
    (kk : ∀ (H1 : Heap) (locs1 : List Loc) (ce : Cell) (q9 : Addr), ks_W D cy ad En σ1 o H1 → va_S (ks_F n0) s.heap H1 locs1 → H1[q9]? = some ce → ce.vm = .none → s.vm.findClass (ks_E n) = some ce.cls → vx_W p l e R s m args below meth c H1 locs1 (cells + kc) (slots + kz) Q (F0 m pc ls rest) q9) : W p l e R s m args below meth c H locs cells slots Q (F0 m pc ls st0) := by
  intro T hT X
  rcases hr T hT X with ⟨v, st₀, t, T', L, h0, X', hL, e1, e2, hq, st⟩ | ⟨q, st₀, t, T', L, E, ce, h0, X', hL, e1, e2, ⟨u, ⟨n', hp⟩, ⟨hE, hb'⟩, hF⟩, hce, hcv, hcl, st⟩
  · exact absurd hq (hno _ _ _)
  · cases hp
    obtain ⟨k1, k2, k3⟩ := vx_keep (A1 := ks_F n0) h0 e1 hS (fun q _ h => h) (fun q h => h) hL hF
    obtain ⟨t2, a1, b1⟩ := kk T'.heap (locs ++ L) ce q (hb'.W e1.symm) k3 (by rw [e1]; exact hce) hcv (by rw [← hE n rfl]; exact hcl) T' rfl X'
    exact ⟨t2, st.trans a1, b1⟩
/-- a wrapper's call -/
theorem ks_lcall {x : Int32} {σ1 : ks_S} {o1 : Int64} {kc kz : Nat} (hr : vx_Run p l e R s m args below meth c H locs cells slots kc kz (F0 m pc ls st0) rest (ks_Li D cy ad En n0 (x, (σ1, o1)) a) (ks_LX n0) (ks_F n0)) (hS : va_S (ks_F n0) s.heap H locs)
    (kk : ∀ (H1 : Heap) (locs1 : List Loc), ks_W D cy ad En σ1 o1 H1 → va_S (ks_F n0) s.heap H1 locs1 → W p l e R s m args below meth c H1 locs1 (cells + kc) (slots + kz) Q (F0 m (pc + 3) ls (.int x :: rest))) : W p l e R s m args below meth c H locs cells slots Q (F0 m pc ls st0) := by
  refine vx_calli hr hS (fun q _ h => h) (fun q h => h) (fun q _ h => h) (fun E ce q9 u t H1 locs1 ht hvm hp hB hz1 hk1 hS1 hce hcv hcl => hp.elim) (fun r u t H1 locs1 ht hvm hw hB hz1 hk1 hS1 => ?_)
  obtain ⟨h1, h2⟩ : r = x ∧ u = (σ1, o1) := hw
  subst h1; subst h2
  exact kk H1 locs1 (hB.W ht) hS1
end KSL
