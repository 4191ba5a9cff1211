/-! Rows for methods that may throw: the words that no steady list carries, 'throw new E()', a call of such a method. -/
def ks_nw : List Cond := [.declares (Bundle.init0 "java/lang/RuntimeException"), .declares (Bundle.init0 "java/lang/Exception"), .declares (Bundle.init0 "java/lang/Throwable"), .castable "java/lang/IndexOutOfBoundsException" "java/lang/IndexOutOfBoundsException", .castable "java/lang/IllegalStateException" "java/lang/IllegalStateException", .castable "java/lang/IllegalArgumentException" "java/lang/IllegalArgumentException"]
def ks_Nw (U : State) : Prop := ∀ w ∈ ks_nw, va_Nw w U
/-- .. and the two statics that a throw reads -/
def ks_N (n0 : Nat → Prop) (U : State) : Prop := ks_Nw U ∧ vx_Zq Bundle.tN "UNASSIGNED_STACK" Bundle.steD (ks_F n0) U U.heap ∧ vx_Zq Bundle.tN "SUPPRESSED_SENTINEL" Bundle.listD (ks_F n0) U U.heap
theorem ks_nwD {x : MethodName} {u U : State} (hvm : u.vm.Alike U.vm) (h : va_Nw (.declares x) u) : va_Nw (.declares x) U := va_tabs rfl (rfl : (u.setVm U.vm).vm = U.vm) (by rw [Cond.declares_setVm hvm]; exact h)
theorem ks_nwC {C T : String} {u U : State} (hvm : u.vm.Alike U.vm) (h : va_Nw (.castable C T) u) : va_Nw (.castable C T) U := va_tabs rfl (rfl : (u.setVm U.vm).vm = U.vm) (by rw [Cond.castable_setVm hvm]; exact h)
theorem ks_Nw.moved {u U : State} (hvm : u.vm.Alike U.vm) (h : ks_Nw u) : ks_Nw U := by
  intro w hw
  have hh := h w hw
  simp only [ks_nw, List.mem_cons, List.not_mem_nil, or_false] at hw
  rcases hw with rfl | rfl | rfl | rfl | rfl | rfl
  · exact ks_nwD hvm hh
  · exact ks_nwD hvm hh
  · exact ks_nwD hvm hh
  · exact ks_nwC hvm hh
  · exact ks_nwC hvm hh
  · exact ks_nwC hvm hh
theorem ks_N.moved {n0 : Nat → Prop} {u U : State} (hvm : u.vm.Alike U.vm) (hh : U.heap = u.heap) (h : ks_N n0 u) : ks_N n0 U := by
  obtain ⟨h1, h4, h5⟩ := h
  refine ⟨h1.moved hvm, ?_, ?_⟩
  · rw [hh]; exact vx_Zq.moved hvm h4
  · rw [hh]; exact vx_Zq.moved hvm h5
theorem ks_N.now {n0 : Nat → Prop} {s t : State} {H : Heap} {locs : List Loc} (h : ks_N n0 s) (hS : va_S (ks_F n0) s.heap H locs) (hvm : s.vm.Alike t.vm) (ht : t.heap = H) : ks_N n0 t := by
  obtain ⟨h1, h4, h5⟩ := h
  refine ⟨h1.moved hvm, ?_, ?_⟩
  · rw [ht]; exact vx_Zq.moved hvm (h4.kept hS.2.1)
  · rw [ht]; exact vx_Zq.moved hvm (h5.kept hS.2.1)
def ks_UN (D : va_G) (cy : Nat → ClassId) (ad : ks_A) (En : Nat → Prop) (n0 : Nat → Prop) (σ : ks_S) (o : Int64) (U : State) : Prop := ks_U D cy ad En n0 σ o U ∧ ks_N n0 U
theorem ks_UN.blind {D : va_G} {cy : Nat → ClassId} {ad : ks_A} {En : Nat → Prop} {n0 : Nat → Prop} {σ : ks_S} {o : Int64} {av : List Value} : FrameBlind (va_Pc av (ks_UN D cy ad En n0 σ o)) := fun a U g mk q => ⟨q.1, ks_U.moved (u := U) (U := U.calling g mk a) (Vm.Alike.refl U.vm) rfl q.2.1, ks_N.moved (u := U) (U := U.calling g mk a) (Vm.Alike.refl U.vm) rfl q.2.2⟩
theorem ks_UN.now {D : va_G} {cy : Nat → ClassId} {ad : ks_A} {En : Nat → Prop} {n0 : Nat → Prop} {σ σ' : ks_S} {o o' : Int64} {s t : State} {H : Heap} {locs : List Loc} (h : ks_U D cy ad En n0 σ o s) (hN : ks_N n0 s) (hS : va_S (ks_F n0) s.heap H locs) (hW : ks_W D cy ad En σ' o' H) (hvm : s.vm.Alike t.vm) (ht : t.heap = H) : ks_UN D cy ad En n0 σ' o' t := ⟨h.now hS hW hvm ht, hN.now hS hvm ht⟩
/-- the words of a throw, out of the method's own good ones and the six others -/
theorem ks_hat {own cls : String} {ic : Nat} {names : List String} {args : Array Value} {s : State} {ws : List Cond} (hts : ∀ w ∈ ws, w.before args s = true) (hN : ks_Nw s) (h1 : ∀ w ∈ (vx_at0 own ic cls names).filter goodWord, w ∈ ws) (h2 : ∀ w ∈ (vx_at0 own ic cls names).filter (fun w => !goodWord w), w ∈ ks_nw) (h3 : ∀ w ∈ ks_nw, w.onTables = true) : ∀ w ∈ vx_at0 own ic cls names, w.before args s = true :=
  vx_hat (B := ks_nw) (fun w hw => hts w (h1 w hw)) h2 (fun w hw => va_Nw.use (h3 w hw) (hN w hw))
theorem ks_nw_on : ∀ w ∈ ks_nw, w.onTables = true := by decide +kernel
theorem ks_at0 : ∀ w ∈ (vx_at0 RX4 50 "java/lang/IndexOutOfBoundsException" ["java/lang/RuntimeException", "java/lang/Exception"]).filter (fun w => !goodWord w), w ∈ ks_nw := by decide +kernel
theorem ks_at1 : ∀ w ∈ (vx_at0 RX4 60 "java/lang/IllegalStateException" ["java/lang/RuntimeException", "java/lang/Exception"]).filter (fun w => !goodWord w), w ∈ ks_nw := by decide +kernel
theorem ks_at2 : ∀ w ∈ (vx_at0 RX4 67 "java/lang/IllegalArgumentException" ["java/lang/RuntimeException", "java/lang/Exception"]).filter (fun w => !goodWord w), w ∈ ks_nw := by decide +kernel
theorem ks_ag0 : ∀ w ∈ Cond.classLink RX4 48 "java/lang/IndexOutOfBoundsException" :: Cond.initialized "java/lang/IndexOutOfBoundsException" :: vx_at0 RX4 50 "java/lang/IndexOutOfBoundsException" ["java/lang/RuntimeException", "java/lang/Exception"], vx_ot w = true := by decide +kernel
theorem ks_ag1 : ∀ w ∈ Cond.classLink RX4 58 "java/lang/IllegalStateException" :: Cond.initialized "java/lang/IllegalStateException" :: vx_at0 RX4 60 "java/lang/IllegalStateException" ["java/lang/RuntimeException", "java/lang/Exception"], vx_ot w = true := by decide +kernel
theorem ks_ag2 : ∀ w ∈ Cond.classLink RX4 65 "java/lang/IllegalArgumentException" :: Cond.initialized "java/lang/IllegalArgumentException" :: vx_at0 RX4 67 "java/lang/IllegalArgumentException" ["java/lang/RuntimeException", "java/lang/Exception"], vx_ot w = true := by decide +kernel
section KSX
variable {p : Program} {l : Launch} {e : Env} {R : Room} {s : State} {m : MethodId} {args : Array Value} {below : List Frame} {meth : Method} {c : Code} {H : Heap} {locs : List Loc} {cells slots : Nat} {Q : State → Prop}
variable {cc : ByteArray} {pc : Nat} {ls : Array Slot} {rest st0 : List Value} {D : va_G} {cy : Nat → ClassId} {ad : ks_A} {En : Nat → Prop} {gp : Nat → Prop} {n0 : Nat → Prop} {σ0 σ : ks_S} {o : Int64} {ws : List Cond} {own : String} {nL : Nat} {a : Array Value} {ret : Option FieldType} {mc ms : Nat} {Qc : Array Value → State → Outcome → State → Prop}
/-- throw new E(): n its number -/
theorem ks_throw {α : Type} {cls : String} {ik ic : Nat} (n : Nat) {out : (Nat ⊕ α) × ks_S} (hlt : l.stackTraces = false) (hN : ks_N n0 s) (hexc : ∀ x ∈ c.exceptionTable.toList, False) (C : ks_M p s m args meth c D cy ad En gp n0 σ0 o ws cc own nL ret) (hE : ks_E n = cls)
    (hcls : Bundle.fit cls = true) (hk : Cond.classLink own ik cls ∈ ws) (hini : Cond.initialized cls ∈ ws) (h1 : ∀ w ∈ (vx_at0 own ic cls ["java/lang/RuntimeException", "java/lang/Exception"]).filter goodWord, w ∈ ws) (h2 : ∀ w ∈ (vx_at0 own ic cls ["java/lang/RuntimeException", "java/lang/Exception"]).filter (fun w => !goodWord w), w ∈ ks_nw)
    (hgood : ∀ w ∈ Cond.classLink own ik cls :: Cond.initialized cls :: vx_at0 own ic cls ["java/lang/RuntimeException", "java/lang/Exception"], vx_ot w = true)
    (hf : some (.inl n, σ) = some out) (hW : ks_W D cy ad En σ o H) (hS : va_S (ks_F n0) s.heap H locs) (hsize : ls.size = nL)
    (d0 : decode cc pc = .ok (.new ik, 3)) (d3 : decode cc (pc + 3) = .ok (.dup, 1)) (d4 : decode cc (pc + 4) = .ok (.invokespecial ic, 3)) (d7 : decode cc (pc + 7) = .ok (.athrow, 1))
    (hR : 6 ≤ R.frames ∧ (rest.map fun v => v.category).sum + 81 ≤ R.locals ∧ cells + 1 ≤ R.cells ∧ slots + 6 ≤ R.slots) (hc : cells + 1 ≤ mc) (hs : slots + 6 ≤ ms) :
    W p l e R s m args below meth c H locs cells slots (vx_MQ below Qc (ks_X D cy ad En n0 o out) args s mc ms (ks_F n0)) (F0 m pc ls rest) := by
  obtain ⟨hx, hb, hml, hr, hown, hts, hlocks, hG, hU, -⟩ := id C
  cases hf
  refine vx_throw0 (own := own) (cls := cls) (names := ["java/lang/RuntimeException", "java/lang/Exception"]) (A := ks_F n0) hx hb hlt hown hcls (by decide +kernel) (hts _ hk) (hts _ hini) (ks_hat hts hN.1 h1 h2 ks_nw_on) hgood hN.2.1 hN.2.2 hS (hsize.trans hml.symm) d0 d3 d4 d7 (fun x hx' => (hexc x hx').elim) (by exact hR.1) (by exact hR.2.1) hR.2.2.1 hR.2.2.2 hlocks (fun t hvm hz hkeep => ?_) hS.2.2 hc hs
  have hS1 : va_S (ks_F n0) s.heap t.heap locs := ⟨Nat.le_trans hS.1 hz, fun q h1 h2 => by rw [hkeep q (Nat.lt_of_lt_of_le h1 hS.1)]; exact hS.2.1 q h1 h2, hS.2.2⟩
  have hW1 : ks_W D cy ad En σ o t.heap := fun k i j hv => (hW k i j hv).kept (hkeep _ (hW k i j hv).lt)
  exact ⟨σ, ⟨n, rfl⟩, ⟨fun n' q => by cases q; exact hE.symm, hU.now hS1 hW1 hvm rfl⟩, hS1.F rfl⟩
/-- a call of such a method: it answered -/
theorem ks_xcalli {x : Int32} {σ1 : ks_S} {kc kz : Nat} (hr : vx_Run p l e R s m args below meth c H locs cells slots kc kz (F0 m pc ls st0) rest (ks_Yi D cy ad En n0 o (.inr x, σ1) a) (ks_X D cy ad En n0 o ((.inr x, σ1) : (Nat ⊕ Int32) × ks_S)) (ks_F n0)) (hS : va_S (ks_F n0) s.heap H locs)
    (kk : ∀ (H1 : Heap) (locs1 : List Loc), ks_W D cy ad En σ1 o H1 → va_S (ks_F n0) s.heap H1 locs1 → W p l e R s m args below meth c H1 locs1 (cells + kc) (slots + kz) Q (F0 m (pc + 3) ls (.int x :: rest))) : W p l e R s m args below meth c H locs cells slots Q (F0 m pc ls st0) := by
  refine vx_calli hr hS (fun q _ h => h) (fun q h => h) (fun q _ h => h) (fun E ce q9 u t H1 locs1 ht hvm hp hB hz1 hk1 hS1 hce hcv hcl => ?_) (fun r u t H1 locs1 ht hvm hw hB hz1 hk1 hS1 => ?_)
  · obtain ⟨n, hn⟩ := hp
    cases hn
  · cases hw
    exact kk H1 locs1 (hB.W ht) hS1
theorem ks_xcallv {σ1 : ks_S} {kc kz : Nat} (hr : vx_Run p l e R s m args below meth c H locs cells slots kc kz (F0 m pc ls st0) rest (ks_Yv D cy ad En n0 o (.inr (), σ1) a) (ks_X D cy ad En n0 o ((.inr (), σ1) : (Nat ⊕ Unit) × ks_S)) (ks_F n0)) (hS : va_S (ks_F n0) s.heap H locs)
    (kk : ∀ (H1 : Heap) (locs1 : List Loc), ks_W D cy ad En σ1 o H1 → va_S (ks_F n0) s.heap H1 locs1 → W p l e R s m args below meth c H1 locs1 (cells + kc) (slots + kz) Q (F0 m (pc + 3) ls rest)) : W p l e R s m args below meth c H locs cells slots Q (F0 m pc ls st0) := by
  refine vx_callv hr hS (fun q _ h => h) (fun q h => h) (fun q _ h => h) (fun E ce q9 u t H1 locs1 ht hvm hp hB hz1 hk1 hS1 hce hcv hcl => ?_) (fun u t H1 locs1 ht hvm hw hB hz1 hk1 hS1 => ?_)
  · obtain ⟨n, hn⟩ := hp
    cases hn
  · cases hw
    exact kk H1 locs1 (hB.W ht) hS1
theorem ks_xcallr {k i j : Nat} {σ1 : ks_S} {kc kz : Nat} (hr : vx_Run p l e R s m args below meth c H locs cells slots kc kz (F0 m pc ls st0) rest (ks_Yr D cy ad En n0 o k (.inr (i, j), σ1) a) (ks_X D cy ad En n0 o ((.inr (i, j), σ1) : (Nat ⊕ (Nat × Nat)) × ks_S)) (ks_F n0)) (hS : va_S (ks_F n0) s.heap H locs)
    (kk : ∀ (H1 : Heap) (locs1 : List Loc), ks_v En k i j → ks_W D cy ad En σ1 o H1 → va_S (ks_F n0) s.heap H1 locs1 → W p l e R s m args below meth c H1 locs1 (cells + kc) (slots + kz) Q (F0 m (pc + 3) ls (.ref (ad k i j) :: rest))) : W p l e R s m args below meth c H locs cells slots Q (F0 m pc ls st0) := by
  intro T hT X
  rcases hr T hT X with ⟨v, st₀, t, T', L, h0, X', hL, e1, e2, ⟨⟨u, ra, hv, ⟨i', j', hp, hvv⟩, hra, hb⟩, hF⟩, st⟩ | ⟨q, st₀, t, T', L, E, ce, h0, X', hL, e1, e2, ⟨u, ⟨n, hp⟩, hb, hF⟩, hce, hcv, hcl, st⟩
  · cases hv
    cases hp
    have hra' := hra i j rfl
    subst hra'
    obtain ⟨k1, k2, k3⟩ := vx_keep (A1 := ks_F n0) h0 e1 hS (fun q _ h => h) (fun q h => h) hL hF
    obtain ⟨t2, a1, b1⟩ := kk T'.heap (locs ++ L) hvv (hb.W e1.symm) k3 T' rfl X'
    exact ⟨t2, st t2 a1, b1⟩
  · cases hp
/-- .. and it threw: so does the caller -/
theorem ks_xthrow {α β : Type} {n : Nat} {σ1 : ks_S} {kc kz : Nat} {Qa : State → Outcome → State → Prop} {out : (Nat ⊕ β) × ks_S} (hr : vx_Run p l e R s m args below meth c H locs cells slots kc kz (F0 m pc ls st0) rest Qa (ks_X D cy ad En n0 o ((.inl n, σ1) : (Nat ⊕ α) × ks_S)) (ks_F n0)) (hno : ∀ st v t, ¬ Qa st (.returned v) t) (hS : va_S (ks_F n0) s.heap H locs) (C : ks_M p s m args meth c D cy ad En gp n0 σ0 o ws cc own nL ret) (hexc : ∀ x ∈ c.exceptionTable.toList, False)
    (hf : some (.inl n, σ1) = some out) (hc : cells + kc ≤ mc) (hs : slots + kz ≤ ms) : W p l e R s m args below meth c H locs cells slots (vx_MQ below Qc (ks_X D cy ad En n0 o out) args s mc ms (ks_F n0)) (F0 m pc ls st0) := by
  obtain ⟨hx, hb, hml, hr', hown, hts, hlocks, hG, hU, -⟩ := id C
  cases hf
  intro T hT X
  rcases hr T hT X with ⟨v, st₀, t, T', L, h0, X', hL, e1, e2, hq, st⟩ | ⟨q, st₀, t, T', L, E, ce, h0, X', hL, e1, e2, ⟨u, ⟨n', hp⟩, ⟨hE, hb'⟩, hF⟩, hce, hcv, hcl, st⟩
  · exact absurd hq (hno _ _ _)
  · cases hp
    obtain ⟨k1, k2, k3⟩ := vx_keep (A1 := ks_F n0) h0 e1 hS (fun q _ h => h) (fun q h => h) hL hF
    have hWn := hb'.W e1.symm
    obtain ⟨t2, a1, b1⟩ := vx_out (XC := ks_X D cy ad En n0 o ((.inl n, σ1) : (Nat ⊕ β) × ks_S)) (Qc := Qc) (free := ks_F n0) (mc := mc) (ms := ms) (ls := ls) (rest := rest) (below := below) (pc := pc) (fun x hx' => (hexc x hx').elim) hlocks (by rw [e1]; exact hce) hcv hcl
      (fun t' ht' hvm' => ⟨σ1, ⟨n, rfl⟩, ⟨fun n2 q2 => by cases q2; exact hE n rfl, hU.now k3 hWn hvm' ht'⟩, k3.F ht'⟩) k3.2.2 hc hs T' rfl X'
    exact ⟨t2, st.trans a1, b1⟩
theorem ks_noi {a : Array Value} {n : Nat} {σ1 : ks_S} : ∀ st v t, ¬ ks_Yi D cy ad En n0 o (.inl n, σ1) a st (.returned v) t := fun st v t h => by
  obtain ⟨⟨r, u, -, hp, -⟩, -⟩ := h
  cases hp
theorem ks_nov {a : Array Value} {n : Nat} {σ1 : ks_S} : ∀ st v t, ¬ ks_Yv D cy ad En n0 o (.inl n, σ1) a st (.returned v) t := fun st v t h => by
  obtain ⟨⟨u, -, hp, -⟩, -⟩ := h
  cases hp
theorem ks_nor {a : Array Value} {k n : Nat} {σ1 : ks_S} : ∀ st v t, ¬ ks_Yr D cy ad En n0 o k (.inl n, σ1) a st (.returned v) t := fun st v t h => by
  obtain ⟨⟨u, ra, -, ⟨i, j, hp, -⟩, -⟩, -⟩ := h
  cases hp
end KSX
