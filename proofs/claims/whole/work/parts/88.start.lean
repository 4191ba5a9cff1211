/-! The law from its entry: the two objects, the long array, then its loop. -/
section KSN
variable {p : Program} {l : Launch} {e : Env} {R : Room} {s : State} {m : MethodId} {args : Array Value} {below : List Frame} {meth : Method} {c : Code} {H : Heap} {locs : List Loc} {cells slots : Nat} {Q : State → Prop}
variable {cc : ByteArray} {pc : Nat} {ls : Array Slot} {rest : List Value} {D : va_G} {cl : List vw_C} {tys : List (ClassId × FieldType)}
theorem ks_newF (hexec : p.tables.exec = Jvm.exec) (hb : c.code = cc) {own C : String} {T : u_T} {N ci index : Nat} {Ts : List Cond} (hts : ∀ w ∈ Ts, w.before args s = true) (hin : ∀ w ∈ u_ws C T N, w ∈ Ts) (ty : Nat → FieldType) (hty : ∀ k, k < N → parseFieldDescriptor (T k).2.2.1 = some (ty k)) (hown : s.vm.findClass own = some m.cls) (hcl : (Cond.classLink own index C).before args s = true) (hinst : (Cond.instantiable C N).before args s = true) (hini : (Cond.initialized C).before args s = true)
    (hK : va_K D cl tys s) (hc : cl[ci]? = some (C, T, N)) {fs : List Value} (hfs : ∀ j, j < N → defaultValue (ty j) = vp_V fs j) (hcells : cells + 1 ≤ R.cells) (hslots : slots + N ≤ R.slots) (hdg : decode cc pc = .ok (.new index, 3))
    (kk : ∀ (H1 : Heap), va_at D cl (H.size, .inr (ci, fs)) H1 → H1.size = H.size + 1 → (∀ x : Nat, x < H.size → H1[x]? = H[x]?) →
      W p l e R s m args below meth c H1 locs (cells + 1) (slots + N) Q (F0 m (pc + 3) ls (.ref H.size :: rest))) : W p l e R s m args below meth c H locs cells slots Q (F0 m pc ls rest) := by
  have hKn := hK.1 ci _ hc
  refine W.newcK hexec hb hown hcl hinst hini rfl hdg hcells hslots hKn.2.1 rfl fun H1 kC hkC e1 z1 o1 => ?_
  exact kk H1 ⟨_, hc, (u_born ty hts hin hKn hkC e1 hty).to hfs⟩ z1 o1
end KSN
theorem ks_P1' {D : va_G} {cl : List vw_C} {x : Nat × va_E} {H : Heap} (h : va_at D cl x H) : va_P D cl [x] H := by
  intro k q hq
  have hz : k < 1 := (List.getElem?_eq_some_iff.mp hq).1
  have h0 : k = 0 := by omega
  subst h0
  cases hq
  exact h
theorem ks_rcA {args : Array Value} {s : State} {t : FieldType} (h : (Cond.arrayClass t).before args s = true) (ho : ∀ C, t ≠ .object C) : ∃ c : ClassId, ArrOfT s c t ∧ va_RA s c t := by
  obtain ⟨c, k, comp, h1, h2, h3⟩ := Cond.arrayClass_spec h
  refine ⟨c, fun N z => ⟨(fun q hq => by cases hq), k, h2, comp, h3⟩, ?_⟩
  cases t <;> first | exact h1 | exact absurd rfl (ho _)
theorem ks_rcO {s : State} {C : String} (h : va_AO C s) : ∃ c : ClassId, ArrOfT s c (.object C) ∧ va_RA s c (.object C) := by
  obtain ⟨comp, c, k, h1, h2, h3, h4, h5⟩ := Cond.arrayOver_spec h
  exact ⟨c, fun N z => ⟨(fun q hq => by cases hq), k, h3, comp, h4⟩, k, comp, h3, h4, h1, h5⟩
theorem ks_rcAA {s : State} {t : FieldType} (h : va_AOA t s) : ∃ c : ClassId, ArrOfT s c (.array t) ∧ va_RA s c (.array t) := by
  obtain ⟨comp, c, k, h1, h3, h4, h5⟩ := Cond.arrayOver_specA h
  exact ⟨c, fun N z => ⟨(fun q hq => by cases hq), k, h3, comp, h4⟩, h5⟩
/-- the ints of both fresh objects -/
def ks_s0 (σ1 : ks_S) : ks_S := fun k => if k < 14 then ks_k0 k else σ1 k
/-- the three addresses' families as one -/
def ks_mg (a0 a1 : ks_A) (qo : Nat) : ks_A := fun k i j => if k < 14 then a0 k i j else if k < 45 then a1 k i j else qo
set_option maxHeartbeats 4000000 in
set_option maxRecDepth 100000 in
theorem ks_merge {D : va_G} {cy : Nat → ClassId} {a0 a1 : ks_A} {qo : Nat} {σ1 : ks_S} {o : Int64} {H : Heap} (h0 : ks_W D cy a0 ks_E0 ks_k0 o H) (h1 : ks_W D cy a1 ks_E1 σ1 o H) (h2 : H[qo]? = some (vp_cell (cy 2) (1, .inr (.inl (fun _ => o))))) : ks_W D cy (ks_mg a0 a1 qo) (fun _ => True) (ks_s0 σ1) o H := by
  intro k i j hv
  obtain ⟨hk, hi, hj, -⟩ := hv
  have hk : k = 0 ∨ k = 1 ∨ k = 2 ∨ k = 3 ∨ k = 4 ∨ k = 5 ∨ k = 6 ∨ k = 7 ∨ k = 8 ∨ k = 9 ∨ k = 10 ∨ k = 11 ∨ k = 12 ∨ k = 13 ∨ k = 14 ∨ k = 15 ∨ k = 16 ∨ k = 17 ∨ k = 18 ∨ k = 19 ∨ k = 20 ∨ k = 21 ∨ k = 22 ∨ k = 23 ∨ k = 24 ∨ k = 25 ∨ k = 26 ∨ k = 27 ∨ k = 28 ∨ k = 29 ∨ k = 30 ∨ k = 31 ∨ k = 32 ∨ k = 33 ∨ k = 34 ∨ k = 35 ∨ k = 36 ∨ k = 37 ∨ k = 38 ∨ k = 39 ∨ k = 40 ∨ k = 41 ∨ k = 42 ∨ k = 43 ∨ k = 44 ∨ k = 45 := by omega
  rcases hk with rfl | rfl | rfl | rfl | rfl | rfl | rfl | rfl | rfl | rfl | rfl | rfl | rfl | rfl | rfl | rfl | rfl | rfl | rfl | rfl | rfl | rfl | rfl | rfl | rfl | rfl | rfl | rfl | rfl | rfl | rfl | rfl | rfl | rfl | rfl | rfl | rfl | rfl | rfl | rfl | rfl | rfl | rfl | rfl | rfl | rfl
  · exact h0 0 i j ⟨by decide, hi, hj, rfl⟩
  · exact h0 1 i j ⟨by decide, hi, hj, rfl⟩
  · exact h0 2 i j ⟨by decide, hi, hj, rfl⟩
  · exact h0 3 i j ⟨by decide, hi, hj, rfl⟩
  · exact h0 4 i j ⟨by decide, hi, hj, rfl⟩
  · exact h0 5 i j ⟨by decide, hi, hj, rfl⟩
  · exact h0 6 i j ⟨by decide, hi, hj, rfl⟩
  · exact h0 7 i j ⟨by decide, hi, hj, rfl⟩
  · exact h0 8 i j ⟨by decide, hi, hj, rfl⟩
  · exact h0 9 i j ⟨by decide, hi, hj, rfl⟩
  · exact h0 10 i j ⟨by decide, hi, hj, rfl⟩
  · exact h0 11 i j ⟨by decide, hi, hj, rfl⟩
  · exact h0 12 i j ⟨by decide, hi, hj, rfl⟩
  · exact h0 13 i j ⟨by decide, hi, hj, rfl⟩
  · exact h1 14 i j ⟨by decide, hi, hj, rfl⟩
  · exact h1 15 i j ⟨by decide, hi, hj, rfl⟩
  · exact h1 16 i j ⟨by decide, hi, hj, rfl⟩
  · exact h1 17 i j ⟨by decide, hi, hj, rfl⟩
  · exact h1 18 i j ⟨by decide, hi, hj, rfl⟩
  · exact h1 19 i j ⟨by decide, hi, hj, rfl⟩
  · exact h1 20 i j ⟨by decide, hi, hj, rfl⟩
  · exact h1 21 i j ⟨by decide, hi, hj, rfl⟩
  · exact h1 22 i j ⟨by decide, hi, hj, rfl⟩
  · exact h1 23 i j ⟨by decide, hi, hj, rfl⟩
  · exact h1 24 i j ⟨by decide, hi, hj, rfl⟩
  · exact h1 25 i j ⟨by decide, hi, hj, rfl⟩
  · exact h1 26 i j ⟨by decide, hi, hj, rfl⟩
  · exact h1 27 i j ⟨by decide, hi, hj, rfl⟩
  · exact h1 28 i j ⟨by decide, hi, hj, rfl⟩
  · exact h1 29 i j ⟨by decide, hi, hj, rfl⟩
  · exact h1 30 i j ⟨by decide, hi, hj, rfl⟩
  · exact h1 31 i j ⟨by decide, hi, hj, rfl⟩
  · exact h1 32 i j ⟨by decide, hi, hj, rfl⟩
  · exact h1 33 i j ⟨by decide, hi, hj, rfl⟩
  · exact h1 34 i j ⟨by decide, hi, hj, rfl⟩
  · exact h1 35 i j ⟨by decide, hi, hj, rfl⟩
  · exact h1 36 i j ⟨by decide, hi, hj, rfl⟩
  · exact h1 37 i j ⟨by decide, hi, hj, rfl⟩
  · exact h1 38 i j ⟨by decide, hi, hj, rfl⟩
  · exact h1 39 i j ⟨by decide, hi, hj, rfl⟩
  · exact h1 40 i j ⟨by decide, hi, hj, rfl⟩
  · exact h1 41 i j ⟨by decide, hi, hj, rfl⟩
  · exact h1 42 i j ⟨by decide, hi, hj, rfl⟩
  · exact h1 43 i j ⟨by decide, hi, hj, rfl⟩
  · exact h1 44 i j ⟨by decide, hi, hj, rfl⟩
  · exact h2
theorem ks_mergeG {D : va_G} {cy : Nat → ClassId} {a0 a1 : ks_A} {qo lo hi : Nat} {n0 : Nat → Prop} {A0 A1 : Nat → Prop} (g0 : ks_G a0 ks_E0 A0) (g1 : ks_G a1 ks_E1 A1) (b0 : ∀ k i j, ks_v ks_E0 k i j → a0 k i j < lo) (b1 : ∀ k i j, ks_v ks_E1 k i j → lo ≤ a1 k i j ∧ a1 k i j < hi) (b2 : hi ≤ qo) (n1 : ∀ k i j, ks_v ks_E0 k i j → n0 (a0 k i j)) (n2 : ∀ q, lo ≤ q → n0 q) (hlh : lo ≤ hi) : ks_G (ks_mg a0 a1 qo) (fun _ => True) n0 := by
  have cases3 : ∀ k i j, ks_v (fun _ => True) k i j → (k < 14 ∧ ks_v ks_E0 k i j ∧ ks_mg a0 a1 qo k i j = a0 k i j) ∨ (14 ≤ k ∧ k < 45 ∧ ks_v ks_E1 k i j ∧ ks_mg a0 a1 qo k i j = a1 k i j) ∨ (k = 45 ∧ i = 0 ∧ j = 0 ∧ ks_mg a0 a1 qo k i j = qo) := by
    intro k i j hv
    obtain ⟨h1, h2, h3, -⟩ := hv
    by_cases c1 : k < 14
    · exact Or.inl ⟨c1, ⟨h1, h2, h3, by show ks_g k = 0; unfold ks_g; rw [if_pos c1]⟩, by unfold ks_mg; rw [if_pos c1]⟩
    · by_cases c2 : k < 45
      · exact Or.inr (Or.inl ⟨by omega, c2, ⟨h1, h2, h3, by show ks_g k = 1; unfold ks_g; rw [if_neg c1, if_pos c2]⟩, by unfold ks_mg; rw [if_neg c1, if_pos c2]⟩)
      · have h45 : k = 45 := by omega
        subst h45
        exact Or.inr (Or.inr ⟨rfl, Nat.lt_one_iff.mp h2, Nat.lt_one_iff.mp h3, rfl⟩)
  refine ⟨fun k i j hv => ?_, fun k i j k' i' j' hv hv' he => ?_⟩
  · rcases cases3 k i j hv with ⟨_, v, e⟩ | ⟨_, _, v, e⟩ | ⟨_, _, _, e⟩
    · rw [e]; exact n1 k i j v
    · rw [e]; exact n2 _ (b1 k i j v).1
    · rw [e]; exact n2 _ (by omega)
  · rcases cases3 k i j hv with ⟨_, v, e⟩ | ⟨_, _, v, e⟩ | ⟨k1, i1, j1, e⟩ <;> rcases cases3 k' i' j' hv' with ⟨_, v', e'⟩ | ⟨_, _, v', e'⟩ | ⟨k2, i2, j2, e'⟩ <;> rw [e, e'] at he
    · exact g0.2 k i j k' i' j' v v' he
    · have := b0 k i j v; have := b1 k' i' j' v'; omega
    · have := b0 k i j v; omega
    · have := b1 k i j v; have := b0 k' i' j' v'; omega
    · exact g1.2 k i j k' i' j' v v' he
    · have := b1 k i j v; omega
    · have := b0 k' i' j' v'; omega
    · have := b1 k' i' j' v'; omega
    · subst k1; subst i1; subst j1; exact ⟨k2, i2, j2⟩
set_option maxHeartbeats 4000000 in
set_option maxRecDepth 100000 in
theorem whole_start0 {p : Program} {e : Env} {s : State} {m : MethodId} {below : List Frame} {meth : Method} {c : Code} (l : Launch) (hlt : l.stackTraces = false) {b L : Nat} {xs : Nat → Int32} (C0 : lw_At p s m meth c b L xs) {N : Nat} {σ1 : ks_S} (hfg : f_X5_forget N ks_m0 = some σ1) (hlaw : f_law N xs L 513 (ks_s0 σ1) 0 0 = some true) : W p l e room_1 s m #[Value.ref b] below meth c s.heap [] 0 0 (lw_Z below #[Value.ref b] s) (entryFrame m ([Value.ref b] : List Value).toArray 7) := by
  obtain ⟨hx, hb, hr, hml, hown, hts0, hX, hbl, hlocks, hgv⟩ := id C0
  have hts : ∀ w ∈ wsL_law, w.before #[Value.ref b] s = true := fun w h => hts0 w (wsL_law_in w h)
  have hfl := flat_of_before _ hgv
  obtain ⟨c0, iS0, hKn0⟩ := u_known (C := RX0) (T := TX0) (N := 12) (n := 12) hts0 inX0 (hts0 (.instantiable RX0 12) (by decide +kernel))
  obtain ⟨c1, iS1, hKn1⟩ := u_known (C := RX1) (T := TX1) (N := 8) (n := 8) hts0 inX1 (hts0 (.instantiable RX1 8) (by decide +kernel))
  obtain ⟨c2, iS2, hKn2⟩ := u_known (C := RX2) (T := TX2) (N := 2) (n := 2) hts0 inX2 (hts0 (.instantiable RX2 2) (by decide +kernel))
  obtain ⟨c3, iS3, hKn3⟩ := u_known (C := RX3) (T := TX3) (N := 10) (n := 10) hts0 inX3 (hts0 (.instantiable RX3 10) (by decide +kernel))
  obtain ⟨c4, iS4, hKn4⟩ := u_known (C := RX4) (T := TX4) (N := 8) (n := 8) hts0 inX4 (hts0 (.instantiable RX4 8) (by decide +kernel))
  obtain ⟨c5, iS5, hKn5⟩ := u_known (C := RX5) (T := TX5) (N := 34) (n := 34) hts0 inX5 (hts0 (.instantiable RX5 34) (by decide +kernel))
  obtain ⟨D, hKc⟩ : ∃ D : va_G, ∀ (k : Nat) (q : vw_C), vwCl[k]? = some q → u_Kn s q.1 q.2.1 q.2.2 (D.1 k) (D.2 k) := by
    refine ⟨(fun k => if k = 0 then c0 else if k = 1 then c1 else if k = 2 then c2 else if k = 3 then c3 else if k = 4 then c4 else c5, fun k => if k = 0 then iS0 else if k = 1 then iS1 else if k = 2 then iS2 else if k = 3 then iS3 else if k = 4 then iS4 else iS5), ?_⟩
    intro k q hq
    match k, hq with
    | 0, hq => cases hq; exact hKn0
    | 1, hq => cases hq; exact hKn1
    | 2, hq => cases hq; exact hKn2
    | 3, hq => cases hq; exact hKn3
    | 4, hq => cases hq; exact hKn4
    | 5, hq => cases hq; exact hKn5
    | k + 6, hq => simp [vwCl] at hq
  have hN9 : ks_K s := ⟨va_Nw.of rfl (hts0 (.methodLinkNest RX3 19 yX0_init "SpinKernel") (by decide +kernel)), va_Nw.of rfl (hts0 (.methodLinkNest RX3 24 yX1_init "SpinKernel") (by decide +kernel)), va_Nw.of rfl (hts0 (.methodLinkNest RX4 37 yX2_init "SpinKernel") (by decide +kernel)), va_AO.of (hts0 (.arrayOver (.object RX3)) (by decide +kernel)), va_AO.of (hts0 (.arrayOver (.object RX2)) (by decide +kernel)), va_AO.of (hts0 (.arrayOver (.object RX1)) (by decide +kernel)), hts0 (.arrayOver (.array .int)) (by decide +kernel)⟩
  obtain ⟨y0, hy0⟩ := ks_rcA (hts0 (.arrayClass .int) (by decide +kernel)) (fun _ h => by cases h)
  obtain ⟨y1, hy1⟩ := ks_rcA (hts0 (.arrayClass .boolean) (by decide +kernel)) (fun _ h => by cases h)
  obtain ⟨y2, hy2⟩ := ks_rcA (hts0 (.arrayClass .long) (by decide +kernel)) (fun _ h => by cases h)
  obtain ⟨y3, hy3⟩ := ks_rcO hN9.2.2.2.1
  obtain ⟨y4, hy4⟩ := ks_rcO hN9.2.2.2.2.1
  obtain ⟨y5, hy5⟩ := ks_rcO hN9.2.2.2.2.2.1
  obtain ⟨y6, hy6⟩ := ks_rcAA hN9.2.2.2.2.2.2
  obtain ⟨cy, hK⟩ : ∃ cy : Nat → ClassId, va_K D vwCl (ks_t cy) s := by
    refine ⟨fun k => if k = 0 then y0 else if k = 1 then y1 else if k = 2 then y2 else if k = 3 then y3 else if k = 4 then y4 else if k = 5 then y5 else y6, hKc, ?_⟩
    intro k q hq
    match k, hq with
    | 0, hq => cases hq; exact hy0
    | 1, hq => cases hq; exact hy1
    | 2, hq => cases hq; exact hy2
    | 3, hq => cases hq; exact hy3
    | 4, hq => cases hq; exact hy4
    | 5, hq => cases hq; exact hy5
    | 6, hq => cases hq; exact hy6
    | k + 7, hq => simp [ks_t] at hq
  have hA : ∀ q : Nat, s.heap.size ≤ q → (fun q : Nat => s.heap.size ≤ q) q := fun _ h => h
  have hbA : ¬ ks_F (fun q : Nat => s.heap.size ≤ q) b := Nat.not_le.mpr hbl
  have hN : ks_N (fun q : Nat => s.heap.size ≤ q) s := by
    refine ⟨fun w hw => va_Nw.of (ks_nw_on w hw) (hts0 w ((show ∀ w ∈ ks_nw, w ∈ lw_tbl by decide +kernel) w hw)), ?_, ?_⟩
    · exact vx_Zqof (hts0 (.laysStatic Bundle.tN "UNASSIGNED_STACK" Bundle.steD) (by decide +kernel)) (hts0 (.initialized Bundle.tN) (by decide +kernel)) (hfl (.isRef (.static Bundle.tN "UNASSIGNED_STACK" Bundle.steD)) (by decide +kernel)) (fun a h => Nat.not_le.mpr h)
    · exact vx_Zqof (hts0 (.laysStatic Bundle.tN "SUPPRESSED_SENTINEL" Bundle.listD) (by decide +kernel)) (hts0 (.initialized Bundle.tN) (by decide +kernel)) (hfl (.isRef (.static Bundle.tN "SUPPRESSED_SENTINEL" Bundle.listD)) (by decide +kernel)) (fun a h => Nat.not_le.mpr h)
  have hNC : ks_NC s := by
    intro q hq
    simp only [ks_nc, List.mem_cons, List.not_mem_nil, or_false] at hq
    rcases hq with rfl | rfl | rfl
    · exact va_Nc.of (hfl (.not (.castable "java/lang/IllegalStateException" "java/lang/IndexOutOfBoundsException")) (by decide +kernel))
    · exact va_Nc.of (hfl (.not (.castable "java/lang/IllegalArgumentException" "java/lang/IndexOutOfBoundsException")) (by decide +kernel))
    · exact va_Nc.of (hfl (.not (.castable "java/lang/IllegalArgumentException" "java/lang/IllegalStateException")) (by decide +kernel))
  have hS : va_S (fun q : Nat => s.heap.size ≤ q) s.heap s.heap [] := va_S.rf
  have hl := lv_entry ([.ref b]) (n := 7) (Nat.le_of_ble_eq_true rfl)
  rw [lg_entry_eq]
  generalize (lg_sl ([.ref b]) ++ List.replicate (7 - (lg_sl ([.ref b])).length) Slot.unset).toArray = ls at hl ⊢
  have hl : lv_has ls 7 [(0, .ref b)] := hl
  -- the class's object
  refine ks_newF (ci := 4) (fs := [.null, .null, .null, .null, .null, .null, .int 0, .int 0]) (C := RX4) (T := TX4) (N := 8) hx hb hts inlX4 tyX4 tyX4_ok hown (hts (.classLink RL 8 RX4) (by decide +kernel)) (hts (.instantiable RX4 8) (by decide +kernel)) (hts (.initialized RX4) (by decide +kernel)) hK rfl (fun j hj => by rcases (show j = 0 ∨ j = 1 ∨ j = 2 ∨ j = 3 ∨ j = 4 ∨ j = 5 ∨ j = 6 ∨ j = 7 by omega) with rfl | rfl | rfl | rfl | rfl | rfl | rfl | rfl <;> rfl) (show 0 + 1 ≤ 607239 by decide) (show 0 + 8 ≤ 7274386 by decide) dL_law_0 (fun Ha hca hza hka => ?_)
  have hS : va_S (fun q : Nat => s.heap.size ≤ q) s.heap Ha [] := ⟨by omega, fun q h1 _ => hka q h1, fun q h => by cases h⟩
  refine lv_dup hx hb dL_law_3 rfl ?_
  have hFa : ∀ z, va_A [(s.heap.size, (.inr (4, [.null, .null, .null, .null, .null, .null, .int 0, .int 0]) : va_E))] Ha.size z → s.heap.size ≤ z := by
    intro z hz
    rcases hz with ⟨n, x, hn⟩ | hz
    · have h1 : n < 1 := (List.getElem?_eq_some_iff.mp hn).1
      have h0 : n = 0 := by omega
      subst h0
      cases hn
      exact Nat.le_refl _
    · omega
  refine va_callv (va_runI (As := []) (rest := [.ref s.heap.size]) ⟨hx, hb, hml, hown, hts⟩ (c_X4_init l D cy s.heap.size Ha.size 0) (cwI 0 hts gL_law_X4_init rfl rfl rfl (hts (.initialized RX4) (by decide +kernel)) (hts (.methodLink RL 68 yX4_init) (by decide +kernel)) (hts (.instanceMethod yX4_init) (by decide +kernel)) rfl (by decide +kernel) ⟨(Nat.le_of_ble_eq_true rfl), (Nat.le_of_ble_eq_true rfl)⟩) ⟨ks_c0P.blind, fun U hU hW => ⟨rfl, by rw [hU], by rw [hU]; exact ks_P1' hca, va_K.moved hW.alike hK, ks_oneD _, hN9.warm hW⟩⟩ rfl rfl hl.1 rfl (lv_room (Nat.le_of_ble_eq_true rfl)) dL_law_4 ⟨show 0 + 1 + 170 ≤ 607239 by decide, show 0 + 8 + 1340 ≤ 7274386 by decide⟩) hS (fun q _ h => hFa q h) hFa (fun a0 t Hb locs ht hvm hw hB hz1 hk1 hS => ?_)
  obtain ⟨hW0, hG0⟩ := hB
  rw [ht] at hW0
  have hw0 : a0 0 0 0 = s.heap.size := hw
  refine lv_astore_n (lv' := [(1, .ref s.heap.size), (0, .ref b)]) hx hb dL_law_7 rfl hl (by decide) rfl (fun ls hl => ?_)
  -- the reference's object
  refine ks_newF (ci := 5) (fs := [.int 0, .null, .null, .null, .null, .null, .null, .null, .null, .null, .null, .null, .int 0, .int 0, .null, .null, .null, .null, .null, .null, .null, .null, .null, .null, .null, .null, .null, .int 0, .null, .null, .null, .null, .null, .null]) (C := RX5) (T := TX5) (N := 34) hx hb hts inlX5 tyX5 tyX5_ok hown (hts (.classLink RL 69 RX5) (by decide +kernel)) (hts (.instantiable RX5 34) (by decide +kernel)) (hts (.initialized RX5) (by decide +kernel)) hK rfl (fun j hj => by rcases (show j = 0 ∨ j = 1 ∨ j = 2 ∨ j = 3 ∨ j = 4 ∨ j = 5 ∨ j = 6 ∨ j = 7 ∨ j = 8 ∨ j = 9 ∨ j = 10 ∨ j = 11 ∨ j = 12 ∨ j = 13 ∨ j = 14 ∨ j = 15 ∨ j = 16 ∨ j = 17 ∨ j = 18 ∨ j = 19 ∨ j = 20 ∨ j = 21 ∨ j = 22 ∨ j = 23 ∨ j = 24 ∨ j = 25 ∨ j = 26 ∨ j = 27 ∨ j = 28 ∨ j = 29 ∨ j = 30 ∨ j = 31 ∨ j = 32 ∨ j = 33 by omega) with rfl | rfl | rfl | rfl | rfl | rfl | rfl | rfl | rfl | rfl | rfl | rfl | rfl | rfl | rfl | rfl | rfl | rfl | rfl | rfl | rfl | rfl | rfl | rfl | rfl | rfl | rfl | rfl | rfl | rfl | rfl | rfl | rfl | rfl <;> rfl) (show 0 + 1 + 170 + 1 ≤ 607239 by decide) (show 0 + 8 + 1340 + 34 ≤ 7274386 by decide) dL_law_8 (fun Hc hcc hzc hkc => ?_)
  have hS : va_S (fun q : Nat => s.heap.size ≤ q) s.heap Hc locs := ⟨by have := hS.1; omega, fun q h1 h2 => (hkc q (Nat.lt_of_lt_of_le h1 hS.1)).trans (hS.2.1 q h1 h2), hS.2.2⟩
  have hW0c : ks_W D cy a0 ks_E0 ks_k0 0 Hc := fun k i j hv => (hW0 k i j hv).kept (hkc _ (hW0 k i j hv).lt)
  have hlt0 : ∀ k i j, ks_v ks_E0 k i j → a0 k i j < Hb.size := fun k i j hv => (hW0 k i j hv).lt
  have hsb : s.heap.size ≤ Hb.size := by omega
  refine lv_dup hx hb dL_law_11 rfl ?_
  have hFc : ∀ z, va_A [(Hb.size, (.inr (5, [.int 0, .null, .null, .null, .null, .null, .null, .null, .null, .null, .null, .null, .int 0, .int 0, .null, .null, .null, .null, .null, .null, .null, .null, .null, .null, .null, .null, .null, .int 0, .null, .null, .null, .null, .null, .null]) : va_E))] Hc.size z → Hb.size ≤ z := by
    intro z hz
    rcases hz with ⟨n, x, hn⟩ | hz
    · have h1 : n < 1 := (List.getElem?_eq_some_iff.mp hn).1
      have h0 : n = 0 := by omega
      subst h0
      cases hn
      exact Nat.le_refl _
    · omega
  refine va_callv (va_runI (As := []) (rest := [.ref Hb.size]) ⟨hx, hb, hml, hown, hts⟩ (c_X5_init l D cy Hb.size Hc.size 0 hfg) (cwI 0 hts gL_law_X5_init rfl rfl rfl (hts (.initialized RX5) (by decide +kernel)) (hts (.methodLink RL 71 yX5_init) (by decide +kernel)) (hts (.instanceMethod yX5_init) (by decide +kernel)) rfl (by decide +kernel) ⟨(Nat.le_of_ble_eq_true rfl), (Nat.le_of_ble_eq_true rfl)⟩) ⟨ks_c0P.blind, fun U hU hW => ⟨rfl, by rw [hU], by rw [hU]; exact ks_P1' hcc, va_K.moved hW.alike hK, ks_oneD _, hN9.warm hW⟩⟩ rfl rfl hl.1 rfl (lv_room (Nat.le_of_ble_eq_true rfl)) dL_law_12 ⟨show 0 + 1 + 170 + 1 + 30 ≤ 607239 by decide, show 0 + 8 + 1340 + 34 + 992 ≤ 7274386 by decide⟩) hS (fun q _ h => Nat.le_trans hsb (hFc q h)) (fun q h => Nat.le_trans hsb (hFc q h)) (fun a1 t Hd locs ht hvm hw hB hz1 hk1 hS => ?_)
  obtain ⟨hW1, hG1⟩ := hB
  rw [ht] at hW1
  have hw1 : a1 14 0 0 = Hb.size := hw
  have hW0d : ks_W D cy a0 ks_E0 ks_k0 0 Hd := fun k i j hv => (hW0c k i j hv).kept (hk1 _ (by have := hlt0 k i j hv; omega) (fun hz => by have := hFc _ hz; have := hlt0 k i j hv; omega))
  refine lv_astore_n (lv' := [(2, .ref Hb.size), (1, .ref s.heap.size), (0, .ref b)]) hx hb dL_law_15 rfl hl (by decide) rfl (fun ls hl => ?_)
  refine lv_iconst (v := 1) hx hb dL_law_16 (by decide) ?_
  refine va_newaK (atype := .long) (N := 1) (h := Hd.size) hx hb (hts (.arrayClass .long) (by decide +kernel)) rfl dL_law_17 rfl (by decide) (by decide) (by decide) (show 0 + 1 + 170 + 1 + 30 + 1 ≤ 607239 by decide) (show 0 + 8 + 1340 + 34 + 992 + 1 ≤ 7274386 by decide) rfl (fun He cA e1 z1 o1 hAr hNm => ?_)
  obtain rfl : cA = cy 2 := ks_ra (s := s) (ty := .long) hNm (hK.2 2 (cy 2, .long) rfl).2
  refine W.eq (g2 := F0 m 19 ls [.ref Hd.size]) rfl ?_
  have hS : va_S (fun q : Nat => s.heap.size ≤ q) s.heap He locs := ⟨by have := hS.1; omega, fun q h1 h2 => (o1 q (Nat.lt_of_lt_of_le h1 hS.1)).trans (hS.2.1 q h1 h2), hS.2.2⟩
  have hWe0 : ks_W D cy a0 ks_E0 ks_k0 0 He := fun k i j hv => (hW0d k i j hv).kept (o1 _ (hW0d k i j hv).lt)
  have hWe1 : ks_W D cy a1 ks_E1 σ1 0 He := fun k i j hv => (hW1 k i j hv).kept (o1 _ (hW1 k i j hv).lt)
  have hWm := ks_merge (o := 0) hWe0 hWe1 (qo := Hd.size) e1
  have hGm : ks_G (ks_mg a0 a1 Hd.size) (fun _ => True) (fun q : Nat => s.heap.size ≤ q) := ks_mergeG (D := D) (cy := cy) (lo := Hb.size) (hi := Hd.size) hG0 hG1 hlt0 (fun k i j hv => ⟨hFc _ (hG1.1 k i j hv), (hW1 k i j hv).lt⟩) (Nat.le_refl _) (fun k i j hv => hFa _ (hG0.1 k i j hv)) (fun q h => Nat.le_trans hsb h) (by omega)
  refine lv_astore_n (lv' := [(3, .ref Hd.size), (2, .ref Hb.size), (1, .ref s.heap.size), (0, .ref b)]) hx hb dL_law_19 rfl hl (by decide) rfl (fun ls hl => ?_)
  refine lv_iconst (v := 0) hx hb dL_law_20 (by decide) ?_
  refine lv_istore (lv' := [(4, .int 0), (3, .ref Hd.size), (2, .ref Hb.size), (1, .ref s.heap.size), (0, .ref b)]) hx hb dL_law_21 hl (by decide) rfl (fun ls hl => ?_)
  have m0 : ks_mg a0 a1 Hd.size 0 0 0 = s.heap.size := hw0
  have m1 : ks_mg a0 a1 Hd.size 14 0 0 = Hb.size := hw1
  have hl : lv_has ls 7 [(0, .ref b), (1, .ref (ks_mg a0 a1 Hd.size 0 0 0)), (2, .ref (ks_mg a0 a1 Hd.size 14 0 0)), (3, .ref (ks_mg a0 a1 Hd.size 45 0 0)), (4, .int 0)] := by rw [m0, m1]; exact lv_sub hl [4, 3, 2, 1, 0] rfl
  exact t_law_23 hlt C0 trivial hbA hK hN hNC hGm (fun _ => trivial) (fun _ h => h) 513 _ _ _ hlaw hWm hS hl (by decide) (by decide)
