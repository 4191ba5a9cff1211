/-! The class's constructor, from its entry. -/
theorem ks_setP {A : Nat → Prop} {D : va_G} {cl : List vw_C} {ws : va_W} {p a : Nat} {e0 e : va_E} {H H1 : Heap} (hP : va_P D cl ws H) (hD : va_D A ws) (hp : ws[p]? = some (a, e0)) (he : va_at D cl (a, e) H1) (hk : ∀ q : Nat, q < H.size → ¬ va_A [(a, e0)] H.size q → H1[q]? = H[q]?) : va_P D cl (ws.set p (a, e)) H1 ∧ va_D A (ws.set p (a, e)) := by
  refine ⟨fun k q hq => ?_, hD.set hp⟩
  by_cases h : k = p
  · subst h
    have hl := (List.getElem?_eq_some_iff.mp hp).1
    rw [List.getElem?_set_self hl] at hq
    cases hq
    exact he
  · rw [List.getElem?_set_ne (Ne.symm h)] at hq
    have hlt := (hP k q hq).lt
    refine (hP k q hq).kept (hk q.1 hlt fun hz => ?_)
    rcases hz with ⟨n, x, hn⟩ | hz
    · have h1 : n < 1 := (List.getElem?_eq_some_iff.mp hn).1
      have h0 : n = 0 := by omega
      subst h0
      have hx : (a, e0) = (q.1, x) := Option.some.inj hn
      have : a = q.1 := by rw [Prod.mk.injEq] at hx; exact hx.1
      exact h (hD.1 k p q (a, e0) hq hp this.symm)
    · omega
theorem ks_one (cy : Nat → ClassId) (D : va_G) (k a : Nat) (o : Int64) (σ : ks_S) {H : Heap} {E : va_E} (hk : k = 6 ∨ k = 7) (hE : ks_c cy (fun _ _ _ => a) o k 0 0 (σ k 0 0) = E) (h : va_at D vwCl (a, E) H) : ks_W D cy (fun _ _ _ => a) (fun k' => k' = k) σ o H ∧ ks_G (fun _ _ _ => a) (fun k' => k' = k) (va_A [(a, E)] H.size) := by
  have key : ∀ k' i j, ks_v (fun k' => k' = k) k' i j → k' = k ∧ i = 0 ∧ j = 0 := by
    intro k' i j hv
    obtain ⟨h1, h2, h3, h4⟩ := hv
    have h4 : k' = k := h4
    subst h4
    rcases hk with rfl | rfl <;> exact ⟨rfl, Nat.lt_one_iff.mp h2, Nat.lt_one_iff.mp h3⟩
  refine ⟨fun k' i j hv => ?_, fun k' i j hv => ?_, fun k1 i1 j1 k2 i2 j2 hv hv' _ => ?_⟩
  · obtain ⟨rfl, rfl, rfl⟩ := key k' i j hv
    rw [hE]
    exact h
  · exact Or.inl ⟨0, E, rfl⟩
  · obtain ⟨rfl, rfl, rfl⟩ := key k1 i1 j1 hv
    obtain ⟨rfl, rfl, rfl⟩ := key k2 i2 j2 hv'
    exact ⟨rfl, rfl, rfl⟩
theorem ks_fill6 : ∃ σ1, f_fill_6 5 (fun _ _ _ _ => 0) (-1) = some σ1 ∧ ∀ j, j < 4 → σ1 6 0 0 j = -1 := by
  refine ⟨_, rfl, fun j hj => ?_⟩
  rcases (show j = 0 ∨ j = 1 ∨ j = 2 ∨ j = 3 by omega) with rfl | rfl | rfl | rfl <;> decide
theorem ks_fill7 : ∃ σ1, f_fill_7 5 (fun _ _ _ _ => 0) 0 = some σ1 ∧ ∀ j, j < 4 → σ1 7 0 0 j = 0 := by
  refine ⟨_, rfl, fun j hj => ?_⟩
  rcases (show j = 0 ∨ j = 1 ∨ j = 2 ∨ j = 3 by omega) with rfl | rfl | rfl | rfl <;> decide
/-- where a cell of the class's kinds stands in the list -/
def ks_pos (k i j : Nat) : Nat := if k = 0 then 0 else if k = 1 then 1 else if k = 2 then 2 else if k = 3 then 3 else if k = 4 then 4 else if k = 5 then 5 + i else if k = 6 then 9 else if k = 7 then 10 else if k = 8 then 11 + 9 * i else if k = 10 then 11 + 9 * i + 1 else if k = 9 then 11 + 9 * i + 2 else if k = 11 then 11 + 9 * i + (3 + j) else if k = 12 then 155 + 2 * i else 155 + 2 * i + 1
def ks_adr (h0 qt qw ql qg : Nat) (r : Nat → Nat) (qc qd : Nat) (tk : Nat → Nat) (U : Nat → Nat → Nat) (rk V : Nat → Nat) : ks_A := fun k i j => if k = 0 then h0 else if k = 1 then qt else if k = 2 then qw else if k = 3 then ql else if k = 4 then qg else if k = 5 then r i else if k = 6 then qc else if k = 7 then qd else if k = 8 then tk i else if k = 10 then U i 0 else if k = 9 then U i 1 else if k = 11 then U i (j + 2) else if k = 12 then rk i else V i
theorem ks_kin0 {k i j : Nat} (hv : ks_v ks_E0 k i j) : (k = 0 ∧ i = 0 ∧ j = 0) ∨ (k = 1 ∧ i = 0 ∧ j = 0) ∨ (k = 2 ∧ i = 0 ∧ j = 0) ∨ (k = 3 ∧ i = 0 ∧ j = 0) ∨ (k = 4 ∧ i = 0 ∧ j = 0) ∨ (k = 5 ∧ i < 4 ∧ j = 0) ∨ (k = 6 ∧ i = 0 ∧ j = 0) ∨ (k = 7 ∧ i = 0 ∧ j = 0) ∨ (k = 8 ∧ i < 16 ∧ j = 0) ∨ (k = 9 ∧ i < 16 ∧ j = 0) ∨ (k = 10 ∧ i < 16 ∧ j = 0) ∨ (k = 11 ∧ i < 16 ∧ j < 6) ∨ (k = 12 ∧ i < 8 ∧ j = 0) ∨ (k = 13 ∧ i < 8 ∧ j = 0) := by
  obtain ⟨h1, h2, h3, h4⟩ := hv
  have h4 : ks_g k = 0 := h4
  have hk : k < 14 := by
    unfold ks_g at h4
    by_cases g1 : k < 14
    · exact g1
    · rw [if_neg g1] at h4
      by_cases g2 : k < 45
      · rw [if_pos g2] at h4; omega
      · rw [if_neg g2] at h4; omega
  rcases (show k = 0 ∨ k = 1 ∨ k = 2 ∨ k = 3 ∨ k = 4 ∨ k = 5 ∨ k = 6 ∨ k = 7 ∨ k = 8 ∨ k = 9 ∨ k = 10 ∨ k = 11 ∨ k = 12 ∨ k = 13 by omega) with rfl | rfl | rfl | rfl | rfl | rfl | rfl | rfl | rfl | rfl | rfl | rfl | rfl | rfl <;> simp [ks_n1, ks_n2] at h2 h3 <;> simp [h2, h3] <;> omega
theorem ks_pos_inj {k i j k' i' j' : Nat} (hv : ks_v ks_E0 k i j) (hv' : ks_v ks_E0 k' i' j') (h : ks_pos k i j = ks_pos k' i' j') : k' = k ∧ i' = i ∧ j' = j := by
  have a := ks_kin0 hv
  have b := ks_kin0 hv'
  unfold ks_pos at h
  rcases a with ⟨rfl, a1, a2⟩ | ⟨rfl, a1, a2⟩ | ⟨rfl, a1, a2⟩ | ⟨rfl, a1, a2⟩ | ⟨rfl, a1, a2⟩ | ⟨rfl, a1, a2⟩ | ⟨rfl, a1, a2⟩ | ⟨rfl, a1, a2⟩ | ⟨rfl, a1, a2⟩ | ⟨rfl, a1, a2⟩ | ⟨rfl, a1, a2⟩ | ⟨rfl, a1, a2⟩ | ⟨rfl, a1, a2⟩ | ⟨rfl, a1, a2⟩ <;>
  rcases b with ⟨rfl, b1, b2⟩ | ⟨rfl, b1, b2⟩ | ⟨rfl, b1, b2⟩ | ⟨rfl, b1, b2⟩ | ⟨rfl, b1, b2⟩ | ⟨rfl, b1, b2⟩ | ⟨rfl, b1, b2⟩ | ⟨rfl, b1, b2⟩ | ⟨rfl, b1, b2⟩ | ⟨rfl, b1, b2⟩ | ⟨rfl, b1, b2⟩ | ⟨rfl, b1, b2⟩ | ⟨rfl, b1, b2⟩ | ⟨rfl, b1, b2⟩ <;>
  simp at h <;> omega
set_option maxHeartbeats 4000000 in
set_option maxRecDepth 100000 in
theorem ks_world0 {A : Nat → Prop} {D : va_G} {cy : Nat → ClassId} {h0 qt qw ql qg : Nat} {r : Nat → Nat} {qc qd : Nat} {f g : Nat → Option Nat} {lf cf df : Nat → Int32} {tk : Nat → Nat} {U : Nat → Nat → Nat} {rk V : Nat → Nat} {mt mk : va_W} {H : Heap} (o : Int64) (hT : ks_It cy 16 f tk U mt) (hR : ks_Ir cy 8 g lf rk V mk) (hcf : ∀ j, j < 4 → cf j = -1) (hdf : ∀ j, j < 4 → df j = 0) (hP : va_P D vwCl ((ks_b cy h0 qt qw ql qg r qc qd f g lf cf df ++ mt) ++ mk) H) (hD : va_D A ((ks_b cy h0 qt qw ql qg r qc qd f g lf cf df ++ mt) ++ mk)) : ks_W D cy (ks_adr h0 qt qw ql qg r qc qd tk U rk V) ks_E0 ks_k0 o H ∧ ks_G (ks_adr h0 qt qw ql qg r qc qd tk U rk V) ks_E0 A := by
  obtain ⟨t1, t2, t3⟩ := hT
  obtain ⟨r1, r2, r3⟩ := hR
  have hlb : (ks_b cy h0 qt qw ql qg r qc qd f g lf cf df).length = 11 := rfl
  have atT : ∀ i n, i < 16 → n < 9 → ((ks_b cy h0 qt qw ql qg r qc qd f g lf cf df ++ mt) ++ mk)[11 + 9 * i + n]? = (ks_tk cy (tk i) (U i))[n]? := by
    intro i n hi hn
    rw [List.getElem?_append_left (by rw [List.length_append, hlb, t1]; omega), List.getElem?_append_right (by rw [hlb]; omega), hlb, show 11 + 9 * i + n - 11 = 9 * i + n by omega]
    exact t3 i hi n hn
  have atR : ∀ i n, i < 8 → n < 2 → ((ks_b cy h0 qt qw ql qg r qc qd f g lf cf df ++ mt) ++ mk)[155 + 2 * i + n]? = (ks_rw cy (rk i) (V i))[n]? := by
    intro i n hi hn
    rw [List.getElem?_append_right (by rw [List.length_append, hlb, t1]; omega), List.length_append, hlb, t1, show 155 + 2 * i + n - (11 + 9 * 16) = 2 * i + n by omega]
    exact r3 i hi n hn
  have cell : ∀ k i j, ks_v ks_E0 k i j → ∃ x, ((ks_b cy h0 qt qw ql qg r qc qd f g lf cf df ++ mt) ++ mk)[ks_pos k i j]? = some (ks_adr h0 qt qw ql qg r qc qd tk U rk V k i j, x) ∧ (va_at D vwCl (ks_adr h0 qt qw ql qg r qc qd tk U rk V k i j, x) H → va_at D vwCl (ks_adr h0 qt qw ql qg r qc qd tk U rk V k i j, ks_c cy (ks_adr h0 qt qw ql qg r qc qd tk U rk V) o k i j (ks_k0 k i j)) H) := by
    intro k i j hv
    rcases ks_kin0 hv with ⟨rfl, rfl, rfl⟩ | ⟨rfl, rfl, rfl⟩ | ⟨rfl, rfl, rfl⟩ | ⟨rfl, rfl, rfl⟩ | ⟨rfl, rfl, rfl⟩ | ⟨rfl, hi, rfl⟩ | ⟨rfl, rfl, rfl⟩ | ⟨rfl, rfl, rfl⟩ | ⟨rfl, hi, rfl⟩ | ⟨rfl, hi, rfl⟩ | ⟨rfl, hi, rfl⟩ | ⟨rfl, hi, hj⟩ | ⟨rfl, hi, rfl⟩ | ⟨rfl, hi, rfl⟩
    · exact ⟨_, rfl, fun h => h⟩
    · exact ⟨_, rfl, fun h => (show H[qt]? = some (vp_cell (cy 3) _) from h).trans (congrArg some (ks_arrq (fun n hn => t2 n hn)))⟩
    · exact ⟨_, rfl, fun h => (show H[qw]? = some (vp_cell (cy 4) _) from h).trans (congrArg some (ks_arrq (fun n hn => (r2 n hn).1)))⟩
    · exact ⟨_, rfl, fun h => (show H[ql]? = some (vp_cell (cy 0) _) from h).trans (congrArg some (ks_arri (fun n hn => (r2 n hn).2)))⟩
    · exact ⟨_, rfl, fun h => (show H[qg]? = some (vp_cell (cy 6) _) from h).trans (congrArg some (ks_arrq (fun n hn => if_pos hn)))⟩
    · rcases (show i = 0 ∨ i = 1 ∨ i = 2 ∨ i = 3 by omega) with rfl | rfl | rfl | rfl <;> exact ⟨_, rfl, fun h => h⟩
    · exact ⟨_, rfl, fun h => (show H[qc]? = some (vp_cell (cy 0) _) from h).trans (congrArg some (ks_arri (fun n hn => by rw [hcf n hn]; simp [ks_k0, hn])))⟩
    · exact ⟨_, rfl, fun h => (show H[qd]? = some (vp_cell (cy 0) _) from h).trans (congrArg some (ks_arri (fun n hn => by rw [hdf n hn]; rfl)))⟩
    · exact ⟨_, (atT i 0 hi (by decide)).trans rfl, fun h => h⟩
    · exact ⟨_, (show ((ks_b cy h0 qt qw ql qg r qc qd f g lf cf df ++ mt) ++ mk)[11 + 9 * i + 2]? = _ from atT i 2 hi (by decide)).trans rfl, fun h => h⟩
    · exact ⟨_, (show ((ks_b cy h0 qt qw ql qg r qc qd f g lf cf df ++ mt) ++ mk)[11 + 9 * i + 1]? = _ from atT i 1 hi (by decide)).trans rfl, fun h => h⟩
    · rcases (show j = 0 ∨ j = 1 ∨ j = 2 ∨ j = 3 ∨ j = 4 ∨ j = 5 by omega) with rfl | rfl | rfl | rfl | rfl | rfl
      · exact ⟨_, (show ((ks_b cy h0 qt qw ql qg r qc qd f g lf cf df ++ mt) ++ mk)[11 + 9 * i + 3]? = _ from atT i 3 hi (by decide)).trans rfl, fun h => h⟩
      · exact ⟨_, (show ((ks_b cy h0 qt qw ql qg r qc qd f g lf cf df ++ mt) ++ mk)[11 + 9 * i + 4]? = _ from atT i 4 hi (by decide)).trans rfl, fun h => h⟩
      · exact ⟨_, (show ((ks_b cy h0 qt qw ql qg r qc qd f g lf cf df ++ mt) ++ mk)[11 + 9 * i + 5]? = _ from atT i 5 hi (by decide)).trans rfl, fun h => h⟩
      · exact ⟨_, (show ((ks_b cy h0 qt qw ql qg r qc qd f g lf cf df ++ mt) ++ mk)[11 + 9 * i + 6]? = _ from atT i 6 hi (by decide)).trans rfl, fun h => h⟩
      · exact ⟨_, (show ((ks_b cy h0 qt qw ql qg r qc qd f g lf cf df ++ mt) ++ mk)[11 + 9 * i + 7]? = _ from atT i 7 hi (by decide)).trans rfl, fun h => h⟩
      · exact ⟨_, (show ((ks_b cy h0 qt qw ql qg r qc qd f g lf cf df ++ mt) ++ mk)[11 + 9 * i + 8]? = _ from atT i 8 hi (by decide)).trans rfl, fun h => h⟩
    · exact ⟨_, (atR i 0 hi (by decide)).trans rfl, fun h => h⟩
    · exact ⟨_, (show ((ks_b cy h0 qt qw ql qg r qc qd f g lf cf df ++ mt) ++ mk)[155 + 2 * i + 1]? = _ from atR i 1 hi (by decide)).trans rfl, fun h => h⟩
  refine ⟨fun k i j hv => ?_, fun k i j hv => ?_, fun k i j k' i' j' hv hv' he => ?_⟩
  · obtain ⟨x, h1, h2⟩ := cell k i j hv
    exact h2 (hP _ _ h1)
  · obtain ⟨x, h1, -⟩ := cell k i j hv
    exact hD.2 _ _ h1
  · obtain ⟨x, h1, -⟩ := cell k i j hv
    obtain ⟨x', h1', -⟩ := cell k' i' j' hv'
    exact ks_pos_inj hv hv' (hD.1 _ _ _ _ h1 h1' he)
set_option maxHeartbeats 4000000 in
set_option maxRecDepth 100000 in
theorem c_X4_init (l : Launch) (D : va_G) (cy : Nat → ClassId) (h0 sz : Nat) (o : Int64) : Met l yX4_init wsX4_init (ks_Rm 3 170 1340 53) (va_Pc [.ref h0] (ks_c0P D cy sz [(h0, .inr (4, [.null, .null, .null, .null, .null, .null, .int 0, .int 0]))])) (va_Qv (fun ad : ks_A => ad 0 0 0 = h0) (fun ad t => ks_W D cy ad ks_E0 ks_k0 o t.heap ∧ ks_G ad ks_E0 (va_A [(h0, .inr (4, [.null, .null, .null, .null, .null, .null, .int 0, .int 0]))] sz)) (va_A [(h0, .inr (4, [.null, .null, .null, .null, .null, .null, .int 0, .int 0]))] sz)) 170 1340 (va_A [(h0, .inr (4, [.null, .null, .null, .null, .null, .null, .int 0, .int 0]))] sz) := by
  refine Met.ofW (cc := cX4_init) (maxL := 2) (ret := none) (by decide) rfl ?_
  intro p e s m args below meth c s₁ B hml hv
  obtain ⟨rfl, hsz, hP, hK, hD0, hN⟩ := hv
  have hx := B.exec
  have hb := B.bytes
  have hr := B.returns
  have hts := atoms_spec (ws := wsX4_init) B.pre
  have hown : s.vm.findClass RX4 = some m.cls := findClass_of_methodNamed B.named
  have hlocks := B.notSynchronized
  have hin : meth.name = "<init>" := (name_of_methodNamed B.named B.method).1
  subst hsz
  have hD := hD0.self (sz := s.heap.size)
  generalize hAe : va_A [(h0, .inr (4, [.null, .null, .null, .null, .null, .null, .int 0, .int 0]))] s.heap.size = A at hD ⊢
  have hA : ∀ q : Nat, s.heap.size ≤ q → A q := fun q h => by rw [← hAe]; exact Or.inr h
  have hS : va_S A s.heap s.heap [] := va_S.rf
  have hl := lv_entry ([.ref h0]) (n := 2) (Nat.le_of_ble_eq_true rfl)
  rw [lg_entry_eq]
  generalize (lg_sl ([.ref h0]) ++ List.replicate (2 - (lg_sl ([.ref h0])).length) Slot.unset).toArray = ls at hl ⊢
  have hl : lv_has ls 2 [(0, .ref h0)] := hl
  refine lv_aload_n hx hb dX4_init_0 rfl (lv_at hl 0 rfl) ?_
  refine W.objInit hx hb hown (hts (.methodLink RX4 1 objectInit) (by decide +kernel)) (hts (.instanceMethod objectInit) (by decide +kernel)) (hts (.code objectInit ⟨#[0xb1]⟩ 1 none) (by decide +kernel)) rfl (by rw [hml]; exact hl.1) rfl dX4_init_1 (Nat.le_of_ble_eq_true rfl) (Nat.le_of_ble_eq_true rfl) ?_
  refine W.eq (g2 := F0 m 4 ls []) rfl ?_
  refine lv_aload_n hx hb dX4_init_4 rfl (lv_at hl 0 rfl) ?_
  refine lv_bipush (v := 16) hx hb dX4_init_5 (by decide) ?_
  refine va_newq (N' := 16) hx hb hown (hts (.classLink RX4 9 RX3) (by decide +kernel)) hN.2.2.2.1 hK hP hD hS hA (by decide) (by decide) (by decide) (Nat.le_of_ble_eq_true rfl) (Nat.le_of_ble_eq_true rfl) dX4_init_7 (fun qt cA H hK hP hD hS => ?_)
  obtain rfl := ks_cyn 3 rfl hK
  have hK := hK.sub (tys' := ks_t cy) [0, 1, 2, 3, 4, 5, 6] rfl
  refine W.widen (k := 1) (n := 16) (by omega) (by omega) ?_
  have hP : va_P D vwCl [(h0, .inr (4, [.null, .null, .null, .null, .null, .null, .int 0, .int 0])), (qt, .inl (cy 3, 16, .inr (.inr (.inr (.inr (fun _ => none))))))] H := hP
  have hD : va_D A [(h0, .inr (4, [.null, .null, .null, .null, .null, .null, .int 0, .int 0])), (qt, .inl (cy 3, 16, .inr (.inr (.inr (.inr (fun _ => none))))))] := hD
  refine va_putF (D := D) (ci := 4) (v := .ref qt) (ty := .array (.object "SpinKernel$Task")) (C := RX4) (T := TX4) (N := 8) hx hb hts ks_i44 tyX4 tyX4_ok nmX4 hown hK hP hD hS 0 rfl rfl 0 (by decide) (hts (.fieldLink RX4 11 "SpinKernel" "tasks" "[LSpinKernel$Task;") (by decide +kernel)) (fun _ h9 => h9) rfl hin rfl (by decide +kernel) rfl rfl (Nat.le_of_ble_eq_true rfl) dX4_init_10 (fun H locs hP hD hS => ?_)
  have hP : va_P D vwCl [(h0, .inr (4, [.ref qt, .null, .null, .null, .null, .null, .int 0, .int 0])), (qt, .inl (cy 3, 16, .inr (.inr (.inr (.inr (fun _ => none))))))] H := hP
  have hD : va_D A [(h0, .inr (4, [.ref qt, .null, .null, .null, .null, .null, .int 0, .int 0])), (qt, .inl (cy 3, 16, .inr (.inr (.inr (.inr (fun _ => none))))))] := hD
  refine lv_aload_n hx hb dX4_init_13 rfl (lv_at hl 0 rfl) ?_
  refine lv_bipush (v := 8) hx hb dX4_init_14 (by decide) ?_
  refine va_newq (N' := 8) hx hb hown (hts (.classLink RX4 15 RX2) (by decide +kernel)) hN.2.2.2.2.1 hK hP hD hS hA (by decide) (by decide) (by decide) (Nat.le_of_ble_eq_true rfl) (Nat.le_of_ble_eq_true rfl) dX4_init_16 (fun qw cA H hK hP hD hS => ?_)
  obtain rfl := ks_cyn 4 rfl hK
  have hK := hK.sub (tys' := ks_t cy) [0, 1, 2, 3, 4, 5, 6] rfl
  refine W.widen (k := 2) (n := 24) (by omega) (by omega) ?_
  have hP : va_P D vwCl [(h0, .inr (4, [.ref qt, .null, .null, .null, .null, .null, .int 0, .int 0])), (qt, .inl (cy 3, 16, .inr (.inr (.inr (.inr (fun _ => none)))))), (qw, .inl (cy 4, 8, .inr (.inr (.inr (.inr (fun _ => none))))))] H := hP
  have hD : va_D A [(h0, .inr (4, [.ref qt, .null, .null, .null, .null, .null, .int 0, .int 0])), (qt, .inl (cy 3, 16, .inr (.inr (.inr (.inr (fun _ => none)))))), (qw, .inl (cy 4, 8, .inr (.inr (.inr (.inr (fun _ => none))))))] := hD
  refine va_putF (D := D) (ci := 4) (v := .ref qw) (ty := .array (.object "SpinKernel$Row")) (C := RX4) (T := TX4) (N := 8) hx hb hts ks_i44 tyX4 tyX4_ok nmX4 hown hK hP hD hS 0 rfl rfl 1 (by decide) (hts (.fieldLink RX4 17 "SpinKernel" "rows" "[LSpinKernel$Row;") (by decide +kernel)) (fun _ h9 => h9) rfl hin rfl (by decide +kernel) rfl rfl (Nat.le_of_ble_eq_true rfl) dX4_init_19 (fun H locs hP hD hS => ?_)
  have hP : va_P D vwCl [(h0, .inr (4, [.ref qt, .ref qw, .null, .null, .null, .null, .int 0, .int 0])), (qt, .inl (cy 3, 16, .inr (.inr (.inr (.inr (fun _ => none)))))), (qw, .inl (cy 4, 8, .inr (.inr (.inr (.inr (fun _ => none))))))] H := hP
  have hD : va_D A [(h0, .inr (4, [.ref qt, .ref qw, .null, .null, .null, .null, .int 0, .int 0])), (qt, .inl (cy 3, 16, .inr (.inr (.inr (.inr (fun _ => none)))))), (qw, .inl (cy 4, 8, .inr (.inr (.inr (.inr (fun _ => none))))))] := hD
  refine lv_aload_n hx hb dX4_init_22 rfl (lv_at hl 0 rfl) ?_
  refine lv_bipush (v := 8) hx hb dX4_init_23 (by decide) ?_
  refine va_newa (atype := .int) (ty := .int) hx hb (hts (.arrayClass .int) (by decide +kernel)) rfl hK hP hD hS hA (N' := 8) (a0 := (8, .inl (fun _ => 0))) (fun cA => rfl) (by decide) (by decide) (by decide) (Nat.le_of_ble_eq_true rfl) (Nat.le_of_ble_eq_true rfl) dX4_init_25 (fun ql cA H hK hP hD hS => ?_)
  obtain rfl := ks_cyn 0 rfl hK
  have hK := hK.sub (tys' := ks_t cy) [0, 1, 2, 3, 4, 5, 6] rfl
  refine W.widen (k := 3) (n := 32) (by omega) (by omega) ?_
  have hP : va_P D vwCl [(h0, .inr (4, [.ref qt, .ref qw, .null, .null, .null, .null, .int 0, .int 0])), (qt, .inl (cy 3, 16, .inr (.inr (.inr (.inr (fun _ => none)))))), (qw, .inl (cy 4, 8, .inr (.inr (.inr (.inr (fun _ => none)))))), (ql, .inl (cy 0, 8, .inl (fun _ => 0)))] H := hP
  have hD : va_D A [(h0, .inr (4, [.ref qt, .ref qw, .null, .null, .null, .null, .int 0, .int 0])), (qt, .inl (cy 3, 16, .inr (.inr (.inr (.inr (fun _ => none)))))), (qw, .inl (cy 4, 8, .inr (.inr (.inr (.inr (fun _ => none)))))), (ql, .inl (cy 0, 8, .inl (fun _ => 0)))] := hD
  refine va_putF (D := D) (ci := 4) (v := .ref ql) (ty := .array .int) (C := RX4) (T := TX4) (N := 8) hx hb hts ks_i44 tyX4 tyX4_ok nmX4 hown hK hP hD hS 0 rfl rfl 2 (by decide) (hts (.fieldLink RX4 21 "SpinKernel" "leastOfGroup" "[I") (by decide +kernel)) (fun _ h9 => h9) rfl hin rfl (by decide +kernel) rfl rfl (Nat.le_of_ble_eq_true rfl) dX4_init_27 (fun H locs hP hD hS => ?_)
  have hP : va_P D vwCl [(h0, .inr (4, [.ref qt, .ref qw, .ref ql, .null, .null, .null, .int 0, .int 0])), (qt, .inl (cy 3, 16, .inr (.inr (.inr (.inr (fun _ => none)))))), (qw, .inl (cy 4, 8, .inr (.inr (.inr (.inr (fun _ => none)))))), (ql, .inl (cy 0, 8, .inl (fun _ => 0)))] H := hP
  have hD : va_D A [(h0, .inr (4, [.ref qt, .ref qw, .ref ql, .null, .null, .null, .int 0, .int 0])), (qt, .inl (cy 3, 16, .inr (.inr (.inr (.inr (fun _ => none)))))), (qw, .inl (cy 4, 8, .inr (.inr (.inr (.inr (fun _ => none)))))), (ql, .inl (cy 0, 8, .inl (fun _ => 0)))] := hD
  refine lv_aload_n hx hb dX4_init_30 rfl (lv_at hl 0 rfl) ?_
  refine lv_iconst (v := 4) hx hb dX4_init_31 (by decide) ?_
  refine lv_bipush (v := 8) hx hb dX4_init_32 (by decide) ?_
  have hcl25 := hts (.classLink RX4 25 "[[I") (by decide +kernel)
  rw [show "[[I" = "[" ++ (FieldType.array .int).toString from by decide] at hcl25
  refine va_mna (n := 4) (k := 8) (X := [(h0, .inr (4, [.ref qt, .ref qw, .ref ql, .null, .null, .null, .int 0, .int 0])), (qt, .inl (cy 3, 16, .inr (.inr (.inr (.inr (fun _ => none)))))), (qw, .inl (cy 4, 8, .inr (.inr (.inr (.inr (fun _ => none)))))), (ql, .inl (cy 0, 8, .inl (fun _ => 0)))]) (L := []) (f := fun _ => .inr (0, [])) (ty := .int) (cy := cy 0) (N' := 4) (K' := 8) (z := (8, .inl (fun _ => 0))) hx hb hown hcl25 hN.2.2.2.2.2.2 (hts (.arrayClass .int) (by decide +kernel)) (hK.2 0 (cy 0, .int) rfl).2 hK (by rw [show va_pl [] (fun _ => (.inr (0, []) : va_E)) = [] from rfl, List.append_nil]; exact hP) (by rw [show va_pl [] (fun _ => (.inr (0, []) : va_E)) = [] from rfl, List.append_nil]; exact hD) hS hA (by decide) (by decide) (by decide) (by decide) (by decide) (by decide) (by decide) rfl rfl (Nat.le_of_ble_eq_true rfl) (Nat.le_of_ble_eq_true rfl) (fun c => rfl) dX4_init_34 (fun qg r cA H hinj hnot hK hP hD hS => ?_)
  obtain rfl := ks_cyn 6 rfl hK
  have hK := hK.sub (tys' := ks_t cy) [0, 1, 2, 3, 4, 5, 6] rfl
  have hrow : va_pl ([] ++ (List.range 4).map r) (vr_up (fun _ => (.inr (0, []) : va_E)) ((List.range 4).map r) (.inl (cy 0, (8, .inl (fun _ => 0))))) = [(r 0, .inl (cy 0, (8, .inl (fun _ => 0)))), (r 1, .inl (cy 0, (8, .inl (fun _ => 0)))), (r 2, .inl (cy 0, (8, .inl (fun _ => 0)))), (r 3, .inl (cy 0, (8, .inl (fun _ => 0))))] := by
    have e4 : (List.range 4).map r = [r 0, r 1, r 2, r 3] := rfl
    rw [e4]
    simp [va_pl, vr_up]
  rw [hrow] at hP hD
  refine W.widen (k := 8) (n := 68) (by omega) (by omega) ?_
  have hP : va_P D vwCl [(h0, .inr (4, [.ref qt, .ref qw, .ref ql, .null, .null, .null, .int 0, .int 0])), (qt, .inl (cy 3, 16, .inr (.inr (.inr (.inr (fun _ => none)))))), (qw, .inl (cy 4, 8, .inr (.inr (.inr (.inr (fun _ => none)))))), (ql, .inl (cy 0, 8, .inl (fun _ => 0))), (qg, .inl (cy 6, 4, .inr (.inr (.inr (.inr (fun i => if i < 4 then some (r i) else none)))))), (r 0, .inl (cy 0, 8, .inl (fun _ => 0))), (r 1, .inl (cy 0, 8, .inl (fun _ => 0))), (r 2, .inl (cy 0, 8, .inl (fun _ => 0))), (r 3, .inl (cy 0, 8, .inl (fun _ => 0)))] H := hP
  have hD : va_D A [(h0, .inr (4, [.ref qt, .ref qw, .ref ql, .null, .null, .null, .int 0, .int 0])), (qt, .inl (cy 3, 16, .inr (.inr (.inr (.inr (fun _ => none)))))), (qw, .inl (cy 4, 8, .inr (.inr (.inr (.inr (fun _ => none)))))), (ql, .inl (cy 0, 8, .inl (fun _ => 0))), (qg, .inl (cy 6, 4, .inr (.inr (.inr (.inr (fun i => if i < 4 then some (r i) else none)))))), (r 0, .inl (cy 0, 8, .inl (fun _ => 0))), (r 1, .inl (cy 0, 8, .inl (fun _ => 0))), (r 2, .inl (cy 0, 8, .inl (fun _ => 0))), (r 3, .inl (cy 0, 8, .inl (fun _ => 0)))] := hD
  refine va_putF (D := D) (ci := 4) (v := .ref qg) (ty := .array (.array .int)) (C := RX4) (T := TX4) (N := 8) hx hb hts ks_i44 tyX4 tyX4_ok nmX4 hown hK hP hD hS 0 rfl rfl 3 (by decide) (hts (.fieldLink RX4 27 "SpinKernel" "longest" "[[I") (by decide +kernel)) (fun _ h9 => h9) rfl hin rfl (by decide +kernel) rfl rfl (Nat.le_of_ble_eq_true rfl) dX4_init_38 (fun H locs hP hD hS => ?_)
  have hP : va_P D vwCl [(h0, .inr (4, [.ref qt, .ref qw, .ref ql, .ref qg, .null, .null, .int 0, .int 0])), (qt, .inl (cy 3, 16, .inr (.inr (.inr (.inr (fun _ => none)))))), (qw, .inl (cy 4, 8, .inr (.inr (.inr (.inr (fun _ => none)))))), (ql, .inl (cy 0, 8, .inl (fun _ => 0))), (qg, .inl (cy 6, 4, .inr (.inr (.inr (.inr (fun i => if i < 4 then some (r i) else none)))))), (r 0, .inl (cy 0, 8, .inl (fun _ => 0))), (r 1, .inl (cy 0, 8, .inl (fun _ => 0))), (r 2, .inl (cy 0, 8, .inl (fun _ => 0))), (r 3, .inl (cy 0, 8, .inl (fun _ => 0)))] H := hP
  have hD : va_D A [(h0, .inr (4, [.ref qt, .ref qw, .ref ql, .ref qg, .null, .null, .int 0, .int 0])), (qt, .inl (cy 3, 16, .inr (.inr (.inr (.inr (fun _ => none)))))), (qw, .inl (cy 4, 8, .inr (.inr (.inr (.inr (fun _ => none)))))), (ql, .inl (cy 0, 8, .inl (fun _ => 0))), (qg, .inl (cy 6, 4, .inr (.inr (.inr (.inr (fun i => if i < 4 then some (r i) else none)))))), (r 0, .inl (cy 0, 8, .inl (fun _ => 0))), (r 1, .inl (cy 0, 8, .inl (fun _ => 0))), (r 2, .inl (cy 0, 8, .inl (fun _ => 0))), (r 3, .inl (cy 0, 8, .inl (fun _ => 0)))] := hD
  refine lv_aload_n hx hb dX4_init_41 rfl (lv_at hl 0 rfl) ?_
  refine lv_iconst (v := 4) hx hb dX4_init_42 (by decide) ?_
  refine va_newa (atype := .int) (ty := .int) hx hb (hts (.arrayClass .int) (by decide +kernel)) rfl hK hP hD hS hA (N' := 4) (a0 := (4, .inl (fun _ => 0))) (fun cA => rfl) (by decide) (by decide) (by decide) (Nat.le_of_ble_eq_true rfl) (Nat.le_of_ble_eq_true rfl) dX4_init_43 (fun qc cA H hK hP hD hS => ?_)
  obtain rfl := ks_cyn 0 rfl hK
  have hK := hK.sub (tys' := ks_t cy) [0, 1, 2, 3, 4, 5, 6] rfl
  refine W.widen (k := 9) (n := 72) (by omega) (by omega) ?_
  have hP : va_P D vwCl [(h0, .inr (4, [.ref qt, .ref qw, .ref ql, .ref qg, .null, .null, .int 0, .int 0])), (qt, .inl (cy 3, 16, .inr (.inr (.inr (.inr (fun _ => none)))))), (qw, .inl (cy 4, 8, .inr (.inr (.inr (.inr (fun _ => none)))))), (ql, .inl (cy 0, 8, .inl (fun _ => 0))), (qg, .inl (cy 6, 4, .inr (.inr (.inr (.inr (fun i => if i < 4 then some (r i) else none)))))), (r 0, .inl (cy 0, 8, .inl (fun _ => 0))), (r 1, .inl (cy 0, 8, .inl (fun _ => 0))), (r 2, .inl (cy 0, 8, .inl (fun _ => 0))), (r 3, .inl (cy 0, 8, .inl (fun _ => 0))), (qc, .inl (cy 0, 4, .inl (fun _ => 0)))] H := hP
  have hD : va_D A [(h0, .inr (4, [.ref qt, .ref qw, .ref ql, .ref qg, .null, .null, .int 0, .int 0])), (qt, .inl (cy 3, 16, .inr (.inr (.inr (.inr (fun _ => none)))))), (qw, .inl (cy 4, 8, .inr (.inr (.inr (.inr (fun _ => none)))))), (ql, .inl (cy 0, 8, .inl (fun _ => 0))), (qg, .inl (cy 6, 4, .inr (.inr (.inr (.inr (fun i => if i < 4 then some (r i) else none)))))), (r 0, .inl (cy 0, 8, .inl (fun _ => 0))), (r 1, .inl (cy 0, 8, .inl (fun _ => 0))), (r 2, .inl (cy 0, 8, .inl (fun _ => 0))), (r 3, .inl (cy 0, 8, .inl (fun _ => 0))), (qc, .inl (cy 0, 4, .inl (fun _ => 0)))] := hD
  refine va_putF (D := D) (ci := 4) (v := .ref qc) (ty := .array .int) (C := RX4) (T := TX4) (N := 8) hx hb hts ks_i44 tyX4 tyX4_ok nmX4 hown hK hP hD hS 0 rfl rfl 4 (by decide) (hts (.fieldLink RX4 30 "SpinKernel" "taskOfCore" "[I") (by decide +kernel)) (fun _ h9 => h9) rfl hin rfl (by decide +kernel) rfl rfl (Nat.le_of_ble_eq_true rfl) dX4_init_45 (fun H locs hP hD hS => ?_)
  have hP : va_P D vwCl [(h0, .inr (4, [.ref qt, .ref qw, .ref ql, .ref qg, .ref qc, .null, .int 0, .int 0])), (qt, .inl (cy 3, 16, .inr (.inr (.inr (.inr (fun _ => none)))))), (qw, .inl (cy 4, 8, .inr (.inr (.inr (.inr (fun _ => none)))))), (ql, .inl (cy 0, 8, .inl (fun _ => 0))), (qg, .inl (cy 6, 4, .inr (.inr (.inr (.inr (fun i => if i < 4 then some (r i) else none)))))), (r 0, .inl (cy 0, 8, .inl (fun _ => 0))), (r 1, .inl (cy 0, 8, .inl (fun _ => 0))), (r 2, .inl (cy 0, 8, .inl (fun _ => 0))), (r 3, .inl (cy 0, 8, .inl (fun _ => 0))), (qc, .inl (cy 0, 4, .inl (fun _ => 0)))] H := hP
  have hD : va_D A [(h0, .inr (4, [.ref qt, .ref qw, .ref ql, .ref qg, .ref qc, .null, .int 0, .int 0])), (qt, .inl (cy 3, 16, .inr (.inr (.inr (.inr (fun _ => none)))))), (qw, .inl (cy 4, 8, .inr (.inr (.inr (.inr (fun _ => none)))))), (ql, .inl (cy 0, 8, .inl (fun _ => 0))), (qg, .inl (cy 6, 4, .inr (.inr (.inr (.inr (fun i => if i < 4 then some (r i) else none)))))), (r 0, .inl (cy 0, 8, .inl (fun _ => 0))), (r 1, .inl (cy 0, 8, .inl (fun _ => 0))), (r 2, .inl (cy 0, 8, .inl (fun _ => 0))), (r 3, .inl (cy 0, 8, .inl (fun _ => 0))), (qc, .inl (cy 0, 4, .inl (fun _ => 0)))] := hD
  refine lv_aload_n hx hb dX4_init_48 rfl (lv_at hl 0 rfl) ?_
  refine lv_iconst (v := 4) hx hb dX4_init_49 (by decide) ?_
  refine va_newa (atype := .int) (ty := .int) hx hb (hts (.arrayClass .int) (by decide +kernel)) rfl hK hP hD hS hA (N' := 4) (a0 := (4, .inl (fun _ => 0))) (fun cA => rfl) (by decide) (by decide) (by decide) (Nat.le_of_ble_eq_true rfl) (Nat.le_of_ble_eq_true rfl) dX4_init_50 (fun qd cA H hK hP hD hS => ?_)
  obtain rfl := ks_cyn 0 rfl hK
  have hK := hK.sub (tys' := ks_t cy) [0, 1, 2, 3, 4, 5, 6] rfl
  refine W.widen (k := 10) (n := 76) (by omega) (by omega) ?_
  have hP : va_P D vwCl [(h0, .inr (4, [.ref qt, .ref qw, .ref ql, .ref qg, .ref qc, .null, .int 0, .int 0])), (qt, .inl (cy 3, 16, .inr (.inr (.inr (.inr (fun _ => none)))))), (qw, .inl (cy 4, 8, .inr (.inr (.inr (.inr (fun _ => none)))))), (ql, .inl (cy 0, 8, .inl (fun _ => 0))), (qg, .inl (cy 6, 4, .inr (.inr (.inr (.inr (fun i => if i < 4 then some (r i) else none)))))), (r 0, .inl (cy 0, 8, .inl (fun _ => 0))), (r 1, .inl (cy 0, 8, .inl (fun _ => 0))), (r 2, .inl (cy 0, 8, .inl (fun _ => 0))), (r 3, .inl (cy 0, 8, .inl (fun _ => 0))), (qc, .inl (cy 0, 4, .inl (fun _ => 0))), (qd, .inl (cy 0, 4, .inl (fun _ => 0)))] H := hP
  have hD : va_D A [(h0, .inr (4, [.ref qt, .ref qw, .ref ql, .ref qg, .ref qc, .null, .int 0, .int 0])), (qt, .inl (cy 3, 16, .inr (.inr (.inr (.inr (fun _ => none)))))), (qw, .inl (cy 4, 8, .inr (.inr (.inr (.inr (fun _ => none)))))), (ql, .inl (cy 0, 8, .inl (fun _ => 0))), (qg, .inl (cy 6, 4, .inr (.inr (.inr (.inr (fun i => if i < 4 then some (r i) else none)))))), (r 0, .inl (cy 0, 8, .inl (fun _ => 0))), (r 1, .inl (cy 0, 8, .inl (fun _ => 0))), (r 2, .inl (cy 0, 8, .inl (fun _ => 0))), (r 3, .inl (cy 0, 8, .inl (fun _ => 0))), (qc, .inl (cy 0, 4, .inl (fun _ => 0))), (qd, .inl (cy 0, 4, .inl (fun _ => 0)))] := hD
  refine va_putF (D := D) (ci := 4) (v := .ref qd) (ty := .array .int) (C := RX4) (T := TX4) (N := 8) hx hb hts ks_i44 tyX4 tyX4_ok nmX4 hown hK hP hD hS 0 rfl rfl 5 (by decide) (hts (.fieldLink RX4 33 "SpinKernel" "deedOfCore" "[I") (by decide +kernel)) (fun _ h9 => h9) rfl hin rfl (by decide +kernel) rfl rfl (Nat.le_of_ble_eq_true rfl) dX4_init_52 (fun H locs hP hD hS => ?_)
  have hP : va_P D vwCl [(h0, .inr (4, [.ref qt, .ref qw, .ref ql, .ref qg, .ref qc, .ref qd, .int 0, .int 0])), (qt, .inl (cy 3, 16, .inr (.inr (.inr (.inr (fun _ => none)))))), (qw, .inl (cy 4, 8, .inr (.inr (.inr (.inr (fun _ => none)))))), (ql, .inl (cy 0, 8, .inl (fun _ => 0))), (qg, .inl (cy 6, 4, .inr (.inr (.inr (.inr (fun i => if i < 4 then some (r i) else none)))))), (r 0, .inl (cy 0, 8, .inl (fun _ => 0))), (r 1, .inl (cy 0, 8, .inl (fun _ => 0))), (r 2, .inl (cy 0, 8, .inl (fun _ => 0))), (r 3, .inl (cy 0, 8, .inl (fun _ => 0))), (qc, .inl (cy 0, 4, .inl (fun _ => 0))), (qd, .inl (cy 0, 4, .inl (fun _ => 0)))] H := hP
  have hD : va_D A [(h0, .inr (4, [.ref qt, .ref qw, .ref ql, .ref qg, .ref qc, .ref qd, .int 0, .int 0])), (qt, .inl (cy 3, 16, .inr (.inr (.inr (.inr (fun _ => none)))))), (qw, .inl (cy 4, 8, .inr (.inr (.inr (.inr (fun _ => none)))))), (ql, .inl (cy 0, 8, .inl (fun _ => 0))), (qg, .inl (cy 6, 4, .inr (.inr (.inr (.inr (fun i => if i < 4 then some (r i) else none)))))), (r 0, .inl (cy 0, 8, .inl (fun _ => 0))), (r 1, .inl (cy 0, 8, .inl (fun _ => 0))), (r 2, .inl (cy 0, 8, .inl (fun _ => 0))), (r 3, .inl (cy 0, 8, .inl (fun _ => 0))), (qc, .inl (cy 0, 4, .inl (fun _ => 0))), (qd, .inl (cy 0, 4, .inl (fun _ => 0)))] := hD
  have hP : va_P D vwCl (ks_b cy h0 qt qw ql qg r qc qd (fun _ => none) (fun _ => none) (fun _ => 0) (fun _ => 0) (fun _ => 0) ++ []) H := by rw [List.append_nil]; exact hP
  have hD : va_D A (ks_b cy h0 qt qw ql qg r qc qd (fun _ => none) (fun _ => none) (fun _ => 0) (fun _ => 0) (fun _ => 0) ++ []) := by rw [List.append_nil]; exact hD
  refine lv_iconst (v := 0) hx hb dX4_init_55 (by decide) ?_
  refine lv_istore_n (lv' := [(1, .int 0), (0, .ref h0)]) hx hb dX4_init_56 rfl hl (by decide) rfl (fun ls hl => ?_)
  refine ks_loopT hx hb hml hown hts hK hN hA (fun f tk U mt H locs ls hT hP hD hS hl => ?_) 16 0 rfl (fun _ => none) (fun _ => 0) (fun _ _ => 0) [] H locs ls ⟨rfl, fun i hi => absurd hi (Nat.not_lt_zero i), fun i hi => absurd hi (Nat.not_lt_zero i)⟩ hP hD hS hl
  refine lv_iconst (v := 0) hx hb dX4_init_82 (by decide) ?_
  refine lv_istore_n (lv' := [(1, .int 0), (0, .ref h0)]) hx hb dX4_init_83 rfl hl (by decide) rfl (fun ls hl => ?_)
  refine ks_loopR hx hb hml hown hts hK hN hA (mt := mt) (fun g lf rk V mk H locs ls hR hP hD hS hl => ?_) 8 0 rfl (fun _ => none) (fun _ => 0) (fun _ => 0) (fun _ => 0) [] H locs ls ⟨rfl, fun i hi => absurd hi (Nat.not_lt_zero i), fun i hi => absurd hi (Nat.not_lt_zero i)⟩ (by rw [List.append_nil]; exact hP) (by rw [List.append_nil]; exact hD) hS hl
  refine lv_aload_n hx hb dX4_init_116 rfl (lv_at hl 1 rfl) ?_
  refine va_get (D := D) (ci := 4) (v := .ref qc) (C := RX4) (T := TX4) (N := 8) hx hb hts ks_i44 hown hK hP 0 rfl rfl 4 (by decide) (hts (.fieldLink RX4 30 "SpinKernel" "taskOfCore" "[I") (by decide +kernel)) (fun _ h => h) rfl dX4_init_117 ?_
  refine lv_iconst (v := (-1)) hx hb dX4_init_120 (by decide) ?_
  obtain ⟨s6, hf6, hs6⟩ := ks_fill6
  have hc6 := hP 9 (qc, .inl (cy 0, 4, .inl (fun _ => 0))) rfl
  obtain ⟨hW6, hG6⟩ := ks_one cy D 6 qc o (fun _ _ _ _ => 0) (by decide) (ks_c6 cy _ o 0 0 _) hc6
  have hFc : ∀ z, va_A [(qc, (.inl (cy 0, 4, .inl (fun _ => 0)) : va_E))] H.size z → A z := by
    intro z hz
    rcases hz with ⟨n, x, hn⟩ | hz
    · have h1 : n < 1 := (List.getElem?_eq_some_iff.mp hn).1
      have h0 : n = 0 := by omega
      subst h0
      cases hn
      exact hD.2 9 _ rfl
    · exact hA z (Nat.le_trans hS.1 hz)
  refine va_callv (va_runS (As := [.ref qc, .int (-1)]) (rest := []) ⟨hx, hb, hml, hown, hts⟩ (m_fill_6 l D cy (fun _ _ _ => qc) (fun k => k = 6) _ hG6 (fun k h => h) o hf6) (va_cwS 2 hts gX4_init_J7_fill_53178 rfl rfl rfl (by decide +kernel) ⟨(Nat.le_of_ble_eq_true rfl), (Nat.le_of_ble_eq_true rfl)⟩) ⟨ks_U.blind, fun U hU hWm => ⟨rfl, trivial, by rw [hU]; exact hW6, va_K.moved hWm.alike hK⟩⟩ rfl rfl hl.1 rfl (lv_room (Nat.le_of_ble_eq_true rfl)) dX4_init_121 ⟨(Nat.le_of_ble_eq_true rfl), (Nat.le_of_ble_eq_true rfl)⟩) hS (fun z _ h => hFc z h) hFc (fun u t9 H1 locs ht9 hvm hw hB hz1 hk1 hS => ?_)
  have hw : u = s6 := hw
  subst hw
  have hn6 := hB.2.1 6 0 0 (ks_v6 (i := 0) (j := 0) rfl)
  rw [ks_c6, ht9] at hn6
  obtain ⟨hP, hD⟩ := ks_setP hP hD (p := 9) rfl hn6 hk1
  generalize H1 = H at hP hS ⊢
  have hP : va_P D vwCl ((ks_b cy h0 qt qw ql qg r qc qd f g lf (u 6 0 0) (fun _ => 0) ++ mt) ++ mk) H := hP
  have hD : va_D A ((ks_b cy h0 qt qw ql qg r qc qd f g lf (u 6 0 0) (fun _ => 0) ++ mt) ++ mk) := hD
  obtain ⟨u6, hu6⟩ : ∃ z : Nat → Int32, z = u 6 0 0 := ⟨_, rfl⟩
  rw [← hu6] at hP hD hs6
  refine lv_aload_n hx hb dX4_init_124 rfl (lv_at hl 1 rfl) ?_
  refine va_get (D := D) (ci := 4) (v := .ref qd) (C := RX4) (T := TX4) (N := 8) hx hb hts ks_i44 hown hK hP 0 rfl rfl 5 (by decide) (hts (.fieldLink RX4 33 "SpinKernel" "deedOfCore" "[I") (by decide +kernel)) (fun _ h => h) rfl dX4_init_125 ?_
  refine lv_iconst (v := 0) hx hb dX4_init_128 (by decide) ?_
  obtain ⟨s7, hf7, hs7⟩ := ks_fill7
  have hc7 := hP 10 (qd, .inl (cy 0, 4, .inl (fun _ => 0))) rfl
  obtain ⟨hW7, hG7⟩ := ks_one cy D 7 qd o (fun _ _ _ _ => 0) (by decide) (ks_c7 cy _ o 0 0 _) hc7
  have hFc : ∀ z, va_A [(qd, (.inl (cy 0, 4, .inl (fun _ => 0)) : va_E))] H.size z → A z := by
    intro z hz
    rcases hz with ⟨n, x, hn⟩ | hz
    · have h1 : n < 1 := (List.getElem?_eq_some_iff.mp hn).1
      have h0 : n = 0 := by omega
      subst h0
      cases hn
      exact hD.2 10 _ rfl
    · exact hA z (Nat.le_trans hS.1 hz)
  refine va_callv (va_runS (As := [.ref qd, .int 0]) (rest := []) ⟨hx, hb, hml, hown, hts⟩ (m_fill_7 l D cy (fun _ _ _ => qd) (fun k => k = 7) _ hG7 (fun k h => h) o hf7) (va_cwS 2 hts gX4_init_J7_fill_53178 rfl rfl rfl (by decide +kernel) ⟨(Nat.le_of_ble_eq_true rfl), (Nat.le_of_ble_eq_true rfl)⟩) ⟨ks_U.blind, fun U hU hWm => ⟨rfl, trivial, by rw [hU]; exact hW7, va_K.moved hWm.alike hK⟩⟩ rfl rfl hl.1 rfl (lv_room (Nat.le_of_ble_eq_true rfl)) dX4_init_129 ⟨(Nat.le_of_ble_eq_true rfl), (Nat.le_of_ble_eq_true rfl)⟩) hS (fun z _ h => hFc z h) hFc (fun u t9 H1 locs ht9 hvm hw hB hz1 hk1 hS => ?_)
  have hw : u = s7 := hw
  subst hw
  have hn7 := hB.2.1 7 0 0 (ks_v7 (i := 0) (j := 0) rfl)
  rw [ks_c7, ht9] at hn7
  obtain ⟨hP, hD⟩ := ks_setP hP hD (p := 10) rfl hn7 hk1
  generalize H1 = H at hP hS ⊢
  have hP : va_P D vwCl ((ks_b cy h0 qt qw ql qg r qc qd f g lf u6 (u 7 0 0) ++ mt) ++ mk) H := hP
  have hD : va_D A ((ks_b cy h0 qt qw ql qg r qc qd f g lf u6 (u 7 0 0) ++ mt) ++ mk) := hD
  obtain ⟨hWn, hGn⟩ := ks_world0 o hT hR hs6 hs7 hP hD
  exact W.vret hx hb hr (fun t ht hWm => ⟨⟨ks_adr h0 qt qw ql qg r qc qd tk U rk V, rfl, rfl, by rw [ht]; exact hWn, hGn⟩, hS.F ht⟩) hS.2.2 dX4_init_132
