/-! java/util/Arrays.fill([II)V -/
def f_fill_5_5 (N : Nat) : Nat → ks_S → Nat → Int32 → Int32 → Int32 → Option ks_S
  | 0, _, _, _, _, _ => none
  | n + 1, σ, a0, x1, x2, x3 => (if x3 ≤ x2 then some σ else (if ks_in x2 8 = true then f_fill_5_5 N n ((ks_up σ 5 a0 0 x2.toNatClampNeg x1)) a0 x1 ((x2 + 1)) x3 else none))
def f_fill_5 (N : Nat) (σ : ks_S) (a0 : Nat) (x1 : Int32) : Option ks_S :=
  f_fill_5_5 N N σ a0 x1 0 8
set_option maxHeartbeats 4000000 in
set_option maxRecDepth 100000 in
theorem t_fill_5_5 {p : Program} {l : Launch} {e : Env} {s : State} {m : MethodId} {args : Array Value} {below : List Frame} {meth : Method} {c : Code} {D : va_G} {cy : Nat → ClassId} {ad : ks_A} {En : Nat → Prop} {n0 : Nat → Prop} {σ0 : ks_S} {o : Int64} {N : Nat} {out : ks_S} (C : ks_M p s m args meth c D cy ad En (fun k => k = 5) n0 σ0 o wsJ7_fill_53178 cJ7_fill_53178 RJ7 4 (none)) : ∀ (n : Nat) (σ : ks_S) (a0 : Nat) (x1 : Int32) (x2 : Int32) (x3 : Int32), ks_v En 5 a0 0 → f_fill_5_5 N n σ a0 x1 x2 x3 = some out → ∀ {H : Heap} {locs : List Loc} {ls : Array Slot}, ks_W D cy ad En σ o H → va_S (ks_F n0) s.heap H locs → lv_has ls 4 [(0, .ref (ad 5 a0 0)), (1, .int x1), (2, .int x2), (3, .int x3)] → W p l e (ks_Rm 0 0 0 0) s m args below meth c H locs 0 0 (MQ below (ks_Qv D cy ad En n0 o out) args s 0 0 (ks_F n0)) (F0 m 5 ls []) := by
  obtain ⟨hx, hb, hml, hr, hown, hts, hlocks, hG, hU0, hE⟩ := id C
  have hK := hU0.2.2
  intro n
  induction n with
  | zero => intro σ a0 x1 x2 x3; intro v0 hf; exact absurd hf (by simp [f_fill_5_5])
  | succ n hk5 =>
    intro σ a0 x1 x2 x3 v0 hf H locs ls hW hS hl
    rw [f_fill_5_5] at hf
    refine lv_iload_n hx hb dJ7_fill_53178_5 rfl (lv_at hl 2 rfl) ?_
    refine lv_iload_n hx hb dJ7_fill_53178_6 rfl (lv_at hl 3 rfl) ?_
    refine lv_icmp_ge (tgt := 20) hx hb dJ7_fill_53178_7 (by decide) (fun c1 => ?_) (fun c1 => ?_)
    · rw [if_pos c1] at hf
      exact ks_vret C hf hW hS dJ7_fill_53178_20
    · rw [if_neg c1] at hf
      refine lv_aload_n hx hb dJ7_fill_53178_10 rfl (lv_at hl 0 rfl) ?_
      refine lv_iload_n hx hb dJ7_fill_53178_11 rfl (lv_at hl 2 rfl) ?_
      refine lv_iload_n hx hb dJ7_fill_53178_12 rfl (lv_at hl 1 rfl) ?_
      obtain ⟨hi2, hf⟩ := ks_guard hf
      refine ks_iast hx hb hK hG hW hS v0 (fun c => ks_c5 cy ad o a0 0 c) hi2 dJ7_fill_53178_13 (fun H locs hW hS => ?_)
      refine lv_iinc (v := (x2 + 1)) (lv' := [(2, .int (x2 + 1)), (0, .ref (ad 5 a0 0)), (1, .int x1), (3, .int x3)]) hx hb dJ7_fill_53178_14 hl (k := 2) rfl rfl (by decide) rfl (fun ls hl => ?_)
      refine lv_goto (tgt := 5) hx hb dJ7_fill_53178_17 (by decide) ?_
      exact hk5 _ _ _ _ _ v0 hf hW hS (lv_sub hl [1, 2, 0, 3] rfl)
set_option maxHeartbeats 4000000 in
set_option maxRecDepth 100000 in
theorem t_fill_5 {p : Program} {l : Launch} {e : Env} {s : State} {m : MethodId} {args : Array Value} {below : List Frame} {meth : Method} {c : Code} {D : va_G} {cy : Nat → ClassId} {ad : ks_A} {En : Nat → Prop} {n0 : Nat → Prop} {σ0 : ks_S} {o : Int64} {N : Nat} {out : ks_S} (C : ks_M p s m args meth c D cy ad En (fun k => k = 5) n0 σ0 o wsJ7_fill_53178 cJ7_fill_53178 RJ7 4 (none)) {σ : ks_S} {a0 : Nat} {x1 : Int32} (v0 : ks_v En 5 a0 0) (hf : f_fill_5 N σ a0 x1 = some out) {H : Heap} {locs : List Loc} {ls : Array Slot} (hW : ks_W D cy ad En σ o H) (hS : va_S (ks_F n0) s.heap H locs) (hl : lv_has ls 4 [(0, .ref (ad 5 a0 0)), (1, .int x1)]) : W p l e (ks_Rm 0 0 0 0) s m args below meth c H locs 0 0 (MQ below (ks_Qv D cy ad En n0 o out) args s 0 0 (ks_F n0)) (F0 m 0 ls []) := by
  obtain ⟨hx, hb, hml, hr, hown, hts, hlocks, hG, hU0, hE⟩ := id C
  have hK := hU0.2.2
  unfold f_fill_5 at hf
  refine lv_iconst (v := 0) hx hb dJ7_fill_53178_0 (by decide) ?_
  refine lv_istore_n (lv' := [(2, .int 0), (0, .ref (ad 5 a0 0)), (1, .int x1)]) hx hb dJ7_fill_53178_1 rfl hl (by decide) rfl (fun ls hl => ?_)
  refine lv_aload_n hx hb dJ7_fill_53178_2 rfl (lv_at hl 1 rfl) ?_
  refine ks_alen hx hb hK hW v0 0 (ks_c5 cy ad o a0 0 _) rfl (v := 8) rfl dJ7_fill_53178_3 ?_
  refine lv_istore_n (lv' := [(3, .int 8), (2, .int 0), (0, .ref (ad 5 a0 0)), (1, .int x1)]) hx hb dJ7_fill_53178_4 rfl hl (by decide) rfl (fun ls hl => ?_)
  exact t_fill_5_5 C _ _ _ _ _ _ v0 hf hW hS (lv_sub hl [2, 3, 1, 0] rfl)
set_option maxHeartbeats 4000000 in
set_option maxRecDepth 100000 in
theorem m_fill_5 (l : Launch) (D : va_G) (cy : Nat → ClassId) (ad : ks_A) (En : Nat → Prop) (n0 : Nat → Prop) (hG : ks_G ad En n0) (hE : ∀ k, k = 5 → En k) (o : Int64) {N : Nat} {σ : ks_S} {a0 : Nat} {x1 : Int32} (v0 : ks_v En 5 a0 0) {out : ks_S} (hf : f_fill_5 N σ a0 x1 = some out) : Met l yJ7_fill_53178 wsJ7_fill_53178 (ks_Rm 0 0 0 0) (va_Pc [.ref (ad 5 a0 0), .int x1] (ks_U D cy ad En n0 σ o)) (ks_Qv D cy ad En n0 o out) 0 0 (ks_F n0) := by
  refine Met.ofW (cc := cJ7_fill_53178) (maxL := 4) (ret := none) (by decide) rfl ?_
  intro p e s m args below meth c s₁ B hml hv
  obtain ⟨rfl, hU⟩ := hv
  have hl := lv_entry ([.ref (ad 5 a0 0), .int x1]) (n := 4) (Nat.le_of_ble_eq_true rfl)
  rw [lg_entry_eq]
  generalize (lg_sl ([.ref (ad 5 a0 0), .int x1]) ++ List.replicate (4 - (lg_sl ([.ref (ad 5 a0 0), .int x1])).length) Slot.unset).toArray = ls at hl ⊢
  exact t_fill_5 ⟨B.exec, B.bytes, hml, B.returns, findClass_of_methodNamed B.named, atoms_spec (ws := wsJ7_fill_53178) B.pre, B.notSynchronized, hG, hU, hE⟩ v0 hf hU.2.1 va_S.rf hl

/-! java/util/Arrays.fill([II)V -/
def f_fill_6_5 (N : Nat) : Nat → ks_S → Int32 → Int32 → Int32 → Option ks_S
  | 0, _, _, _, _ => none
  | n + 1, σ, x1, x2, x3 => (if x3 ≤ x2 then some σ else (if ks_in x2 4 = true then f_fill_6_5 N n ((ks_up σ 6 0 0 x2.toNatClampNeg x1)) x1 ((x2 + 1)) x3 else none))
def f_fill_6 (N : Nat) (σ : ks_S) (x1 : Int32) : Option ks_S :=
  f_fill_6_5 N N σ x1 0 4
set_option maxHeartbeats 4000000 in
set_option maxRecDepth 100000 in
theorem t_fill_6_5 {p : Program} {l : Launch} {e : Env} {s : State} {m : MethodId} {args : Array Value} {below : List Frame} {meth : Method} {c : Code} {D : va_G} {cy : Nat → ClassId} {ad : ks_A} {En : Nat → Prop} {n0 : Nat → Prop} {σ0 : ks_S} {o : Int64} {N : Nat} {out : ks_S} (C : ks_M p s m args meth c D cy ad En (fun k => k = 6) n0 σ0 o wsJ7_fill_53178 cJ7_fill_53178 RJ7 4 (none)) : ∀ (n : Nat) (σ : ks_S) (x1 : Int32) (x2 : Int32) (x3 : Int32), f_fill_6_5 N n σ x1 x2 x3 = some out → ∀ {H : Heap} {locs : List Loc} {ls : Array Slot}, ks_W D cy ad En σ o H → va_S (ks_F n0) s.heap H locs → lv_has ls 4 [(0, .ref (ad 6 0 0)), (1, .int x1), (2, .int x2), (3, .int x3)] → W p l e (ks_Rm 0 0 0 0) s m args below meth c H locs 0 0 (MQ below (ks_Qv D cy ad En n0 o out) args s 0 0 (ks_F n0)) (F0 m 5 ls []) := by
  obtain ⟨hx, hb, hml, hr, hown, hts, hlocks, hG, hU0, hE⟩ := id C
  have hK := hU0.2.2
  intro n
  induction n with
  | zero => intro σ x1 x2 x3; intro  hf; exact absurd hf (by simp [f_fill_6_5])
  | succ n hk5 =>
    intro σ x1 x2 x3  hf H locs ls hW hS hl
    rw [f_fill_6_5] at hf
    refine lv_iload_n hx hb dJ7_fill_53178_5 rfl (lv_at hl 2 rfl) ?_
    refine lv_iload_n hx hb dJ7_fill_53178_6 rfl (lv_at hl 3 rfl) ?_
    refine lv_icmp_ge (tgt := 20) hx hb dJ7_fill_53178_7 (by decide) (fun c1 => ?_) (fun c1 => ?_)
    · rw [if_pos c1] at hf
      exact ks_vret C hf hW hS dJ7_fill_53178_20
    · rw [if_neg c1] at hf
      refine lv_aload_n hx hb dJ7_fill_53178_10 rfl (lv_at hl 0 rfl) ?_
      refine lv_iload_n hx hb dJ7_fill_53178_11 rfl (lv_at hl 2 rfl) ?_
      refine lv_iload_n hx hb dJ7_fill_53178_12 rfl (lv_at hl 1 rfl) ?_
      obtain ⟨hi2, hf⟩ := ks_guard hf
      refine ks_iast hx hb hK hG hW hS (ks_v6 (i := 0) (j := 0) (hE 6 rfl)) (fun c => ks_c6 cy ad o 0 0 c) hi2 dJ7_fill_53178_13 (fun H locs hW hS => ?_)
      refine lv_iinc (v := (x2 + 1)) (lv' := [(2, .int (x2 + 1)), (0, .ref (ad 6 0 0)), (1, .int x1), (3, .int x3)]) hx hb dJ7_fill_53178_14 hl (k := 2) rfl rfl (by decide) rfl (fun ls hl => ?_)
      refine lv_goto (tgt := 5) hx hb dJ7_fill_53178_17 (by decide) ?_
      exact hk5 _ _ _ _ hf hW hS (lv_sub hl [1, 2, 0, 3] rfl)
set_option maxHeartbeats 4000000 in
set_option maxRecDepth 100000 in
theorem t_fill_6 {p : Program} {l : Launch} {e : Env} {s : State} {m : MethodId} {args : Array Value} {below : List Frame} {meth : Method} {c : Code} {D : va_G} {cy : Nat → ClassId} {ad : ks_A} {En : Nat → Prop} {n0 : Nat → Prop} {σ0 : ks_S} {o : Int64} {N : Nat} {out : ks_S} (C : ks_M p s m args meth c D cy ad En (fun k => k = 6) n0 σ0 o wsJ7_fill_53178 cJ7_fill_53178 RJ7 4 (none)) {σ : ks_S} {x1 : Int32}  (hf : f_fill_6 N σ x1 = some out) {H : Heap} {locs : List Loc} {ls : Array Slot} (hW : ks_W D cy ad En σ o H) (hS : va_S (ks_F n0) s.heap H locs) (hl : lv_has ls 4 [(0, .ref (ad 6 0 0)), (1, .int x1)]) : W p l e (ks_Rm 0 0 0 0) s m args below meth c H locs 0 0 (MQ below (ks_Qv D cy ad En n0 o out) args s 0 0 (ks_F n0)) (F0 m 0 ls []) := by
  obtain ⟨hx, hb, hml, hr, hown, hts, hlocks, hG, hU0, hE⟩ := id C
  have hK := hU0.2.2
  unfold f_fill_6 at hf
  refine lv_iconst (v := 0) hx hb dJ7_fill_53178_0 (by decide) ?_
  refine lv_istore_n (lv' := [(2, .int 0), (0, .ref (ad 6 0 0)), (1, .int x1)]) hx hb dJ7_fill_53178_1 rfl hl (by decide) rfl (fun ls hl => ?_)
  refine lv_aload_n hx hb dJ7_fill_53178_2 rfl (lv_at hl 1 rfl) ?_
  refine ks_alen hx hb hK hW (ks_v6 (i := 0) (j := 0) (hE 6 rfl)) 0 (ks_c6 cy ad o 0 0 _) rfl (v := 4) rfl dJ7_fill_53178_3 ?_
  refine lv_istore_n (lv' := [(3, .int 4), (2, .int 0), (0, .ref (ad 6 0 0)), (1, .int x1)]) hx hb dJ7_fill_53178_4 rfl hl (by decide) rfl (fun ls hl => ?_)
  exact t_fill_6_5 C _ _ _ _ _  hf hW hS (lv_sub hl [2, 3, 1, 0] rfl)
set_option maxHeartbeats 4000000 in
set_option maxRecDepth 100000 in
theorem m_fill_6 (l : Launch) (D : va_G) (cy : Nat → ClassId) (ad : ks_A) (En : Nat → Prop) (n0 : Nat → Prop) (hG : ks_G ad En n0) (hE : ∀ k, k = 6 → En k) (o : Int64) {N : Nat} {σ : ks_S} {x1 : Int32}  {out : ks_S} (hf : f_fill_6 N σ x1 = some out) : Met l yJ7_fill_53178 wsJ7_fill_53178 (ks_Rm 0 0 0 0) (va_Pc [.ref (ad 6 0 0), .int x1] (ks_U D cy ad En n0 σ o)) (ks_Qv D cy ad En n0 o out) 0 0 (ks_F n0) := by
  refine Met.ofW (cc := cJ7_fill_53178) (maxL := 4) (ret := none) (by decide) rfl ?_
  intro p e s m args below meth c s₁ B hml hv
  obtain ⟨rfl, hU⟩ := hv
  have hl := lv_entry ([.ref (ad 6 0 0), .int x1]) (n := 4) (Nat.le_of_ble_eq_true rfl)
  rw [lg_entry_eq]
  generalize (lg_sl ([.ref (ad 6 0 0), .int x1]) ++ List.replicate (4 - (lg_sl ([.ref (ad 6 0 0), .int x1])).length) Slot.unset).toArray = ls at hl ⊢
  exact t_fill_6 ⟨B.exec, B.bytes, hml, B.returns, findClass_of_methodNamed B.named, atoms_spec (ws := wsJ7_fill_53178) B.pre, B.notSynchronized, hG, hU, hE⟩  hf hU.2.1 va_S.rf hl

/-! java/util/Arrays.fill([II)V -/
def f_fill_7_5 (N : Nat) : Nat → ks_S → Int32 → Int32 → Int32 → Option ks_S
  | 0, _, _, _, _ => none
  | n + 1, σ, x1, x2, x3 => (if x3 ≤ x2 then some σ else (if ks_in x2 4 = true then f_fill_7_5 N n ((ks_up σ 7 0 0 x2.toNatClampNeg x1)) x1 ((x2 + 1)) x3 else none))
def f_fill_7 (N : Nat) (σ : ks_S) (x1 : Int32) : Option ks_S :=
  f_fill_7_5 N N σ x1 0 4
set_option maxHeartbeats 4000000 in
set_option maxRecDepth 100000 in
theorem t_fill_7_5 {p : Program} {l : Launch} {e : Env} {s : State} {m : MethodId} {args : Array Value} {below : List Frame} {meth : Method} {c : Code} {D : va_G} {cy : Nat → ClassId} {ad : ks_A} {En : Nat → Prop} {n0 : Nat → Prop} {σ0 : ks_S} {o : Int64} {N : Nat} {out : ks_S} (C : ks_M p s m args meth c D cy ad En (fun k => k = 7) n0 σ0 o wsJ7_fill_53178 cJ7_fill_53178 RJ7 4 (none)) : ∀ (n : Nat) (σ : ks_S) (x1 : Int32) (x2 : Int32) (x3 : Int32), f_fill_7_5 N n σ x1 x2 x3 = some out → ∀ {H : Heap} {locs : List Loc} {ls : Array Slot}, ks_W D cy ad En σ o H → va_S (ks_F n0) s.heap H locs → lv_has ls 4 [(0, .ref (ad 7 0 0)), (1, .int x1), (2, .int x2), (3, .int x3)] → W p l e (ks_Rm 0 0 0 0) s m args below meth c H locs 0 0 (MQ below (ks_Qv D cy ad En n0 o out) args s 0 0 (ks_F n0)) (F0 m 5 ls []) := by
  obtain ⟨hx, hb, hml, hr, hown, hts, hlocks, hG, hU0, hE⟩ := id C
  have hK := hU0.2.2
  intro n
  induction n with
  | zero => intro σ x1 x2 x3; intro  hf; exact absurd hf (by simp [f_fill_7_5])
  | succ n hk5 =>
    intro σ x1 x2 x3  hf H locs ls hW hS hl
    rw [f_fill_7_5] at hf
    refine lv_iload_n hx hb dJ7_fill_53178_5 rfl (lv_at hl 2 rfl) ?_
    refine lv_iload_n hx hb dJ7_fill_53178_6 rfl (lv_at hl 3 rfl) ?_
    refine lv_icmp_ge (tgt := 20) hx hb dJ7_fill_53178_7 (by decide) (fun c1 => ?_) (fun c1 => ?_)
    · rw [if_pos c1] at hf
      exact ks_vret C hf hW hS dJ7_fill_53178_20
    · rw [if_neg c1] at hf
      refine lv_aload_n hx hb dJ7_fill_53178_10 rfl (lv_at hl 0 rfl) ?_
      refine lv_iload_n hx hb dJ7_fill_53178_11 rfl (lv_at hl 2 rfl) ?_
      refine lv_iload_n hx hb dJ7_fill_53178_12 rfl (lv_at hl 1 rfl) ?_
      obtain ⟨hi2, hf⟩ := ks_guard hf
      refine ks_iast hx hb hK hG hW hS (ks_v7 (i := 0) (j := 0) (hE 7 rfl)) (fun c => ks_c7 cy ad o 0 0 c) hi2 dJ7_fill_53178_13 (fun H locs hW hS => ?_)
      refine lv_iinc (v := (x2 + 1)) (lv' := [(2, .int (x2 + 1)), (0, .ref (ad 7 0 0)), (1, .int x1), (3, .int x3)]) hx hb dJ7_fill_53178_14 hl (k := 2) rfl rfl (by decide) rfl (fun ls hl => ?_)
      refine lv_goto (tgt := 5) hx hb dJ7_fill_53178_17 (by decide) ?_
      exact hk5 _ _ _ _ hf hW hS (lv_sub hl [1, 2, 0, 3] rfl)
set_option maxHeartbeats 4000000 in
set_option maxRecDepth 100000 in
theorem t_fill_7 {p : Program} {l : Launch} {e : Env} {s : State} {m : MethodId} {args : Array Value} {below : List Frame} {meth : Method} {c : Code} {D : va_G} {cy : Nat → ClassId} {ad : ks_A} {En : Nat → Prop} {n0 : Nat → Prop} {σ0 : ks_S} {o : Int64} {N : Nat} {out : ks_S} (C : ks_M p s m args meth c D cy ad En (fun k => k = 7) n0 σ0 o wsJ7_fill_53178 cJ7_fill_53178 RJ7 4 (none)) {σ : ks_S} {x1 : Int32}  (hf : f_fill_7 N σ x1 = some out) {H : Heap} {locs : List Loc} {ls : Array Slot} (hW : ks_W D cy ad En σ o H) (hS : va_S (ks_F n0) s.heap H locs) (hl : lv_has ls 4 [(0, .ref (ad 7 0 0)), (1, .int x1)]) : W p l e (ks_Rm 0 0 0 0) s m args below meth c H locs 0 0 (MQ below (ks_Qv D cy ad En n0 o out) args s 0 0 (ks_F n0)) (F0 m 0 ls []) := by
  obtain ⟨hx, hb, hml, hr, hown, hts, hlocks, hG, hU0, hE⟩ := id C
  have hK := hU0.2.2
  unfold f_fill_7 at hf
  refine lv_iconst (v := 0) hx hb dJ7_fill_53178_0 (by decide) ?_
  refine lv_istore_n (lv' := [(2, .int 0), (0, .ref (ad 7 0 0)), (1, .int x1)]) hx hb dJ7_fill_53178_1 rfl hl (by decide) rfl (fun ls hl => ?_)
  refine lv_aload_n hx hb dJ7_fill_53178_2 rfl (lv_at hl 1 rfl) ?_
  refine ks_alen hx hb hK hW (ks_v7 (i := 0) (j := 0) (hE 7 rfl)) 0 (ks_c7 cy ad o 0 0 _) rfl (v := 4) rfl dJ7_fill_53178_3 ?_
  refine lv_istore_n (lv' := [(3, .int 4), (2, .int 0), (0, .ref (ad 7 0 0)), (1, .int x1)]) hx hb dJ7_fill_53178_4 rfl hl (by decide) rfl (fun ls hl => ?_)
  exact t_fill_7_5 C _ _ _ _ _  hf hW hS (lv_sub hl [2, 3, 1, 0] rfl)
set_option maxHeartbeats 4000000 in
set_option maxRecDepth 100000 in
theorem m_fill_7 (l : Launch) (D : va_G) (cy : Nat → ClassId) (ad : ks_A) (En : Nat → Prop) (n0 : Nat → Prop) (hG : ks_G ad En n0) (hE : ∀ k, k = 7 → En k) (o : Int64) {N : Nat} {σ : ks_S} {x1 : Int32}  {out : ks_S} (hf : f_fill_7 N σ x1 = some out) : Met l yJ7_fill_53178 wsJ7_fill_53178 (ks_Rm 0 0 0 0) (va_Pc [.ref (ad 7 0 0), .int x1] (ks_U D cy ad En n0 σ o)) (ks_Qv D cy ad En n0 o out) 0 0 (ks_F n0) := by
  refine Met.ofW (cc := cJ7_fill_53178) (maxL := 4) (ret := none) (by decide) rfl ?_
  intro p e s m args below meth c s₁ B hml hv
  obtain ⟨rfl, hU⟩ := hv
  have hl := lv_entry ([.ref (ad 7 0 0), .int x1]) (n := 4) (Nat.le_of_ble_eq_true rfl)
  rw [lg_entry_eq]
  generalize (lg_sl ([.ref (ad 7 0 0), .int x1]) ++ List.replicate (4 - (lg_sl ([.ref (ad 7 0 0), .int x1])).length) Slot.unset).toArray = ls at hl ⊢
  exact t_fill_7 ⟨B.exec, B.bytes, hml, B.returns, findClass_of_methodNamed B.named, atoms_spec (ws := wsJ7_fill_53178) B.pre, B.notSynchronized, hG, hU, hE⟩  hf hU.2.1 va_S.rf hl

/-! SpinKernel.isWithin(III)Z -/
def f_X4_isWithin (σ : ks_S) (x0 : Int32) (x1 : Int32) (x2 : Int32) : Option (Int32 × ks_S) :=
  (if x0 < x1 then some (0, σ) else (if x2 < x0 then some (0, σ) else some (1, σ)))
set_option maxHeartbeats 4000000 in
set_option maxRecDepth 100000 in
theorem t_X4_isWithin {p : Program} {l : Launch} {e : Env} {s : State} {m : MethodId} {args : Array Value} {below : List Frame} {meth : Method} {c : Code} {D : va_G} {cy : Nat → ClassId} {ad : ks_A} {En : Nat → Prop} {n0 : Nat → Prop} {σ0 : ks_S} {o : Int64} {out : (Int32 × ks_S)} (C : ks_M p s m args meth c D cy ad En (fun k => ks_g k = 0) n0 σ0 o wsX4_isWithin cX4_isWithin RX4 3 (some .boolean)) {σ : ks_S} {x0 : Int32} {x1 : Int32} {x2 : Int32}  (hf : f_X4_isWithin σ x0 x1 x2 = some out) {H : Heap} {locs : List Loc} {ls : Array Slot} (hW : ks_W D cy ad En σ o H) (hS : va_S (ks_F n0) s.heap H locs) (hl : lv_has ls 3 [(0, .int x0), (1, .int x1), (2, .int x2)]) : W p l e (ks_Rm 0 0 0 0) s m args below meth c H locs 0 0 (MQ below (ks_Qi D cy ad En n0 o out) args s 0 0 (ks_F n0)) (F0 m 0 ls []) := by
  obtain ⟨hx, hb, hml, hr, hown, hts, hlocks, hG, hU0, hE⟩ := id C
  have hK := hU0.2.2
  unfold f_X4_isWithin at hf
  refine lv_iload_n hx hb dX4_isWithin_0 rfl (lv_at hl 0 rfl) ?_
  refine lv_iload_n hx hb dX4_isWithin_1 rfl (lv_at hl 1 rfl) ?_
  refine lv_icmp_lt (tgt := 14) hx hb dX4_isWithin_2 (by decide) (fun c1 => ?_) (fun c1 => ?_)
  · rw [if_pos c1] at hf
    refine lv_iconst (v := 0) hx hb dX4_isWithin_14 (by decide) ?_
    exact ks_zret C rfl hf hW hS dX4_isWithin_15
  · rw [if_neg c1] at hf
    refine lv_iload_n hx hb dX4_isWithin_5 rfl (lv_at hl 0 rfl) ?_
    refine lv_iload_n hx hb dX4_isWithin_6 rfl (lv_at hl 2 rfl) ?_
    refine lv_icmp_gt (tgt := 14) hx hb dX4_isWithin_7 (by decide) (fun c2 => ?_) (fun c2 => ?_)
    · rw [if_pos c2] at hf
      refine lv_iconst (v := 0) hx hb dX4_isWithin_14 (by decide) ?_
      exact ks_zret C rfl hf hW hS dX4_isWithin_15
    · rw [if_neg c2] at hf
      refine lv_iconst (v := 1) hx hb dX4_isWithin_10 (by decide) ?_
      refine lv_goto (tgt := 15) hx hb dX4_isWithin_11 (by decide) ?_
      exact ks_zret C rfl hf hW hS dX4_isWithin_15
set_option maxHeartbeats 4000000 in
set_option maxRecDepth 100000 in
theorem m_X4_isWithin (l : Launch) (D : va_G) (cy : Nat → ClassId) (ad : ks_A) (En : Nat → Prop) (n0 : Nat → Prop) (hG : ks_G ad En n0) (hE : ∀ k, ks_g k = 0 → En k) (o : Int64) {σ : ks_S} {x0 : Int32} {x1 : Int32} {x2 : Int32}  {out : (Int32 × ks_S)} (hf : f_X4_isWithin σ x0 x1 x2 = some out) : Met l yX4_isWithin wsX4_isWithin (ks_Rm 0 0 0 0) (va_Pc [.int x0, .int x1, .int x2] (ks_U D cy ad En n0 σ o)) (ks_Qi D cy ad En n0 o out) 0 0 (ks_F n0) := by
  refine Met.ofW (cc := cX4_isWithin) (maxL := 3) (ret := some .boolean) (by decide) rfl ?_
  intro p e s m args below meth c s₁ B hml hv
  obtain ⟨rfl, hU⟩ := hv
  have hl := lv_entry ([.int x0, .int x1, .int x2]) (n := 3) (Nat.le_of_ble_eq_true rfl)
  rw [lg_entry_eq]
  generalize (lg_sl ([.int x0, .int x1, .int x2]) ++ List.replicate (3 - (lg_sl ([.int x0, .int x1, .int x2])).length) Slot.unset).toArray = ls at hl ⊢
  exact t_X4_isWithin ⟨B.exec, B.bytes, hml, B.returns, findClass_of_methodNamed B.named, atoms_spec (ws := wsX4_isWithin) B.pre, B.notSynchronized, hG, hU, hE⟩  hf hU.2.1 va_S.rf hl

/-! SpinKernel.taskAt(I)LSpinKernel$Task; -/
def f_X4_taskAt (σ : ks_S) (x1 : Int32) : Option ((Nat ⊕ (Nat × Nat)) × ks_S) :=
  ((f_X4_isWithin σ x1 0 15).bind fun (r3, s2) => (if r3 = 0 then some (.inl 0, s2) else (if ks_in x1 16 = true then (if ((s2 8 ((x1.toNatClampNeg)) 0 0)) = 0 then some (.inl 0, s2) else (if ks_in x1 16 = true then some (.inr (((x1.toNatClampNeg), 0)), s2) else none)) else none)))
theorem in_X4_taskAt_3 : ∀ w ∈ wsX30, w ∈ wsX4_taskAt := by decide +kernel
theorem in_X4_taskAt_4 : ∀ w ∈ wsX40, w ∈ wsX4_taskAt := by decide +kernel
set_option maxHeartbeats 4000000 in
set_option maxRecDepth 100000 in
theorem t_X4_taskAt {p : Program} {l : Launch} {e : Env} {s : State} {m : MethodId} {args : Array Value} {below : List Frame} {meth : Method} {c : Code} {D : va_G} {cy : Nat → ClassId} {ad : ks_A} {En : Nat → Prop} {n0 : Nat → Prop} {σ0 : ks_S} {o : Int64} {out : ((Nat ⊕ (Nat × Nat)) × ks_S)} (C : ks_M p s m args meth c D cy ad En (fun k => ks_g k = 0) n0 σ0 o wsX4_taskAt cX4_taskAt RX4 2 (some (.object "SpinKernel$Task"))) (hlt : l.stackTraces = false) (hN : ks_N n0 s) (hexc : ∀ x ∈ c.exceptionTable.toList, False) {σ : ks_S} {x1 : Int32}  (hf : f_X4_taskAt σ x1 = some out) {H : Heap} {locs : List Loc} {ls : Array Slot} (hW : ks_W D cy ad En σ o H) (hS : va_S (ks_F n0) s.heap H locs) (hl : lv_has ls 2 [(0, .ref (ad 0 0 0)), (1, .int x1)]) : W p l e (ks_Rm 6 1 6 81) s m args below meth c H locs 0 0 (vx_MQ below (ks_Yr D cy ad En n0 o 8 out) (ks_X D cy ad En n0 o out) args s 1 6 (ks_F n0)) (F0 m 0 ls []) := by
  obtain ⟨hx, hb, hml, hr, hown, hts, hlocks, hG, hU0, hE⟩ := id C
  have hK := hU0.2.2
  unfold f_X4_taskAt at hf
  refine lv_iload_n hx hb dX4_taskAt_0 rfl (lv_at hl 1 rfl) ?_
  refine lv_iconst (v := 0) hx hb dX4_taskAt_1 (by decide) ?_
  refine lv_bipush (v := 15) hx hb dX4_taskAt_2 (by decide) ?_
  obtain ⟨⟨r3, s2⟩, hc1, hf⟩ := ks_bind hf
  try dsimp only at hf
  refine ks_calli (va_runS (As := [.int x1, .int 0, .int 15]) (rest := []) ⟨hx, hb, hml, hown, hts⟩ (m_X4_isWithin l D cy ad En n0 hG hE o hc1) (va_cwS 3 hts gX4_taskAt_X4_isWithin rfl rfl rfl (by decide +kernel) ⟨(Nat.le_of_ble_eq_true rfl), (Nat.le_of_ble_eq_true rfl)⟩) ⟨ks_U.blind, fun U hU hWm => ⟨rfl, hU0.now hS hW hWm.alike hU⟩⟩ rfl rfl hl.1 rfl (lv_room (Nat.le_of_ble_eq_true rfl)) dX4_taskAt_4 ⟨(Nat.le_of_ble_eq_true rfl), (Nat.le_of_ble_eq_true rfl)⟩) hS (fun H locs hW hS => ?_)
  refine lv_if_eq (tgt := 22) hx hb dX4_taskAt_7 (by decide) (fun c4 => ?_) (fun c4 => ?_)
  · rw [if_pos c4] at hf
    exact ks_throw (ik := 48) (ic := 50) 0 hlt hN hexc C rfl (by decide +kernel) (by decide +kernel) (by decide +kernel) (by decide +kernel) ks_at0 ks_ag0 hf hW hS hl.1 dX4_taskAt_22 dX4_taskAt_25 dX4_taskAt_26 dX4_taskAt_29 ⟨(Nat.le_of_ble_eq_true rfl), (Nat.le_of_ble_eq_true rfl), (Nat.le_of_ble_eq_true rfl), (Nat.le_of_ble_eq_true rfl)⟩ (Nat.le_of_ble_eq_true rfl) (Nat.le_of_ble_eq_true rfl)
  · rw [if_neg c4] at hf
    refine lv_aload_n hx hb dX4_taskAt_10 rfl (lv_at hl 0 rfl) ?_
    refine va_get (D := D) (ci := 4) (v := .ref (ad 1 0 0)) (C := RX4) (T := TX4) (N := 8) hx hb hts in_X4_taskAt_4 hown hK (ks_P1 hW (ks_v0 (i := 0) (j := 0) (hE 0 rfl)) (ks_c0 cy ad o 0 0 _)) 0 rfl rfl 0 (by decide) (hts (.fieldLink RX4 11 "SpinKernel" "tasks" "[LSpinKernel$Task;") (by decide +kernel)) (fun _ h => h) rfl dX4_taskAt_11 ?_
    refine lv_iload_n hx hb dX4_taskAt_14 rfl (lv_at hl 1 rfl) ?_
    obtain ⟨hi5, hf⟩ := ks_guard hf
    refine ks_aald hx hb hK hW (ks_v1 (i := 0) (j := 0) (hE 1 rfl)) 3 (ks_c1 cy ad o 0 0 _) rfl rfl hi5 dX4_taskAt_15 ?_
    refine va_get (D := D) (ci := 3) (v := .int (s2 8 ((x1.toNatClampNeg)) 0 0)) (C := RX3) (T := TX3) (N := 10) hx hb hts in_X4_taskAt_3 hown hK (ks_P1 hW (ks_v8 (j := 0) (ks_in_lt hi5) (hE 8 rfl)) (ks_c8 cy ad o (x1.toNatClampNeg) 0 _)) 0 rfl rfl 0 (by decide) (hts (.fieldLink RX4 55 "SpinKernel$Task" "isThere" "Z") (by decide +kernel)) (fun _ h => h) rfl dX4_taskAt_16 ?_
    refine lv_if_ne (tgt := 30) hx hb dX4_taskAt_19 (by decide) (fun c6 => ?_) (fun c6 => ?_)
    · rw [if_neg c6] at hf
      refine lv_aload_n hx hb dX4_taskAt_30 rfl (lv_at hl 0 rfl) ?_
      refine va_get (D := D) (ci := 4) (v := .ref (ad 1 0 0)) (C := RX4) (T := TX4) (N := 8) hx hb hts in_X4_taskAt_4 hown hK (ks_P1 hW (ks_v0 (i := 0) (j := 0) (hE 0 rfl)) (ks_c0 cy ad o 0 0 _)) 0 rfl rfl 0 (by decide) (hts (.fieldLink RX4 11 "SpinKernel" "tasks" "[LSpinKernel$Task;") (by decide +kernel)) (fun _ h => h) rfl dX4_taskAt_31 ?_
      refine lv_iload_n hx hb dX4_taskAt_34 rfl (lv_at hl 1 rfl) ?_
      obtain ⟨hi7, hf⟩ := ks_guard hf
      refine ks_aald hx hb hK hW (ks_v1 (i := 0) (j := 0) (hE 1 rfl)) 3 (ks_c1 cy ad o 0 0 _) rfl rfl hi7 dX4_taskAt_35 ?_
      exact ks_yaret (Nat.le_of_ble_eq_true rfl) (Nat.le_of_ble_eq_true rfl) C (ks_v8 (j := 0) (ks_in_lt hi7) (hE 8 rfl)) hf hW hS dX4_taskAt_36
    · rw [if_pos c6] at hf
      exact ks_throw (ik := 48) (ic := 50) 0 hlt hN hexc C rfl (by decide +kernel) (by decide +kernel) (by decide +kernel) (by decide +kernel) ks_at0 ks_ag0 hf hW hS hl.1 dX4_taskAt_22 dX4_taskAt_25 dX4_taskAt_26 dX4_taskAt_29 ⟨(Nat.le_of_ble_eq_true rfl), (Nat.le_of_ble_eq_true rfl), (Nat.le_of_ble_eq_true rfl), (Nat.le_of_ble_eq_true rfl)⟩ (Nat.le_of_ble_eq_true rfl) (Nat.le_of_ble_eq_true rfl)
set_option maxHeartbeats 4000000 in
set_option maxRecDepth 100000 in
theorem m_X4_taskAt (l : Launch) (hlt : l.stackTraces = false) (D : va_G) (cy : Nat → ClassId) (ad : ks_A) (En : Nat → Prop) (n0 : Nat → Prop) (hG : ks_G ad En n0) (hE : ∀ k, ks_g k = 0 → En k) (o : Int64) {σ : ks_S} {x1 : Int32}  {out : ((Nat ⊕ (Nat × Nat)) × ks_S)} (hf : f_X4_taskAt σ x1 = some out) : vx_Met l yX4_taskAt wsX4_taskAt (ks_Rm 6 1 6 81) (va_Pc [.ref (ad 0 0 0), .int x1] (ks_UN D cy ad En n0 σ o)) (ks_Yr D cy ad En n0 o 8 out) (ks_X D cy ad En n0 o out) 1 6 (ks_F n0) := by
  refine vx_ofW (cc := cX4_taskAt) (maxL := 2) (ret := some (.object "SpinKernel$Task")) (by decide) rfl ?_
  intro p e s m args below meth c s₁ B hml hexc hv
  obtain ⟨rfl, hU, hN⟩ := hv
  have hl := lv_entry ([.ref (ad 0 0 0), .int x1]) (n := 2) (Nat.le_of_ble_eq_true rfl)
  rw [lg_entry_eq]
  generalize (lg_sl ([.ref (ad 0 0 0), .int x1]) ++ List.replicate (2 - (lg_sl ([.ref (ad 0 0 0), .int x1])).length) Slot.unset).toArray = ls at hl ⊢
  exact t_X4_taskAt ⟨B.exec, B.bytes, hml, B.returns, findClass_of_methodNamed B.named, atoms_spec (ws := wsX4_taskAt) B.pre, B.notSynchronized, hG, hU, hE⟩ hlt hN hexc  hf hU.2.1 va_S.rf hl

/-! SpinKernel.requestAt(LSpinKernel$Task;I)LSpinKernel$Request; -/
def f_X4_requestAt (σ : ks_S) (a0 : Nat) (x1 : Int32) : Option ((Nat ⊕ (Nat × Nat)) × ks_S) :=
  ((f_X4_isWithin σ x1 0 ((((σ 8 a0 0 7)) - 1))).bind fun (r3, s2) => (if r3 = 0 then some (.inl 0, s2) else (if ks_in x1 6 = true then some (.inr ((a0, (x1.toNatClampNeg))), s2) else none)))
theorem in_X4_requestAt_3 : ∀ w ∈ wsX30, w ∈ wsX4_requestAt := by decide +kernel
set_option maxHeartbeats 4000000 in
set_option maxRecDepth 100000 in
theorem t_X4_requestAt {p : Program} {l : Launch} {e : Env} {s : State} {m : MethodId} {args : Array Value} {below : List Frame} {meth : Method} {c : Code} {D : va_G} {cy : Nat → ClassId} {ad : ks_A} {En : Nat → Prop} {n0 : Nat → Prop} {σ0 : ks_S} {o : Int64} {out : ((Nat ⊕ (Nat × Nat)) × ks_S)} (C : ks_M p s m args meth c D cy ad En (fun k => ks_g k = 0) n0 σ0 o wsX4_requestAt cX4_requestAt RX4 2 (some (.object "SpinKernel$Request"))) (hlt : l.stackTraces = false) (hN : ks_N n0 s) (hexc : ∀ x ∈ c.exceptionTable.toList, False) {σ : ks_S} {a0 : Nat} {x1 : Int32} (v0 : ks_v En 8 a0 0) (hf : f_X4_requestAt σ a0 x1 = some out) {H : Heap} {locs : List Loc} {ls : Array Slot} (hW : ks_W D cy ad En σ o H) (hS : va_S (ks_F n0) s.heap H locs) (hl : lv_has ls 2 [(0, .ref (ad 8 a0 0)), (1, .int x1)]) : W p l e (ks_Rm 6 1 6 81) s m args below meth c H locs 0 0 (vx_MQ below (ks_Yr D cy ad En n0 o 11 out) (ks_X D cy ad En n0 o out) args s 1 6 (ks_F n0)) (F0 m 0 ls []) := by
  obtain ⟨hx, hb, hml, hr, hown, hts, hlocks, hG, hU0, hE⟩ := id C
  have hK := hU0.2.2
  unfold f_X4_requestAt at hf
  refine lv_iload_n hx hb dX4_requestAt_0 rfl (lv_at hl 1 rfl) ?_
  refine lv_iconst (v := 0) hx hb dX4_requestAt_1 (by decide) ?_
  refine lv_aload_n hx hb dX4_requestAt_2 rfl (lv_at hl 0 rfl) ?_
  refine va_get (D := D) (ci := 3) (v := .int (σ 8 a0 0 7)) (C := RX3) (T := TX3) (N := 10) hx hb hts in_X4_requestAt_3 hown hK (ks_P1 hW v0 (ks_c8 cy ad o a0 0 _)) 0 rfl rfl 7 (by decide) (hts (.fieldLink RX4 79 "SpinKernel$Task" "count" "I") (by decide +kernel)) (fun _ h => h) rfl dX4_requestAt_3 ?_
  refine lv_iconst (v := 1) hx hb dX4_requestAt_6 (by decide) ?_
  refine lv_isub hx hb dX4_requestAt_7 ?_
  obtain ⟨⟨r3, s2⟩, hc1, hf⟩ := ks_bind hf
  try dsimp only at hf
  refine ks_calli (va_runS (As := [.int x1, .int 0, .int (((σ 8 a0 0 7)) - 1)]) (rest := []) ⟨hx, hb, hml, hown, hts⟩ (m_X4_isWithin l D cy ad En n0 hG hE o hc1) (va_cwS 3 hts gX4_requestAt_X4_isWithin rfl rfl rfl (by decide +kernel) ⟨(Nat.le_of_ble_eq_true rfl), (Nat.le_of_ble_eq_true rfl)⟩) ⟨ks_U.blind, fun U hU hWm => ⟨rfl, hU0.now hS hW hWm.alike hU⟩⟩ rfl rfl hl.1 rfl (lv_room (Nat.le_of_ble_eq_true rfl)) dX4_requestAt_8 ⟨(Nat.le_of_ble_eq_true rfl), (Nat.le_of_ble_eq_true rfl)⟩) hS (fun H locs hW hS => ?_)
  refine lv_if_ne (tgt := 22) hx hb dX4_requestAt_11 (by decide) (fun c4 => ?_) (fun c4 => ?_)
  · rw [if_neg c4] at hf
    refine lv_aload_n hx hb dX4_requestAt_22 rfl (lv_at hl 0 rfl) ?_
    refine va_get (D := D) (ci := 3) (v := .ref (ad 10 a0 0)) (C := RX3) (T := TX3) (N := 10) hx hb hts in_X4_requestAt_3 hown hK (ks_P1 hW v0 (ks_c8 cy ad o a0 0 _)) 0 rfl rfl 8 (by decide) (hts (.fieldLink RX4 199 "SpinKernel$Task" "requests" "[LSpinKernel$Request;") (by decide +kernel)) (fun _ h => h) rfl dX4_requestAt_23 ?_
    refine lv_iload_n hx hb dX4_requestAt_26 rfl (lv_at hl 1 rfl) ?_
    obtain ⟨hi5, hf⟩ := ks_guard hf
    refine ks_aald hx hb hK hW (ks_v10 (j := 0) v0.2.1 (hE 10 rfl)) 5 (ks_c10 cy ad o a0 0 _) rfl rfl hi5 dX4_requestAt_27 ?_
    exact ks_yaret (Nat.le_of_ble_eq_true rfl) (Nat.le_of_ble_eq_true rfl) C (ks_v11 (ks_v10 (j := 0) v0.2.1 (hE 10 rfl)).2.1 (ks_in_lt hi5) (hE 11 rfl)) hf hW hS dX4_requestAt_28
  · rw [if_pos c4] at hf
    exact ks_throw (ik := 48) (ic := 50) 0 hlt hN hexc C rfl (by decide +kernel) (by decide +kernel) (by decide +kernel) (by decide +kernel) ks_at0 ks_ag0 hf hW hS hl.1 dX4_requestAt_14 dX4_requestAt_17 dX4_requestAt_18 dX4_requestAt_21 ⟨(Nat.le_of_ble_eq_true rfl), (Nat.le_of_ble_eq_true rfl), (Nat.le_of_ble_eq_true rfl), (Nat.le_of_ble_eq_true rfl)⟩ (Nat.le_of_ble_eq_true rfl) (Nat.le_of_ble_eq_true rfl)
set_option maxHeartbeats 4000000 in
set_option maxRecDepth 100000 in
theorem m_X4_requestAt (l : Launch) (hlt : l.stackTraces = false) (D : va_G) (cy : Nat → ClassId) (ad : ks_A) (En : Nat → Prop) (n0 : Nat → Prop) (hG : ks_G ad En n0) (hE : ∀ k, ks_g k = 0 → En k) (o : Int64) {σ : ks_S} {a0 : Nat} {x1 : Int32} (v0 : ks_v En 8 a0 0) {out : ((Nat ⊕ (Nat × Nat)) × ks_S)} (hf : f_X4_requestAt σ a0 x1 = some out) : vx_Met l yX4_requestAt wsX4_requestAt (ks_Rm 6 1 6 81) (va_Pc [.ref (ad 8 a0 0), .int x1] (ks_UN D cy ad En n0 σ o)) (ks_Yr D cy ad En n0 o 11 out) (ks_X D cy ad En n0 o out) 1 6 (ks_F n0) := by
  refine vx_ofW (cc := cX4_requestAt) (maxL := 2) (ret := some (.object "SpinKernel$Request")) (by decide) rfl ?_
  intro p e s m args below meth c s₁ B hml hexc hv
  obtain ⟨rfl, hU, hN⟩ := hv
  have hl := lv_entry ([.ref (ad 8 a0 0), .int x1]) (n := 2) (Nat.le_of_ble_eq_true rfl)
  rw [lg_entry_eq]
  generalize (lg_sl ([.ref (ad 8 a0 0), .int x1]) ++ List.replicate (2 - (lg_sl ([.ref (ad 8 a0 0), .int x1])).length) Slot.unset).toArray = ls at hl ⊢
  exact t_X4_requestAt ⟨B.exec, B.bytes, hml, B.returns, findClass_of_methodNamed B.named, atoms_spec (ws := wsX4_requestAt) B.pre, B.notSynchronized, hG, hU, hE⟩ hlt hN hexc v0 hf hU.2.1 va_S.rf hl

/-! SpinKernel.rowOf(I)LSpinKernel$Row; -/
def f_X4_rowOf (σ : ks_S) (x1 : Int32) : Option ((Nat × Nat) × ks_S) :=
  (if ks_in x1 8 = true then (if ks_in ((σ 3 0 0 x1.toNatClampNeg)) 8 = true then some (((((σ 3 0 0 x1.toNatClampNeg)).toNatClampNeg), 0), σ) else none) else none)
theorem in_X4_rowOf_4 : ∀ w ∈ wsX40, w ∈ wsX4_rowOf := by decide +kernel
set_option maxHeartbeats 4000000 in
set_option maxRecDepth 100000 in
theorem t_X4_rowOf {p : Program} {l : Launch} {e : Env} {s : State} {m : MethodId} {args : Array Value} {below : List Frame} {meth : Method} {c : Code} {D : va_G} {cy : Nat → ClassId} {ad : ks_A} {En : Nat → Prop} {n0 : Nat → Prop} {σ0 : ks_S} {o : Int64} {out : ((Nat × Nat) × ks_S)} (C : ks_M p s m args meth c D cy ad En (fun k => ks_g k = 0) n0 σ0 o wsX4_rowOf cX4_rowOf RX4 2 (some (.object "SpinKernel$Row"))) {σ : ks_S} {x1 : Int32}  (hf : f_X4_rowOf σ x1 = some out) {H : Heap} {locs : List Loc} {ls : Array Slot} (hW : ks_W D cy ad En σ o H) (hS : va_S (ks_F n0) s.heap H locs) (hl : lv_has ls 2 [(0, .ref (ad 0 0 0)), (1, .int x1)]) : W p l e (ks_Rm 0 0 0 0) s m args below meth c H locs 0 0 (MQ below (ks_Qr D cy ad En n0 o 12 out) args s 0 0 (ks_F n0)) (F0 m 0 ls []) := by
  obtain ⟨hx, hb, hml, hr, hown, hts, hlocks, hG, hU0, hE⟩ := id C
  have hK := hU0.2.2
  unfold f_X4_rowOf at hf
  refine lv_aload_n hx hb dX4_rowOf_0 rfl (lv_at hl 0 rfl) ?_
  refine va_get (D := D) (ci := 4) (v := .ref (ad 2 0 0)) (C := RX4) (T := TX4) (N := 8) hx hb hts in_X4_rowOf_4 hown hK (ks_P1 hW (ks_v0 (i := 0) (j := 0) (hE 0 rfl)) (ks_c0 cy ad o 0 0 _)) 0 rfl rfl 1 (by decide) (hts (.fieldLink RX4 17 "SpinKernel" "rows" "[LSpinKernel$Row;") (by decide +kernel)) (fun _ h => h) rfl dX4_rowOf_1 ?_
  refine lv_aload_n hx hb dX4_rowOf_4 rfl (lv_at hl 0 rfl) ?_
  refine va_get (D := D) (ci := 4) (v := .ref (ad 3 0 0)) (C := RX4) (T := TX4) (N := 8) hx hb hts in_X4_rowOf_4 hown hK (ks_P1 hW (ks_v0 (i := 0) (j := 0) (hE 0 rfl)) (ks_c0 cy ad o 0 0 _)) 0 rfl rfl 2 (by decide) (hts (.fieldLink RX4 21 "SpinKernel" "leastOfGroup" "[I") (by decide +kernel)) (fun _ h => h) rfl dX4_rowOf_5 ?_
  refine lv_iload_n hx hb dX4_rowOf_8 rfl (lv_at hl 1 rfl) ?_
  obtain ⟨hi1, hf⟩ := ks_guard hf
  refine ks_iald hx hb hK hW (ks_v3 (i := 0) (j := 0) (hE 3 rfl)) (ks_c3 cy ad o 0 0 _) hi1 dX4_rowOf_9 ?_
  obtain ⟨hi2, hf⟩ := ks_guard hf
  refine ks_aald hx hb hK hW (ks_v2 (i := 0) (j := 0) (hE 2 rfl)) 4 (ks_c2 cy ad o 0 0 _) rfl rfl hi2 dX4_rowOf_10 ?_
  exact ks_aret C (ks_v12 (j := 0) (ks_in_lt hi2) (hE 12 rfl)) hf hW hS dX4_rowOf_11
set_option maxHeartbeats 4000000 in
set_option maxRecDepth 100000 in
theorem m_X4_rowOf (l : Launch) (D : va_G) (cy : Nat → ClassId) (ad : ks_A) (En : Nat → Prop) (n0 : Nat → Prop) (hG : ks_G ad En n0) (hE : ∀ k, ks_g k = 0 → En k) (o : Int64) {σ : ks_S} {x1 : Int32}  {out : ((Nat × Nat) × ks_S)} (hf : f_X4_rowOf σ x1 = some out) : Met l yX4_rowOf wsX4_rowOf (ks_Rm 0 0 0 0) (va_Pc [.ref (ad 0 0 0), .int x1] (ks_U D cy ad En n0 σ o)) (ks_Qr D cy ad En n0 o 12 out) 0 0 (ks_F n0) := by
  refine Met.ofW (cc := cX4_rowOf) (maxL := 2) (ret := some (.object "SpinKernel$Row")) (by decide) rfl ?_
  intro p e s m args below meth c s₁ B hml hv
  obtain ⟨rfl, hU⟩ := hv
  have hl := lv_entry ([.ref (ad 0 0 0), .int x1]) (n := 2) (Nat.le_of_ble_eq_true rfl)
  rw [lg_entry_eq]
  generalize (lg_sl ([.ref (ad 0 0 0), .int x1]) ++ List.replicate (2 - (lg_sl ([.ref (ad 0 0 0), .int x1])).length) Slot.unset).toArray = ls at hl ⊢
  exact t_X4_rowOf ⟨B.exec, B.bytes, hml, B.returns, findClass_of_methodNamed B.named, atoms_spec (ws := wsX4_rowOf) B.pre, B.notSynchronized, hG, hU, hE⟩  hf hU.2.1 va_S.rf hl

/-! SpinKernel.isPriorityTaken(II)Z -/
def f_X4_isPriorityTaken_12 (N : Nat) : Nat → ks_S → Int32 → Int32 → Int32 → Int32 → Option (Int32 × ks_S)
  | 0, _, _, _, _, _ => none
  | n + 1, σ, x1, x2, x4, x5 => (if x4 ≤ x5 then some (0, σ) else (if ks_in x5 16 = true then ((f_X3_isOn σ ((x5.toNatClampNeg)) x1).bind fun (r5, s4) => (if r5 = 0 then f_X4_isPriorityTaken_12 N n s4 x1 x2 x4 ((x5 + 1)) else (if ((s4 8 ((x5.toNatClampNeg)) 0 2)) = x2 then some (1, s4) else f_X4_isPriorityTaken_12 N n s4 x1 x2 x4 ((x5 + 1))))) else none))
def f_X4_isPriorityTaken (N : Nat) (σ : ks_S) (x1 : Int32) (x2 : Int32) : Option (Int32 × ks_S) :=
  f_X4_isPriorityTaken_12 N N σ x1 x2 16 0
theorem in_X4_isPriorityTaken_3 : ∀ w ∈ wsX30, w ∈ wsX4_isPriorityTaken := by decide +kernel
theorem in_X4_isPriorityTaken_4 : ∀ w ∈ wsX40, w ∈ wsX4_isPriorityTaken := by decide +kernel
set_option maxHeartbeats 4000000 in
set_option maxRecDepth 100000 in
theorem t_X4_isPriorityTaken_12 {p : Program} {l : Launch} {e : Env} {s : State} {m : MethodId} {args : Array Value} {below : List Frame} {meth : Method} {c : Code} {D : va_G} {cy : Nat → ClassId} {ad : ks_A} {En : Nat → Prop} {n0 : Nat → Prop} {σ0 : ks_S} {o : Int64} {N : Nat} {out : (Int32 × ks_S)} (C : ks_M p s m args meth c D cy ad En (fun k => ks_g k = 0) n0 σ0 o wsX4_isPriorityTaken cX4_isPriorityTaken RX4 7 (some .boolean)) : ∀ (n : Nat) (σ : ks_S) (x1 : Int32) (x2 : Int32) (x4 : Int32) (x5 : Int32), f_X4_isPriorityTaken_12 N n σ x1 x2 x4 x5 = some out → ∀ {H : Heap} {locs : List Loc} {ls : Array Slot}, ks_W D cy ad En σ o H → va_S (ks_F n0) s.heap H locs → lv_has ls 7 [(1, .int x1), (2, .int x2), (3, .ref (ad 1 0 0)), (4, .int x4), (5, .int x5)] → W p l e (ks_Rm 1 0 0 21) s m args below meth c H locs 0 0 (MQ below (ks_Qi D cy ad En n0 o out) args s 0 0 (ks_F n0)) (F0 m 12 ls []) := by
  obtain ⟨hx, hb, hml, hr, hown, hts, hlocks, hG, hU0, hE⟩ := id C
  have hK := hU0.2.2
  intro n
  induction n with
  | zero => intro σ x1 x2 x4 x5; intro  hf; exact absurd hf (by simp [f_X4_isPriorityTaken_12])
  | succ n hk12 =>
    intro σ x1 x2 x4 x5  hf H locs ls hW hS hl
    rw [f_X4_isPriorityTaken_12] at hf
    refine lv_iload hx hb dX4_isPriorityTaken_12 (lv_at hl 4 rfl) ?_
    refine lv_iload hx hb dX4_isPriorityTaken_14 (lv_at hl 3 rfl) ?_
    refine lv_icmp_ge (tgt := 51) hx hb dX4_isPriorityTaken_16 (by decide) (fun c1 => ?_) (fun c1 => ?_)
    · rw [if_pos c1] at hf
      refine lv_iconst (v := 0) hx hb dX4_isPriorityTaken_51 (by decide) ?_
      exact ks_zret C rfl hf hW hS dX4_isPriorityTaken_52
    · rw [if_neg c1] at hf
      refine lv_aload_n hx hb dX4_isPriorityTaken_19 rfl (lv_at hl 2 rfl) ?_
      refine lv_iload hx hb dX4_isPriorityTaken_20 (lv_at hl 4 rfl) ?_
      obtain ⟨hi2, hf⟩ := ks_guard hf
      refine ks_aald hx hb hK hW (ks_v1 (i := 0) (j := 0) (hE 1 rfl)) 3 (ks_c1 cy ad o 0 0 _) rfl rfl hi2 dX4_isPriorityTaken_22 ?_
      refine lv_astore (lv' := [(6, .ref (ad 8 (x5.toNatClampNeg) 0)), (1, .int x1), (2, .int x2), (3, .ref (ad 1 0 0)), (4, .int x4), (5, .int x5)]) hx hb dX4_isPriorityTaken_23 hl (by decide) rfl (fun ls hl => ?_)
      refine lv_aload hx hb dX4_isPriorityTaken_25 (lv_at hl 0 rfl) ?_
      refine lv_iload_n hx hb dX4_isPriorityTaken_27 rfl (lv_at hl 1 rfl) ?_
      obtain ⟨⟨r5, s4⟩, hc3, hf⟩ := ks_bind hf
      try dsimp only at hf
      refine ks_calli (va_runV (As := [.int x1]) (rest := []) ⟨hx, hb, hml, hown, hts⟩ (m_X3_isOn l D cy ad En n0 hG hE o (ks_v8 (j := 0) (ks_in_lt hi2) (hE 8 rfl)) hc3) (cwV 1 hts gX4_isPriorityTaken_X3_isOn rfl rfl rfl (by decide +kernel) ⟨(Nat.le_of_ble_eq_true rfl), (Nat.le_of_ble_eq_true rfl)⟩) ⟨ks_U.blind, ks_recv hK hW (ks_v8 (j := 0) (ks_in_lt hi2) (hE 8 rfl)) (ks_c8 cy ad o (x5.toNatClampNeg) 0 _) rfl, fun U hU hWm => ⟨rfl, hU0.now hS hW hWm.alike hU⟩⟩ rfl rfl hl.1 rfl (lv_room (Nat.le_of_ble_eq_true rfl)) dX4_isPriorityTaken_28 ⟨(Nat.le_of_ble_eq_true rfl), (Nat.le_of_ble_eq_true rfl)⟩) hS (fun H locs hW hS => ?_)
      refine lv_if_eq (tgt := 45) hx hb dX4_isPriorityTaken_31 (by decide) (fun c6 => ?_) (fun c6 => ?_)
      · rw [if_pos c6] at hf
        refine lv_iinc (v := (x5 + 1)) (lv' := [(5, .int (x5 + 1)), (6, .ref (ad 8 (x5.toNatClampNeg) 0)), (1, .int x1), (2, .int x2), (3, .ref (ad 1 0 0)), (4, .int x4)]) hx hb dX4_isPriorityTaken_45 hl (k := 5) rfl rfl (by decide) rfl (fun ls hl => ?_)
        refine lv_goto (tgt := 12) hx hb dX4_isPriorityTaken_48 (by decide) ?_
        exact hk12 _ _ _ _ _ hf hW hS (lv_sub hl [2, 3, 4, 5, 0] rfl)
      · rw [if_neg c6] at hf
        refine lv_aload hx hb dX4_isPriorityTaken_34 (lv_at hl 0 rfl) ?_
        refine va_get (D := D) (ci := 3) (v := .int (s4 8 ((x5.toNatClampNeg)) 0 2)) (C := RX3) (T := TX3) (N := 10) hx hb hts in_X4_isPriorityTaken_3 hown hK (ks_P1 hW (ks_v8 (j := 0) (ks_in_lt hi2) (hE 8 rfl)) (ks_c8 cy ad o (x5.toNatClampNeg) 0 _)) 0 rfl rfl 2 (by decide) (hts (.fieldLink RX4 207 "SpinKernel$Task" "priority" "I") (by decide +kernel)) (fun _ h => h) rfl dX4_isPriorityTaken_36 ?_
        refine lv_iload_n hx hb dX4_isPriorityTaken_39 rfl (lv_at hl 2 rfl) ?_
        refine lv_icmp_ne (tgt := 45) hx hb dX4_isPriorityTaken_40 (by decide) (fun c7 => ?_) (fun c7 => ?_)
        · rw [if_neg c7] at hf
          refine lv_iinc (v := (x5 + 1)) (lv' := [(5, .int (x5 + 1)), (6, .ref (ad 8 (x5.toNatClampNeg) 0)), (1, .int x1), (2, .int x2), (3, .ref (ad 1 0 0)), (4, .int x4)]) hx hb dX4_isPriorityTaken_45 hl (k := 5) rfl rfl (by decide) rfl (fun ls hl => ?_)
          refine lv_goto (tgt := 12) hx hb dX4_isPriorityTaken_48 (by decide) ?_
          exact hk12 _ _ _ _ _ hf hW hS (lv_sub hl [2, 3, 4, 5, 0] rfl)
        · rw [if_pos c7] at hf
          refine lv_iconst (v := 1) hx hb dX4_isPriorityTaken_43 (by decide) ?_
          exact ks_zret C rfl hf hW hS dX4_isPriorityTaken_44
set_option maxHeartbeats 4000000 in
set_option maxRecDepth 100000 in
theorem t_X4_isPriorityTaken {p : Program} {l : Launch} {e : Env} {s : State} {m : MethodId} {args : Array Value} {below : List Frame} {meth : Method} {c : Code} {D : va_G} {cy : Nat → ClassId} {ad : ks_A} {En : Nat → Prop} {n0 : Nat → Prop} {σ0 : ks_S} {o : Int64} {N : Nat} {out : (Int32 × ks_S)} (C : ks_M p s m args meth c D cy ad En (fun k => ks_g k = 0) n0 σ0 o wsX4_isPriorityTaken cX4_isPriorityTaken RX4 7 (some .boolean)) {σ : ks_S} {x1 : Int32} {x2 : Int32}  (hf : f_X4_isPriorityTaken N σ x1 x2 = some out) {H : Heap} {locs : List Loc} {ls : Array Slot} (hW : ks_W D cy ad En σ o H) (hS : va_S (ks_F n0) s.heap H locs) (hl : lv_has ls 7 [(0, .ref (ad 0 0 0)), (1, .int x1), (2, .int x2)]) : W p l e (ks_Rm 1 0 0 21) s m args below meth c H locs 0 0 (MQ below (ks_Qi D cy ad En n0 o out) args s 0 0 (ks_F n0)) (F0 m 0 ls []) := by
  obtain ⟨hx, hb, hml, hr, hown, hts, hlocks, hG, hU0, hE⟩ := id C
  have hK := hU0.2.2
  unfold f_X4_isPriorityTaken at hf
  refine lv_aload_n hx hb dX4_isPriorityTaken_0 rfl (lv_at hl 0 rfl) ?_
  refine va_get (D := D) (ci := 4) (v := .ref (ad 1 0 0)) (C := RX4) (T := TX4) (N := 8) hx hb hts in_X4_isPriorityTaken_4 hown hK (ks_P1 hW (ks_v0 (i := 0) (j := 0) (hE 0 rfl)) (ks_c0 cy ad o 0 0 _)) 0 rfl rfl 0 (by decide) (hts (.fieldLink RX4 11 "SpinKernel" "tasks" "[LSpinKernel$Task;") (by decide +kernel)) (fun _ h => h) rfl dX4_isPriorityTaken_1 ?_
  refine lv_astore_n (lv' := [(3, .ref (ad 1 0 0)), (0, .ref (ad 0 0 0)), (1, .int x1), (2, .int x2)]) hx hb dX4_isPriorityTaken_4 rfl hl (by decide) rfl (fun ls hl => ?_)
  refine lv_aload_n hx hb dX4_isPriorityTaken_5 rfl (lv_at hl 0 rfl) ?_
  refine ks_alen hx hb hK hW (ks_v1 (i := 0) (j := 0) (hE 1 rfl)) 3 (ks_c1 cy ad o 0 0 _) rfl (v := 16) rfl dX4_isPriorityTaken_6 ?_
  refine lv_istore (lv' := [(4, .int 16), (3, .ref (ad 1 0 0)), (0, .ref (ad 0 0 0)), (1, .int x1), (2, .int x2)]) hx hb dX4_isPriorityTaken_7 hl (by decide) rfl (fun ls hl => ?_)
  refine lv_iconst (v := 0) hx hb dX4_isPriorityTaken_9 (by decide) ?_
  refine lv_istore (lv' := [(5, .int 0), (4, .int 16), (3, .ref (ad 1 0 0)), (0, .ref (ad 0 0 0)), (1, .int x1), (2, .int x2)]) hx hb dX4_isPriorityTaken_10 hl (by decide) rfl (fun ls hl => ?_)
  exact t_X4_isPriorityTaken_12 C _ _ _ _ _ _  hf hW hS (lv_sub hl [4, 5, 2, 1, 0] rfl)
set_option maxHeartbeats 4000000 in
set_option maxRecDepth 100000 in
theorem m_X4_isPriorityTaken (l : Launch) (D : va_G) (cy : Nat → ClassId) (ad : ks_A) (En : Nat → Prop) (n0 : Nat → Prop) (hG : ks_G ad En n0) (hE : ∀ k, ks_g k = 0 → En k) (o : Int64) {N : Nat} {σ : ks_S} {x1 : Int32} {x2 : Int32}  {out : (Int32 × ks_S)} (hf : f_X4_isPriorityTaken N σ x1 x2 = some out) : Met l yX4_isPriorityTaken wsX4_isPriorityTaken (ks_Rm 1 0 0 21) (va_Pc [.ref (ad 0 0 0), .int x1, .int x2] (ks_U D cy ad En n0 σ o)) (ks_Qi D cy ad En n0 o out) 0 0 (ks_F n0) := by
  refine Met.ofW (cc := cX4_isPriorityTaken) (maxL := 7) (ret := some .boolean) (by decide) rfl ?_
  intro p e s m args below meth c s₁ B hml hv
  obtain ⟨rfl, hU⟩ := hv
  have hl := lv_entry ([.ref (ad 0 0 0), .int x1, .int x2]) (n := 7) (Nat.le_of_ble_eq_true rfl)
  rw [lg_entry_eq]
  generalize (lg_sl ([.ref (ad 0 0 0), .int x1, .int x2]) ++ List.replicate (7 - (lg_sl ([.ref (ad 0 0 0), .int x1, .int x2])).length) Slot.unset).toArray = ls at hl ⊢
  exact t_X4_isPriorityTaken ⟨B.exec, B.bytes, hml, B.returns, findClass_of_methodNamed B.named, atoms_spec (ws := wsX4_isPriorityTaken) B.pre, B.notSynchronized, hG, hU, hE⟩  hf hU.2.1 va_S.rf hl

/-! SpinKernel.isAnyJobOpen()Z -/
def f_X4_isAnyJobOpen_10 (N : Nat) : Nat → ks_S → Int32 → Int32 → Option (Int32 × ks_S)
  | 0, _, _, _ => none
  | n + 1, σ, x2, x3 => (if x2 ≤ x3 then some (0, σ) else (if ks_in x3 16 = true then (if ((σ 9 ((x3.toNatClampNeg)) 0 1)) = 0 then f_X4_isAnyJobOpen_10 N n σ x2 ((x3 + 1)) else some (1, σ)) else none))
def f_X4_isAnyJobOpen (N : Nat) (σ : ks_S)  : Option (Int32 × ks_S) :=
  f_X4_isAnyJobOpen_10 N N σ 16 0
theorem in_X4_isAnyJobOpen_0 : ∀ w ∈ wsX00, w ∈ wsX4_isAnyJobOpen := by decide +kernel
theorem in_X4_isAnyJobOpen_3 : ∀ w ∈ wsX30, w ∈ wsX4_isAnyJobOpen := by decide +kernel
theorem in_X4_isAnyJobOpen_4 : ∀ w ∈ wsX40, w ∈ wsX4_isAnyJobOpen := by decide +kernel
set_option maxHeartbeats 4000000 in
set_option maxRecDepth 100000 in
theorem t_X4_isAnyJobOpen_10 {p : Program} {l : Launch} {e : Env} {s : State} {m : MethodId} {args : Array Value} {below : List Frame} {meth : Method} {c : Code} {D : va_G} {cy : Nat → ClassId} {ad : ks_A} {En : Nat → Prop} {n0 : Nat → Prop} {σ0 : ks_S} {o : Int64} {N : Nat} {out : (Int32 × ks_S)} (C : ks_M p s m args meth c D cy ad En (fun k => ks_g k = 0) n0 σ0 o wsX4_isAnyJobOpen cX4_isAnyJobOpen RX4 5 (some .boolean)) : ∀ (n : Nat) (σ : ks_S) (x2 : Int32) (x3 : Int32), f_X4_isAnyJobOpen_10 N n σ x2 x3 = some out → ∀ {H : Heap} {locs : List Loc} {ls : Array Slot}, ks_W D cy ad En σ o H → va_S (ks_F n0) s.heap H locs → lv_has ls 5 [(1, .ref (ad 1 0 0)), (2, .int x2), (3, .int x3)] → W p l e (ks_Rm 0 0 0 0) s m args below meth c H locs 0 0 (MQ below (ks_Qi D cy ad En n0 o out) args s 0 0 (ks_F n0)) (F0 m 10 ls []) := by
  obtain ⟨hx, hb, hml, hr, hown, hts, hlocks, hG, hU0, hE⟩ := id C
  have hK := hU0.2.2
  intro n
  induction n with
  | zero => intro σ x2 x3; intro  hf; exact absurd hf (by simp [f_X4_isAnyJobOpen_10])
  | succ n hk10 =>
    intro σ x2 x3  hf H locs ls hW hS hl
    rw [f_X4_isAnyJobOpen_10] at hf
    refine lv_iload_n hx hb dX4_isAnyJobOpen_10 rfl (lv_at hl 2 rfl) ?_
    refine lv_iload_n hx hb dX4_isAnyJobOpen_11 rfl (lv_at hl 1 rfl) ?_
    refine lv_icmp_ge (tgt := 39) hx hb dX4_isAnyJobOpen_12 (by decide) (fun c1 => ?_) (fun c1 => ?_)
    · rw [if_pos c1] at hf
      refine lv_iconst (v := 0) hx hb dX4_isAnyJobOpen_39 (by decide) ?_
      exact ks_zret C rfl hf hW hS dX4_isAnyJobOpen_40
    · rw [if_neg c1] at hf
      refine lv_aload_n hx hb dX4_isAnyJobOpen_15 rfl (lv_at hl 0 rfl) ?_
      refine lv_iload_n hx hb dX4_isAnyJobOpen_16 rfl (lv_at hl 2 rfl) ?_
      obtain ⟨hi2, hf⟩ := ks_guard hf
      refine ks_aald hx hb hK hW (ks_v1 (i := 0) (j := 0) (hE 1 rfl)) 3 (ks_c1 cy ad o 0 0 _) rfl rfl hi2 dX4_isAnyJobOpen_17 ?_
      refine lv_astore (lv' := [(4, .ref (ad 8 (x3.toNatClampNeg) 0)), (1, .ref (ad 1 0 0)), (2, .int x2), (3, .int x3)]) hx hb dX4_isAnyJobOpen_18 hl (by decide) rfl (fun ls hl => ?_)
      refine lv_aload hx hb dX4_isAnyJobOpen_20 (lv_at hl 0 rfl) ?_
      refine va_get (D := D) (ci := 3) (v := .ref (ad 9 (x3.toNatClampNeg) 0)) (C := RX3) (T := TX3) (N := 10) hx hb hts in_X4_isAnyJobOpen_3 hown hK (ks_P1 hW (ks_v8 (j := 0) (ks_in_lt hi2) (hE 8 rfl)) (ks_c8 cy ad o (x3.toNatClampNeg) 0 _)) 0 rfl rfl 9 (by decide) (hts (.fieldLink RX4 119 "SpinKernel$Task" "job" "LSpinKernel$Job;") (by decide +kernel)) (fun _ h => h) rfl dX4_isAnyJobOpen_22 ?_
      refine va_get (D := D) (ci := 0) (v := .int (σ 9 ((x3.toNatClampNeg)) 0 1)) (C := RX0) (T := TX0) (N := 12) hx hb hts in_X4_isAnyJobOpen_0 hown hK (ks_P1 hW (ks_v9 (j := 0) (ks_v8 (j := 0) (ks_in_lt hi2) (hE 8 rfl)).2.1 (hE 9 rfl)) (ks_c9 cy ad o (x3.toNatClampNeg) 0 _)) 0 rfl rfl 1 (by decide) (hts (.fieldLink RX4 187 "SpinKernel$Job" "isOpen" "Z") (by decide +kernel)) (fun _ h => h) rfl dX4_isAnyJobOpen_25 ?_
      refine lv_if_eq (tgt := 33) hx hb dX4_isAnyJobOpen_28 (by decide) (fun c3 => ?_) (fun c3 => ?_)
      · rw [if_pos c3] at hf
        refine lv_iinc (v := (x3 + 1)) (lv' := [(3, .int (x3 + 1)), (4, .ref (ad 8 (x3.toNatClampNeg) 0)), (1, .ref (ad 1 0 0)), (2, .int x2)]) hx hb dX4_isAnyJobOpen_33 hl (k := 3) rfl rfl (by decide) rfl (fun ls hl => ?_)
        refine lv_goto (tgt := 10) hx hb dX4_isAnyJobOpen_36 (by decide) ?_
        exact hk10 _ _ _ hf hW hS (lv_sub hl [2, 3, 0] rfl)
      · rw [if_neg c3] at hf
        refine lv_iconst (v := 1) hx hb dX4_isAnyJobOpen_31 (by decide) ?_
        exact ks_zret C rfl hf hW hS dX4_isAnyJobOpen_32
set_option maxHeartbeats 4000000 in
set_option maxRecDepth 100000 in
theorem t_X4_isAnyJobOpen {p : Program} {l : Launch} {e : Env} {s : State} {m : MethodId} {args : Array Value} {below : List Frame} {meth : Method} {c : Code} {D : va_G} {cy : Nat → ClassId} {ad : ks_A} {En : Nat → Prop} {n0 : Nat → Prop} {σ0 : ks_S} {o : Int64} {N : Nat} {out : (Int32 × ks_S)} (C : ks_M p s m args meth c D cy ad En (fun k => ks_g k = 0) n0 σ0 o wsX4_isAnyJobOpen cX4_isAnyJobOpen RX4 5 (some .boolean)) {σ : ks_S}   (hf : f_X4_isAnyJobOpen N σ  = some out) {H : Heap} {locs : List Loc} {ls : Array Slot} (hW : ks_W D cy ad En σ o H) (hS : va_S (ks_F n0) s.heap H locs) (hl : lv_has ls 5 [(0, .ref (ad 0 0 0))]) : W p l e (ks_Rm 0 0 0 0) s m args below meth c H locs 0 0 (MQ below (ks_Qi D cy ad En n0 o out) args s 0 0 (ks_F n0)) (F0 m 0 ls []) := by
  obtain ⟨hx, hb, hml, hr, hown, hts, hlocks, hG, hU0, hE⟩ := id C
  have hK := hU0.2.2
  unfold f_X4_isAnyJobOpen at hf
  refine lv_aload_n hx hb dX4_isAnyJobOpen_0 rfl (lv_at hl 0 rfl) ?_
  refine va_get (D := D) (ci := 4) (v := .ref (ad 1 0 0)) (C := RX4) (T := TX4) (N := 8) hx hb hts in_X4_isAnyJobOpen_4 hown hK (ks_P1 hW (ks_v0 (i := 0) (j := 0) (hE 0 rfl)) (ks_c0 cy ad o 0 0 _)) 0 rfl rfl 0 (by decide) (hts (.fieldLink RX4 11 "SpinKernel" "tasks" "[LSpinKernel$Task;") (by decide +kernel)) (fun _ h => h) rfl dX4_isAnyJobOpen_1 ?_
  refine lv_astore_n (lv' := [(1, .ref (ad 1 0 0)), (0, .ref (ad 0 0 0))]) hx hb dX4_isAnyJobOpen_4 rfl hl (by decide) rfl (fun ls hl => ?_)
  refine lv_aload_n hx hb dX4_isAnyJobOpen_5 rfl (lv_at hl 0 rfl) ?_
  refine ks_alen hx hb hK hW (ks_v1 (i := 0) (j := 0) (hE 1 rfl)) 3 (ks_c1 cy ad o 0 0 _) rfl (v := 16) rfl dX4_isAnyJobOpen_6 ?_
  refine lv_istore_n (lv' := [(2, .int 16), (1, .ref (ad 1 0 0)), (0, .ref (ad 0 0 0))]) hx hb dX4_isAnyJobOpen_7 rfl hl (by decide) rfl (fun ls hl => ?_)
  refine lv_iconst (v := 0) hx hb dX4_isAnyJobOpen_8 (by decide) ?_
  refine lv_istore_n (lv' := [(3, .int 0), (2, .int 16), (1, .ref (ad 1 0 0)), (0, .ref (ad 0 0 0))]) hx hb dX4_isAnyJobOpen_9 rfl hl (by decide) rfl (fun ls hl => ?_)
  exact t_X4_isAnyJobOpen_10 C _ _ _ _  hf hW hS (lv_sub hl [2, 1, 0] rfl)
set_option maxHeartbeats 4000000 in
set_option maxRecDepth 100000 in
theorem m_X4_isAnyJobOpen (l : Launch) (D : va_G) (cy : Nat → ClassId) (ad : ks_A) (En : Nat → Prop) (n0 : Nat → Prop) (hG : ks_G ad En n0) (hE : ∀ k, ks_g k = 0 → En k) (o : Int64) {N : Nat} {σ : ks_S}   {out : (Int32 × ks_S)} (hf : f_X4_isAnyJobOpen N σ  = some out) : Met l yX4_isAnyJobOpen wsX4_isAnyJobOpen (ks_Rm 0 0 0 0) (va_Pc [.ref (ad 0 0 0)] (ks_U D cy ad En n0 σ o)) (ks_Qi D cy ad En n0 o out) 0 0 (ks_F n0) := by
  refine Met.ofW (cc := cX4_isAnyJobOpen) (maxL := 5) (ret := some .boolean) (by decide) rfl ?_
  intro p e s m args below meth c s₁ B hml hv
  obtain ⟨rfl, hU⟩ := hv
  have hl := lv_entry ([.ref (ad 0 0 0)]) (n := 5) (Nat.le_of_ble_eq_true rfl)
  rw [lg_entry_eq]
  generalize (lg_sl ([.ref (ad 0 0 0)]) ++ List.replicate (5 - (lg_sl ([.ref (ad 0 0 0)])).length) Slot.unset).toArray = ls at hl ⊢
  exact t_X4_isAnyJobOpen ⟨B.exec, B.bytes, hml, B.returns, findClass_of_methodNamed B.named, atoms_spec (ws := wsX4_isAnyJobOpen) B.pre, B.notSynchronized, hG, hU, hE⟩  hf hU.2.1 va_S.rf hl
