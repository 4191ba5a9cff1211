/-! PURE: choosing, all of it. -/
theorem nI_n1 {x : Nat} (hx : x < 2 ^ 31) : nI x ≠ -1 := fun e => by
  have h1 := nI_toInt hx
  rw [e] at h1
  have h2 : (-1 : Int32).toInt = -1 := by decide
  omega
theorem aPick_rows {D A : Nat → Nat → Int32} {c : Nat} : ∀ k, k ∈ [14, 26, 27, 28, 29, 30, 31, 33, 43, 44] → aPick D A c k = A k := by
  intro k hk
  funext s
  simp only [List.mem_cons, List.not_mem_nil, or_false] at hk
  rcases hk with rfl | rfl | rfl | rfl | rfl | rfl | rfl | rfl | rfl | rfl <;> simp [aPick, au]
theorem aPick_other {D A : Nat → Nat → Int32} {c : Nat} : ∀ s, s ≠ c → aPick D A c 39 s = A 39 s ∧ aPick D A c 40 s = A 40 s := fun s hs => by simp [aPick, au, hs]
/-- a core's choice stays a choice when other cores choose -/
theorem chosen_same {D A A' : Nat → Nat → Int32} {c : Nat} (e26 : A' 26 = A 26) (e29 : A' 29 = A 29) (e30 : A' 30 = A 30) (e39 : A' 39 c = A 39 c) (e40 : A' 40 c = A 40 c) (h : chosen D A c) : chosen D A' c := by
  unfold chosen nn at *
  rw [e26, e29, e30, e39, e40]
  exact h
theorem CH_step {D A : Nat → Nat → Int32} {F : Nat → Nat} {c : Nat} (hST : ST D) (hSG : SG D) (hc : c < 4) (h : CH D A F c) : ∃ F', CH D (aChoose D A c) F' (c + 1) := by
  have h40 := (h.1.2.1 c hc).1
  unfold aChoose
  by_cases hs : A 40 c ≤ 1
  · have h0 : nn A 40 c ≤ 1 := by
      rw [h40.1] at hs
      exact (nI_leI (b := 1) (by have := h40.2; omega) (by decide)).mp hs
    rw [if_pos hs]
    have hT := topL_spec D A c 16 (Nat.le_refl _)
    have hP39 : aPick D A c 39 c = aTopL D A c 16 := by simp [aPick, au]
    have hP40 : aPick D A c 40 c = if 0 ≤ aTopL D A c 16 then 1 else 0 := by simp [aPick, au]
    have p26 : aPick D A c 26 = A 26 := aPick_rows 26 (by decide)
    have p29 : aPick D A c 29 = A 29 := aPick_rows 29 (by decide)
    have p30 : aPick D A c 30 = A 30 := aPick_rows 30 (by decide)
    have p14 : aPick D A c 14 = A 14 := aPick_rows 14 (by decide)
    have n14 : nn (aPick D A c) 14 13 = nn A 14 13 := by unfold nn; rw [p14]
    have n29 : ∀ t, nn (aPick D A c) 29 t = nn A 29 t := fun t => by unfold nn; rw [p29]
    have n30 : ∀ t, nn (aPick D A c) 30 t = nn A 30 t := fun t => by unfold nn; rw [p30]
    have ok1 : ok (aPick D A c) 40 c 1 := by
      by_cases e : (0 : Int32) ≤ aTopL D A c 16
      · rw [if_pos e] at hP40
        exact (ok_nI (n := 1) hP40 (by decide) (by decide)).1
      · rw [if_neg e] at hP40
        exact (ok_nI (n := 0) hP40 (by decide) (by decide)).1
    have hPH : PH D (aPick D A c) F (fun _ => nn A 14 13) (fun _ => nn A 14 13) := PH_plain aPick_rows aPick_other h0 ok1 h.1
    have oth : ∀ s, s < c → chosen D (aPick D A c) s := fun s hs2 => chosen_same p26 p29 p30 (aPick_other s (by omega)).1 (aPick_other s (by omega)).2 (h.2 s hs2)
    rcases hT with ⟨t1, t2⟩ | ⟨t, t1, t2, t3, t4, t5⟩
    · rw [if_neg (fun q => absurd q.1 (by rw [t1]; decide))]
      refine ⟨F, by rw [n14]; exact hPH, fun s hs2 => ?_⟩
      by_cases e : s = c
      · subst e
        rw [t1, if_neg (by decide)] at hP40
        have q : nn (aPick D A s) 40 s = 0 := nn_nI (n := 0) hP40 (by decide)
        refine ⟨fun q1 => absurd q1 (by omega), fun _ => ⟨by rw [hP39, t1], fun v hv hv2 => ?_⟩⟩
        rw [p26] at hv2
        exact t2 v hv hv2
      · exact oth s (by omega)
    · have hcl : (aTopL D A c 16).toNatClampNeg = t := by rw [t2]; exact cl (by omega)
      have hge : (0 : Int32) ≤ aTopL D A c 16 := by rw [t2]; exact nI_pos' (by omega)
      rw [hcl]
      rw [if_pos hge] at hP40
      have hn40 : nn (aPick D A c) 40 c = 1 := nn_nI (n := 1) hP40 (by decide)
      have hj := h.1.1 t t1 t3
      obtain ⟨_, _, _, _, _, _, _, _, _, _, _, _, okc⟩ := core_of hST t1 hj.1
      have hlt : A 30 t < D 20 t ↔ nn A 30 t < cn D t := by
        have q1 : A 30 t = nI (nn A 30 t) := hj.2.2.2.2.1.1
        have q2 := hj.2.2.2.2.1.2
        have q3 : cn D t ≤ 6 := okc.2
        have q4 : D 20 t = nI (cn D t) := okc.1
        rw [q4]
        rw [q1, nI_ltI (by omega) (by omega)]
      have heq : nn A 30 t < cn D t → (A 29 t = D 21 (6 * t + nn A 30 t) ↔ nn A 29 t = af D t (nn A 30 t)) := fun hr => by
        have q1 := hj.2.2.2.1.1
        have q2 := hj.2.2.2.1.2
        have q3 := (hST.2.1 t _ t1 hr).1
        have q5 := (core_of hST t1 hj.1)
        obtain ⟨_, _, _, _, _, _, _, _, _, _, ok19, _, _⟩ := q5
        have q6 := ok19.2
        have q7 : af D t (nn A 30 t) ≤ 1000 := q3.2
        have q9 : D 21 (6 * t + nn A 30 t) = nI (af D t (nn A 30 t)) := q3.1
        rw [q9, q1, nI_eq (by omega) (by omega)]
      by_cases due : aDue D A t = true
      · rw [if_pos ⟨hge, due⟩]
        unfold aDue at due
        rw [decide_eq_true_eq] at due
        have d1 := hlt.mp due.1
        have d2 := (heq d1).mp due.2
        have hJ := PH_join hST hSG hc t1 (by omega) (by rw [hP39, t2]) (by rw [p26]; exact t3) t4 (fun v hv hv2 hv3 => t5 v hv (by rw [p26] at hv2; exact hv2) hv3) (by rw [n30]; exact d1) (by rw [n29, n30]; exact d2) (show PH D (aPick D A c) F (fun _ => nn (aPick D A c) 14 13) (fun _ => nn (aPick D A c) 14 13) by rw [n14]; exact hPH)
        have r14 : aJoin D (aPick D A c) c t 14 = aPick D A c 14 := aJoin_rows 14 (by decide)
        have m14 : nn (aJoin D (aPick D A c) c t) 14 13 = nn (aPick D A c) 14 13 := by unfold nn; rw [r14]
        refine ⟨_, by rw [m14]; exact hJ, fun s hs2 => ?_⟩
        by_cases e : s = c
        · subst e
          have q : nn (aJoin D (aPick D A s) s t) 40 s = 2 := nn_nI (n := 2) (by simp [aJoin, au]; rfl) (by decide)
          exact ⟨fun q1 => absurd q1 (by omega), fun q1 => absurd q1 (by omega)⟩
        · exact chosen_same (aJoin_rows 26 (by decide)) (aJoin_rows 29 (by decide)) (aJoin_rows 30 (by decide)) (by rw [aJoin_rows 39 (by decide)]) (by simp [aJoin, au, e]) (oth s (by omega))
      · rw [if_neg (fun q => due q.2)]
        refine ⟨F, by rw [n14]; exact hPH, fun s hs2 => ?_⟩
        by_cases e : s = c
        · subst e
          refine ⟨fun _ => ⟨t, t1, by rw [hP39, t2], by rw [p26]; exact t3, t4, fun v hv hv2 hv3 => t5 v hv (by rw [p26] at hv2; exact hv2) hv3, fun hr => ?_⟩, fun q1 => absurd q1 (by omega)⟩
          rw [n30] at hr
          rw [n29, n30]
          have q1 := (hj.2.2.2.2.2.1 hr).2
          have q2 : ¬ nn A 29 t = af D t (nn A 30 t) := fun q => due (by unfold aDue; rw [decide_eq_true_eq]; exact ⟨hlt.mpr hr, (heq hr).mpr q⟩)
          omega
        · exact oth s (by omega)
  · have h0 : ¬ nn A 40 c ≤ 1 := fun q => hs (by rw [h40.1]; exact (nI_leI (b := 1) (by have := h40.2; omega) (by decide)).mpr q)
    rw [if_neg hs]
    refine ⟨F, h.1, fun s hs2 => ?_⟩
    by_cases e : s = c
    · subst e
      exact ⟨fun q => absurd q (by omega), fun q => absurd q (by omega)⟩
    · exact h.2 s (by omega)
