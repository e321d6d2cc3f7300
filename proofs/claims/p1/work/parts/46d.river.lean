/-! ===== by hand: the call river ===== -/
theorem clip_ok {v : Nat} (hv : v ≤ 9) : ∃ P, 1 ≤ P ∧ P ≤ 3 ∧ clip (nI v) = nI P := by
  have : ∀ v, v ≤ 9 → clip (nI v) = nI (if v < 1 then 1 else if 3 < v then 3 else v) := by decide
  refine ⟨_, ?_, ?_, this v hv⟩ <;> (split <;> try split) <;> omega
theorem S_c1 {L : Nat} {xs : Fn} {x3 : Int32} {I F G ce cin} {K : KT} (hi : INV I F G ce cin) (hK : ∀ I F G ce cin, INV I F G ce cin → K I F G ce cin) : WL_c1 L xs x3 I F G ce cin K := by
  obtain ⟨R, P, S, O, H, C, N, B, ⟨⟨q1, q2, q3, q4, q5, q6, q7, q8⟩, p1, p2, p3, p4, p5, p6, p7, p8⟩, bd, hT, hR, hZ, hN, hC⟩ := hi.1
  have hR3 := bd.1
  have hC8 := bd.2.2.2.2.2.2.1
  have hB := bd.2.2.2.2.2.2.2.2
  have hT' : ∀ k, k < B → F 55 (10 + k) = F 0 k := fun k hk => (hT k hk).1.symm
  unfold WL_c1 WX10_river
  rw [q8]
  refine C_readsRiver (tp := F 0) (fun _ _ => rfl) (fun k hk => by rw [(hT k hk).1]; exact (hT k hk).2) hB (fun fault tape re sp su od bk ml hg lv bo wy h1 h2 h3 h4 h5 => ?_) _ _ _ _ _ _ _ _ _ _ _ _ _ _ _
  have frame7 : ∀ k, k ≠ 7 → upd (F 55) 7 0 k = F 55 k := fun k hk => pk_un hk
  by_cases cf : pB (rivP (F 0) B).1 = true ∨ pP (rivP (F 0) B).1 < B ∨ xN (rivP (F 0) B).2 = 0
  · rw [h4 cf]
    refine br_f (nI_pos (by omega)) (M_river hB p8 hT' ?_ ?_ _ _ _ _ _ _ _ _ _ _ _)
    rotate_left
    · intro z1 z2 z3
      exfalso
      rcases cf with c | c | c
      · rw [z1] at c; cases c
      · exact absurd c z2
      · exact absurd c z3
    intro _ a b c d e f g h k l m
    refine same_K rfl (hK _ _ _ _ _ ⟨⟨R, P, S, O, H, C, N, 0, ⟨⟨q1, q2, q3, q4, q5, q6, q7, rfl⟩, p1, p2, p3, p4, p5, p6, p7, rfl⟩, ?_, fun k hk => absurd hk (Nat.not_lt_zero k), fun r hr => ?_, fun r h1 h2 => ?_, fun k hk => ?_, okC_frame hC8 (fun k hk _ => frame7 k (by omega)) hC⟩, hi.2⟩)
    · obtain ⟨b1, b2, b3, b4, b5, b6, b7, b8, b9⟩ := bd
      exact ⟨b1, b2, b3, b4, b5, b6, b7, b8, by decide⟩
    · show (F 4 r = upd (F 55) 7 0 (130 + r) ∧ F 1 r = upd (F 55) 7 0 (133 + r) ∧ F 2 r = upd (F 55) 7 0 (136 + r) ∧ F 5 r = upd (F 55) 7 0 (139 + r) ∧ F 6 r = upd (F 55) 7 0 (142 + r) ∧ F 3 r = upd (F 55) 7 0 (145 + r)) ∧ (0 ≤ upd (F 55) 7 0 (130 + r) ∧ upd (F 55) 7 0 (130 + r) ≤ upd (F 55) 7 0 (133 + r)) ∧ (0 ≤ upd (F 55) 7 0 (133 + r) ∧ upd (F 55) 7 0 (133 + r) ≤ 9) ∧ (0 ≤ upd (F 55) 7 0 (139 + r) ∧ upd (F 55) 7 0 (139 + r) ≤ 3) ∧ (upd (F 55) 7 0 (145 + r) = -1 ∨ ∃ c, c < C ∧ upd (F 55) 7 0 (145 + r) = nI c)
      rw [frame7 _ (by omega), frame7 _ (by omega), frame7 _ (by omega), frame7 _ (by omega), frame7 _ (by omega), frame7 _ (by omega)]
      exact hR r hr
    · show upd (F 55) 7 0 (130 + r) = 0
      rw [frame7 _ (by omega)]; exact hZ r h1 h2
    · show F 8 k = upd (F 55) 7 0 (148 + k) ∧ ∃ b, b < 8 ∧ upd (F 55) 7 0 (148 + k) = nI b
      rw [frame7 _ (by omega)]; exact hN k hk
  · have cb : pB (rivP (F 0) B).1 = false := by cases h : pB (rivP (F 0) B).1 with
      | true => exact absurd (Or.inl h) cf
      | false => rfl
    have cp : ¬ pP (rivP (F 0) B).1 < B := fun h => cf (Or.inr (Or.inl h))
    have cn : xN (rivP (F 0) B).2 ≠ 0 := fun h => cf (Or.inr (Or.inr h))
    rw [h5 cb cp cn]
    refine br_t (by decide) ?_
    obtain ⟨r1, r2, r3, r4, r5⟩ := h1 cb
    obtain ⟨x1, ⟨vs, vs9, es⟩, ⟨vu, vu9, eu⟩, ⟨vo, vo9, eo⟩, x5⟩ := h2 cb
    obtain ⟨P', P1, P3, eP⟩ := clip_ok vs9
    unfold WX3_becomes WX8_becomes
    refine C_copy 3 (by decide) fun bank' h2 _ => C_copy 3 (by decide) fun mill' h3 _ => C_copy 3 (by decide) fun hung' h4 _ => C_copy 3 (by decide) fun lev' h5 _ => C_copy 3 (by decide) fun boa' h6 _ => C_copy 3 (by decide) fun way' h7 _ => ?_
    rw [r1, r2, r3, r4]
    refine M_river hB p8 hT' (fun z => absurd z cf) ?_ _ _ _ _ _ _ _ _ _ _ _
    intro _ _ _ _ a b c d e f g h k l m s' hs'
    refine same_K rfl (hK _ _ _ _ _ ⟨?_, hi.2⟩)
    obtain ⟨s0, s1, s2, s3, s4, s7, sr, sf⟩ := hs'
    refine ⟨xN (rivP (F 0) B).2, P', vu, vo, 0, C, N, 0, ⟨⟨rfl, ?_, eu, eo, rfl, q6, q7, rfl⟩, s0, s1.trans (by rw [es]; exact eP), s2.trans eu, s3.trans eo, s4, (sf 5 (by decide) (by decide) (by decide)).trans p6, (sf 6 (by decide) (by decide) (by decide)).trans p7, s7⟩, ?_, fun k hk => absurd hk (Nat.not_lt_zero k), fun r hr => ?_, fun r g1 g2 => ?_, fun k hk => ?_, okC_frame hC8 (fun k hk _ => sf k (by omega) (by omega) (by omega)) hC⟩
    · show clip (xSp (rivP (F 0) B).2) = nI P'
      rw [es]; exact eP
    · obtain ⟨b1, b2, b3, b4, b5, b6, b7, b8, b9⟩ := bd
      exact ⟨x1, P3, fun _ => P1, vu9, vo9, by decide, b7, b8, by decide⟩
    · obtain ⟨t1, t2, t3, t4, t5, t6⟩ := r5 r hr
      obtain ⟨o1, o2, o3, o4, o5, o6⟩ := sr r (by omega)
      obtain ⟨⟨vb, vb9, eb⟩, ⟨vm, vm9, em⟩, ⟨vl, vl9, el⟩⟩ := x5 r hr
      rw [if_pos hr] at o1 o2 o3
      show (lev' r = s' (130 + r) ∧ bank' r = s' (133 + r) ∧ mill' r = s' (136 + r) ∧ boa' r = s' (139 + r) ∧ way' r = s' (142 + r) ∧ hung' r = s' (145 + r)) ∧ (0 ≤ s' (130 + r) ∧ s' (130 + r) ≤ s' (133 + r)) ∧ (0 ≤ s' (133 + r) ∧ s' (133 + r) ≤ 9) ∧ (0 ≤ s' (139 + r) ∧ s' (139 + r) ≤ 3) ∧ (s' (145 + r) = -1 ∨ ∃ c, c < C ∧ s' (145 + r) = nI c)
      rw [h5 r (by omega), h2 r (by omega), h3 r (by omega), h6 r (by omega), h7 r (by omega), h4 r (by omega), o1, o2, o3, o4, o5, o6, t1, t2, t3, t4, t5, t6]
      refine ⟨⟨rfl, rfl, rfl, rfl, rfl, rfl⟩, ?_, ?_, by decide, Or.inl rfl⟩
      · rw [eb, el]
        unfold mnL
        have a1 := nI_pos' (n := vl) (by omega)
        have a2 := nI_pos' (n := vb) (by omega)
        grind
      · rw [eb]
        exact ⟨nI_pos' (by omega), nI_le (b := 9) vb9 (by decide)⟩
    · obtain ⟨o1, o2, o3, o4, o5, o6⟩ := sr r g2
      show s' (130 + r) = 0
      rw [o3, if_neg (by omega)]
    · show F 8 k = s' (148 + k) ∧ ∃ b, b < 8 ∧ s' (148 + k) = nI b
      rw [sf _ (by omega) (by omega) (by omega)]; exact hN k hk
