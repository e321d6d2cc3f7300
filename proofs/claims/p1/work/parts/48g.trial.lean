/-! ===== by hand: drunk, the step ===== -/
set_option maxHeartbeats 4000000 in
theorem S_c17 {L : Nat} {xs : Fn} {x3 : Int32} {I F G ce cin} {K : KT} (hi : INV I F G ce cin) (v1 : vp_in (x3 + 1) L) (hK : ∀ I F G ce cin, INV I F G ce cin → K I F G ce cin) : WL_c17 L xs x3 I F G ce cin K := by
  obtain ⟨R, P, S, O, H, C, N, V, ad, ⟨q1, q2, q3, q4, q5, q6, q7⟩, ⟨p1, p2, p3, p4, p5, p6, p7⟩, ⟨b1, b2, b3, b4, b5, b6, b7, b8⟩, hR, hZ, hN, hV, hH⟩ := NOW hi.1
  obtain ⟨m1, m2, m3, m4⟩ := hi.2.2.1
  unfold WL_c17 WX10_drunk
  generalize xs (x3 + 1).toNatClampNeg = x
  rw [q1, q2, q3, q5, q6]
  refine ⟨v1, ?_⟩
  by_cases d1 : x < 0
  · refine br_t d1 ⟨v1, ?_⟩
    unfold WX11_drunk WX11_in
    exact br_t d1 (br_t rfl (same_K rfl (hK _ _ _ _ _ hi)))
  refine br_f d1 ?_
  by_cases d2 : x ≤ 1
  · refine br_t d2 (C_isRiver b1 (fun z => br_t rfl ⟨v1, ?_⟩) (fun z => br_f (by decide) ?_))
    · unfold WX11_drunk WX11_in
      exact br_f d1 (br_f (by grind) (br_f (by decide) (M_isRiver p1 b1 (fun _ => br_t rfl (same_K rfl (hK _ _ _ _ _ hi))) (fun z2 => absurd z2 (by omega)))))
    · have hx : x = 0 ∨ x = 1 := by grind
      have hok : ∀ k, okR (rvM (F 55) R (nI k) 0 false (fun r => F 55 (145 + r)) V) := fun k => rvM_ok z b1 b7 (fun r hr => (hR r hr).2.2.1) (by decide) hH
      have hσ : ∀ k, okS (rvM (F 55) R (nI k) 0 false (fun r => F 55 (145 + r)) V) (stM (F 55) H) 900 := fun k => stM_ok rfl b6 hR
      have hM : ∀ k, MWr (rvM (F 55) R (nI k) 0 false (fun r => F 55 (145 + r)) V) (F 55) (nI k) (-1) (I 69) 0 0 := fun k => MWr_of p1 b1 b7 ⟨fun _ => rfl, fun _ => rfl⟩ hH (fun c hc => ⟨(hV c hc).2.2.1, left0 (by omega) (hV c hc).2.2.2.2.1⟩)
      refine C_begin b1 b7 (fun r hr => ?_) (fun c hc => ⟨ad c, (hV c hc).1, (hV c hc).2.1⟩) (fun tb tm th tl to tw sl sb sw tc g1 g2 g3 g4 => ?_) _ _ _ _ _ _ _ _ _ _ _ _ _ _ _ _ _ _
      · rw [(hR r hr).1.2.2.2.2.2]; exact (hR r hr).2.2.2.2
      have hbk : ∀ r, r < R → tb r = F 55 (133 + r) := fun r hr => by rw [(g1 r (by omega)).1, (hR r hr).1.2.1]
      have hCK : ∀ k, CKr (rvM (F 55) R (nI k) 0 false (fun r => F 55 (145 + r)) V) (nI k) tc ce cin := fun k => CKr_of b1 b7 hH (fun r hr => by
        obtain ⟨k1, k2⟩ := g3 r hr
        have e := (hR r hr).1.2.2.2.2.2
        exact ⟨fun h => k1 (e.trans h), fun c hc h => ⟨ad c, (k2 c hc (e.trans h)).trans (hV c hc).1, (hV c hc).2.1, (hV c hc).2.2.2.2.2.1⟩⟩)
      refine C_drunk (H := H) (good := fun k => Safe (rvM (F 55) R (nI k) 0 false (fun r => F 55 (145 + r)) V) P (stM (F 55) H) S) b1 (fun k hk7 Q hq1 hq0 fh nh rb s1 s2 s3 s4 b p l w nh2 rb2 bb2 pp2 ll2 ww2 nh3 rb3 bb3 pp3 ll3 ww3 => ?_) (fun as fh nh rb s1 s2 s3 s4 b p l w nh2 rb2 bb2 pp2 ll2 ww2 nh3 rb3 bb3 pp3 ll3 ww3 => ?_) _ _ _ _ _ _ _ _ _ _ _ _ _ _ _ _ _ _ _ _ _ _ _
      · exact C_isSafe (rvM (F 55) R (nI k) 0 false (fun r => F 55 (145 + r)) V) (hok k) ⟨fun _ => rfl, fun _ => rfl⟩ (fun r hr => (hbk r hr).trans (rB_0 (hR r hr).2.2.1.2).symm) (hCK k) (stM (F 55) H) P S (hσ k) (b3 z) b2 (by omega) (fun r hr => (g2 r (Nat.lt_of_lt_of_le hr b1)).1.trans (hR r hr).1.1) (fun r hr => (g2 r (Nat.lt_of_lt_of_le hr b1)).2.1.trans (hR r hr).1.2.2.2.1) (fun r hr => (g2 r (Nat.lt_of_lt_of_le hr b1)).2.2.trans (hR r hr).1.2.2.2.2.1) (fun r fh nh rb s1 s2 s3 s4 b p l w nh2 rb2 bb2 pp2 ll2 ww2 nh3 rb3 bb3 pp3 ll3 ww3 hsr => by
          rcases hsr with ⟨rfl, -, hs⟩ | ⟨rfl, n, row, hf, -⟩
          · exact hq1 _ _ _ _ _ _ _ _ _ _ _ _ _ _ _ _ _ _ _ _ _ _ _ hs
          · exact hq0 _ _ _ _ _ _ _ _ _ _ _ _ _ _ _ _ _ _ _ _ _ _ _ (fun hs => Fst_safe hf hs)) _ _ _ _ _ _ _ _ _ _ _ _ _ _ _ _ _ _ _ _ _ _ _
      · refine ⟨v1, ?_⟩
        rw [m1, m2, m3, m4]
        refine M_drunk (L := L) (P := P) (S := S) (H := H) (C := C) (V := V) (good := fun k => Safe (rvM (F 55) R (nI k) 0 false (fun r => F 55 (145 + r)) V) P (stM (F 55) H) S) hx p1 z b1 (fun k hk7 Q hq1 hq0 h o d fh fr lv bo wy nx tr => ?_) (fun a1 a3 a4 a5 a6 f1 f2 f3 f4 f5 => ?_) rfl _ _ _ _ _ _ _ _ _ _
        · exact M_hold (hM k) (hok k) (hσ k) (stM_MS p5) p3 (by omega) p2 b2 (fun r' a1 a2 a3 a4 a5 f1 f2 f3 f4 f5 hr' => by
            rcases hr' with ⟨rfl, -, hs⟩ | ⟨rfl, n, row, hf, -⟩
            · exact hq1 _ _ _ _ _ _ _ _ _ _ hs
            · exact hq0 _ _ _ _ _ _ _ _ _ _ (fun hs => Fst_safe hf hs)) _ _ _ _ _ _ _ _ _ _
        · exact hK _ _ _ _ _ ⟨hi.1, hi.2.1, ⟨rfl, m2, m3, m4⟩, hi.2.2.2⟩
  · refine br_f d2 ⟨v1, ?_⟩
    unfold WX11_drunk WX11_in
    exact br_f d1 (br_t (by grind) (br_t rfl (same_K rfl (hK _ _ _ _ _ hi))))
