/-! ===== by hand: fails, boards, hour ===== -/
set_option maxHeartbeats 4000000 in
theorem S_c13 {L : Nat} {xs : Fn} {x3 : Int32} {I F G ce cin} {K : KT} (hi : INV I F G ce cin) (v1 : vp_in (x3 + 1) L) (hK : ∀ I F G ce cin, INV I F G ce cin → K I F G ce cin) : WL_c13 L xs x3 I F G ce cin K := by
  obtain ⟨R, P, S, O, H, C, N, V, ad, ⟨q1, q2, q3, q4, q5, q6, q7⟩, ⟨p1, p2, p3, p4, p5, p6, p7⟩, ⟨b1, b2, b3, b4, b5, b6, b7, b8⟩, hR, hZ, hN, hV, hH⟩ := NOW hi.1
  obtain ⟨m1, m2, m3, m4⟩ := hi.2.2.1
  unfold WL_c13 WX10_fails
  generalize xs (x3 + 1).toNatClampNeg = x
  rw [q1, q2, q3, q5, q6]
  refine ⟨v1, ?_⟩
  by_cases d1 : x < -1
  · refine br_t d1 ⟨v1, ?_⟩
    unfold WX11_fails WX11_in
    exact br_t d1 (br_t rfl (same_K rfl (hK _ _ _ _ _ hi)))
  refine br_f d1 ?_
  by_cases d2 : x < 3
  · refine br_t d2 (C_isRiver b1 (fun z => br_t rfl ⟨v1, ?_⟩) (fun z => br_f (by decide) ?_))
    · unfold WX11_fails WX11_in
      exact br_f d1 (br_f (by grind) (br_f (by decide) (M_isRiver p1 b1 (fun _ => br_t rfl (same_K rfl (hK _ _ _ _ _ hi))) (fun z2 => absurd z2 (by omega)))))
    · have hok : okR (rvM (F 55) R 0 0 false (fun r => F 55 (145 + r)) V) := rvM_ok z b1 b7 (fun r hr => (hR r hr).2.2.1) (by decide) hH
      have hσ : okS (rvM (F 55) R 0 0 false (fun r => F 55 (145 + r)) V) (stM (F 55) H) 900 := stM_ok rfl b6 hR
      refine C_begin b1 b7 (fun r hr => ?_) (fun c hc => ⟨ad c, (hV c hc).1, (hV c hc).2.1⟩) (fun tb tm th tl to tw sl sb sw tc g1 g2 g3 g4 => ?_) _ _ _ _ _ _ _ _ _ _ _ _ _ _ _ _ _ _
      · rw [(hR r hr).1.2.2.2.2.2]; exact (hR r hr).2.2.2.2
      refine C_isSafe (rvM (F 55) R 0 0 false (fun r => F 55 (145 + r)) V) hok ⟨fun _ => rfl, fun _ => rfl⟩ (fun r hr => ?_) (CKr_of b1 b7 hH (fun r hr => ?_)) (stM (F 55) H) P S hσ (b3 z) b2 (by omega) (fun r hr => ?_) (fun r hr => ?_) (fun r hr => ?_) (fun r fh nh rb s1 s2 s3 s4 b p l w nh2 rb2 bb2 pp2 l2 w2 nh3 rb3 bb3 pp3 l3 w3 hsr => ?_) _ _ _ _ _ _ _ _ _ _ _ _ _ _ _ _ _ _ _ _ _ _ _
      · replace hr : r < R := hr
        rw [(g1 r (by omega)).1, (hR r hr).1.2.1, rB_0 (hR r hr).2.2.1.2]
      · obtain ⟨k1, k2⟩ := g3 r hr
        have e := (hR r hr).1.2.2.2.2.2
        exact ⟨fun h => k1 (e.trans h), fun c hc h => ⟨ad c, (k2 c hc (e.trans h)).trans (hV c hc).1, (hV c hc).2.1, (hV c hc).2.2.2.2.2.1⟩⟩
      · replace hr : r < R := hr
        exact (g2 r (by omega)).1.trans (hR r hr).1.1
      · replace hr : r < R := hr
        exact (g2 r (by omega)).2.1.trans (hR r hr).1.2.2.2.1
      · replace hr : r < R := hr
        exact (g2 r (by omega)).2.2.trans (hR r hr).1.2.2.2.2.1
      have hM : MWr (rvM (F 55) R 0 0 false (fun r => F 55 (145 + r)) V) (F 55) 0 (-1) (I 69) 0 0 := MWr_of p1 b1 b7 ⟨fun _ => rfl, fun _ => rfl⟩ hH (fun c hc => ⟨(hV c hc).2.2.1, left0 (by omega) (hV c hc).2.2.2.2.1⟩)
      rcases hsr with ⟨rfl, -, hs⟩ | ⟨rfl, n, row, hf, efh, hch⟩
      · refine br_f (by decide) ⟨v1, ?_⟩
        unfold WX11_fails WX11_in
        rw [m1, m2, m3, m4]
        refine br_f d1 (br_f (by grind) (br_f (by decide) (M_isRiver p1 b1 (fun z2 => absurd z2 (by omega)) (fun _ => br_f (by decide) (M_hold hM hok hσ (stM_MS p5) p3 (by omega) p2 b2 (fun r' a1 a2 a3 a4 a5 f1 f2 f3 f4 f5 hr' => ?_) _ _ _ _ _ _ _ _ _ _)))))
        rcases hr' with ⟨rfl, -, -⟩ | ⟨rfl, n, row, hf, -⟩
        · exact br_f (by decide) (same_K rfl (hK _ _ _ _ _ hi))
        · exact (Fst_safe hf hs).elim
      · have n3 : n ≤ 3 := Nat.le_trans hf.2.1 b2
        have n1 := hf.1
        have hrow : row < 1000 := by have := hf.2.2.1; have := pwr_512 (ρ := rvM (F 55) R 0 0 false (fun r => F 55 (145 + r)) V) b1 n3; omega
        -- the model's answer
        have mo : ∀ (r1 : Int32) (KK : Int32 → Int32 → Int32 → Int32 → Int32 → Fn → Fn → Fn → Fn → Fn → Prop), (x = -1 → r1 = nI n) → (nI n ≤ x → r1 = -5) → (∀ i, i < n → x = nI i → r1 = nI (row / pwr (rvM (F 55) R 0 0 false (fun r => F 55 (145 + r)) V) (n - 1 - i) % 2 ^ R)) → (∀ a1 a2 a3 a4 a5 f1 f2 f3 f4 f5, KK a1 a2 a3 a4 a5 f1 f2 f3 f4 f5) → WX11_fails x (I 66) (I 67) (I 68) (I 69) (I 70) (I 71) (I 72) (I 73) (I 74) (I 75) (F 55) (F 60) (F 61) (F 62) (F 63) (F 64) (fun r2 a1 a2 a3 a4 a5 f1 f2 f3 f4 f5 => ((r1 = r2 → KK a1 a2 a3 a4 a5 f1 f2 f3 f4 f5) ∧ (¬ (r1 = r2) → False))) := by
          intro r1 KK h1 h2 h3 hk
          unfold WX11_fails WX11_in
          rw [m1, m2, m3, m4]
          refine br_f d1 (br_f (by grind) (br_f (by decide) (M_isRiver p1 b1 (fun z2 => absurd z2 (by omega)) (fun _ => br_f (by decide) (M_hold hM hok hσ (stM_MS p5) p3 (by omega) p2 b2 (fun r' a1 a2 a3 a4 a5 f1 f2 f3 f4 f5 hr' => ?_) _ _ _ _ _ _ _ _ _ _)))))
          rcases hr' with ⟨rfl, -, hs⟩ | ⟨rfl, n', row', hf', e1, e2⟩
          · exact (Fst_safe hf hs).elim
          · obtain ⟨e3, e4⟩ := Fst_one hf hf'
            subst e3 e4
            rw [e1, e2]
            refine br_t rfl (br_c (fun c => same_K (h1 c) (hk _ _ _ _ _ _ _ _ _ _)) (fun c => br_c (fun c2 => same_K (h2 c2) (hk _ _ _ _ _ _ _ _ _ _)) (fun c2 => ?_)))
            obtain ⟨i, hi1, ei⟩ := nI_of (x := x) (by grind)
            subst ei
            have hin : i < n := by
              rcases Nat.lt_or_ge i n with h | h
              · exact h
              · exact absurd (nI_le h hi1) c2
            exact M_rainOf (ρ := rvM (F 55) R 0 0 false (fun r => F 55 (145 + r)) V) p1 b1 n3 hin hrow (same_K (h3 i hin rfl) (hk _ _ _ _ _ _ _ _ _ _))
        have kk : ∀ (fh : Int32) a1 a2 a3 a4 a5 f1 f2 f3 f4 f5, K (va_up (va_up (va_up (va_up (va_up (va_up (va_up (va_up (va_up (va_up (va_up (va_up (va_up (va_up (va_up (va_up (va_up (va_up (va_up (va_up (va_up (va_up (va_up (va_up I 33 0) 34 0) 35 fh) 36 (nI R)) 37 (nI P)) 38 (nI S)) 39 (I 7)) 40 (nI H)) 46 (nI H)) 48 nh) 49 rb) 42 s1) 43 s2) 44 s3) 45 s4) 50 nh2) 51 rb2) 52 nh3) 53 rb3) 66 a1) 72 a2) 73 a3) 74 a4) 75 a5) (va_up (va_up (va_up (va_up (va_up (va_up (va_up (va_up (va_up (va_up (va_up (va_up (va_up (va_up (va_up (va_up (va_up (va_up (va_up (va_up (va_up (va_up (va_up (va_up (va_up (va_up F 31 tb) 32 tm) 33 th) 34 tl) 35 to) 36 tw) 38 sl) 39 sb) 40 sw) 43 b) 45 p) 42 l) 44 w) 47 bb2) 49 pp2) 46 l2) 48 w2) 51 bb3) 53 pp3) 50 l3) 52 w3) 60 f1) 61 f2) 62 f3) 63 f4) 64 f5) (va_up G 2 tc) ce cin := fun fh a1 a2 a3 a4 a5 f1 f2 f3 f4 f5 => hK _ _ _ _ _ hi
        subst efh
        refine br_t rfl ?_
        by_cases d3 : x < nI n
        · refine br_t d3 ?_
          by_cases d4 : x = -1
          · exact br_t d4 ⟨v1, mo _ _ (fun _ => rfl) (fun z2 => by have := nI_pos (n := n) (by omega); rw [d4] at z2; grind) (fun i _ e => by rw [d4] at e; have := nI_pos (n := i) (by omega); rw [← e] at this; exact absurd (by decide) this) (fun a1 a2 a3 a4 a5 f1 f2 f3 f4 f5 => kk (nI n) a1 a2 a3 a4 a5 f1 f2 f3 f4 f5)⟩
          · refine br_f d4 ?_
            obtain ⟨i, hi1, ei⟩ := nI_of (x := x) (by grind)
            subst ei
            have hin : i < n := (nI_ltI hi1 (by omega)).mp d3
            have f50 : ∀ rr, rr = nI (row / pwr (rvM (F 55) R 0 0 false (fun r => F 55 (145 + r)) V) (n - 1 - i) % 2 ^ R) → _ := fun rr (err : rr = nI (row / pwr (rvM (F 55) R 0 0 false (fun r => F 55 (145 + r)) V) (n - 1 - i) % 2 ^ R)) => mo rr _ (fun z2 => absurd z2 d4) (fun z2 => absurd z2 (nI_ge hin (by omega))) (fun i' hi' e => by have := nI_inj (by omega) (by omega) e; subst this; exact err) (fun a1 a2 a3 a4 a5 f1 f2 f3 f4 f5 => kk (nI n) a1 a2 a3 a4 a5 f1 f2 f3 f4 f5)
            have hc := hch i hin
            unfold WX7_rainOf
            rcases (show i = 0 ∨ i = 1 ∨ i = 2 by omega) with rfl | rfl | rfl
            · exact br_t (by decide) ⟨v1, f50 _ hc⟩
            · refine br_f (by decide) ?_
              rintro _ rfl
              exact br_t (by decide) ⟨v1, f50 _ hc⟩
            · refine br_f (by decide) ?_
              rintro _ rfl
              refine br_f (by decide) ?_
              rintro _ rfl
              exact br_t (by decide) ⟨v1, f50 _ hc⟩
        · refine br_f d3 ⟨v1, mo _ _ (fun z2 => ?_) (fun _ => rfl) (fun i hi' e => ?_) (fun a1 a2 a3 a4 a5 f1 f2 f3 f4 f5 => kk (nI n) a1 a2 a3 a4 a5 f1 f2 f3 f4 f5)⟩
          · have := nI_pos (n := n) (by omega); rw [z2] at d3; grind
          · subst e; exact absurd (nI_lt hi' (by omega)) d3
  · refine br_f d2 ⟨v1, ?_⟩
    unfold WX11_fails WX11_in
    exact br_f d1 (br_t (by grind) (br_t rfl (same_K rfl (hK _ _ _ _ _ hi))))
set_option maxHeartbeats 4000000 in
theorem S_c8 {L : Nat} {xs : Fn} {x3 : Int32} {I F G ce cin} {K : KT} (hi : INV I F G ce cin) (v1 : vp_in (x3 + 1) L) (hK : ∀ I F G ce cin, INV I F G ce cin → K I F G ce cin) : WL_c8 L xs x3 I F G ce cin K := by
  obtain ⟨R, P, S, O, H, C, N, V, ad, ⟨q1, q2, q3, q4, q5, q6, q7⟩, ⟨p1, p2, p3, p4, p5, p6, p7⟩, ⟨b1, b2, b3, b4, b5, b6, b7, b8⟩, hR, hZ, hN, hV, hH⟩ := NOW hi.1
  obtain ⟨m1, m2, m3, m4⟩ := hi.2.2.1
  unfold WL_c8 WX10_boards
  generalize xs (x3 + 1).toNatClampNeg = x
  rw [q1, q2, q3, q5, q6]
  refine ⟨v1, C_isReach b1 (fun c => br_t rfl ⟨v1, ?_⟩) (fun j hj e => br_f (by decide) ?_)⟩
  · unfold WX11_boards
    exact M_isReach p1 b1 (fun _ => br_t rfl (same_K rfl (hK _ _ _ _ _ hi))) (fun j hj e => (no_reach (by omega) hj e c).elim)
  · subst e
    have z : 1 ≤ R := by omega
    have hok : okR (rvM (F 55) R 0 0 false (fun r => F 55 (145 + r)) V) := rvM_ok z b1 b7 (fun r hr => (hR r hr).2.2.1) (by decide) hH
    have hσ : okS (rvM (F 55) R 0 0 false (fun r => F 55 (145 + r)) V) (stM (F 55) H) 900 := stM_ok rfl b6 hR
    refine C_begin b1 b7 (fun r hr => ?_) (fun c hc => ⟨ad c, (hV c hc).1, (hV c hc).2.1⟩) (fun tb tm th tl to tw sl sb sw tc g1 g2 g3 g4 => ?_) _ _ _ _ _ _ _ _ _ _ _ _ _ _ _ _ _ _
    · rw [(hR r hr).1.2.2.2.2.2]; exact (hR r hr).2.2.2.2
    unfold WX7_boardsNext
    refine br_f (nI_pos (by omega)) (br_t (nI_lt (b := 3) (by omega) (by decide)) ?_)
    refine C_setBoards (rvM (F 55) R 0 0 false (fun r => F 55 (145 + r)) V) (stM (F 55) H) hok (okS_mono hσ (by decide)) ⟨fun _ => rfl, fun _ => rfl⟩ (fun r hr => ?_) (fun r hr => ?_) (fun r hr => ?_) (fun r hr => ?_) (CKr_of b1 b7 hH (fun r hr => ?_)) (fun s1 s2 s3 s4 b p hb _ => ?_) _ _ _ _ _ _ _
    · replace hr : r < R := hr
      rw [(g1 r (by omega)).1, (hR r hr).1.2.1, rB_0 (hR r hr).2.2.1.2]
    · replace hr : r < R := hr
      exact (g2 r (by omega)).1.trans (hR r hr).1.1
    · replace hr : r < R := hr
      exact (g2 r (by omega)).2.1.trans (hR r hr).1.2.2.2.1
    · replace hr : r < R := hr
      exact (g2 r (by omega)).2.2.trans (hR r hr).1.2.2.2.2.1
    · obtain ⟨k1, k2⟩ := g3 r hr
      have e := (hR r hr).1.2.2.2.2.2
      exact ⟨fun h => k1 (e.trans h), fun c hc h => ⟨ad c, (k2 c hc (e.trans h)).trans (hV c hc).1, (hV c hc).2.1, (hV c hc).2.2.2.2.2.1⟩⟩
    rw [nI_clamp (by omega), hb j hj]
    refine ⟨vp_in_nI (by omega) (by decide), v1, ?_⟩
    have hM : MWr (rvM (F 55) R 0 0 false (fun r => F 55 (145 + r)) V) (F 55) 0 (-1) (I 69) 0 0 := MWr_of p1 b1 b7 ⟨fun _ => rfl, fun _ => rfl⟩ hH (fun c hc => ⟨(hV c hc).2.2.1, left0 (by omega) (hV c hc).2.2.2.2.1⟩)
    unfold WX11_boards
    rw [m1, m2, m3, m4]
    refine M_isReach p1 b1 (fun c => (no_reach (by omega) hj rfl c).elim) (fun j' hj' e' => br_f (by decide) (M_takes (stM_MS p5) (fun l bo wy hl hbo hwy => ?_) _ _ _ _))
    refine M_boardsOf hM hok (by show H < 1000; omega) (fun r hr => hl r (Nat.lt_of_lt_of_le hr b1)) (fun r hr => hbo r (Nat.lt_of_lt_of_le hr b1)) (fun r hr => hwy r (Nat.lt_of_lt_of_le hr b1)) hj (fun tr => ?_) _
    exact same_K rfl (hK _ _ _ _ _ hi)
