/-! ===== by hand: holds, fails ===== -/
theorem rB_0 {s : Fn} {R : Nat} {st : Int32} {m : Bool} {hg : Fn} {V : Nat → CV} {r : Nat} (h : s (133 + r) ≤ 9) : rB (rvM s R st 0 m hg V) r = s (133 + r) := by
  show (if s (133 + r) + 0 ≤ 9 then s (133 + r) + 0 else 9) = _
  rw [Int32.add_zero, if_pos h]
/-- what the calls on a trial need of what holds between two calls -/
theorem NOW {b c n r p u o h : Int32} {tape bank mill hung lev boa way told : Fn} {cards : Nat → Option Nat} {ce : Nat → CT} {cin : Nat → Prop} {s : Fn} (w : WR b c n r p u o h tape bank mill hung lev boa way told cards ce cin s) : ∃ (R P S O H C N : Nat) (V : Nat → CV) (ad : Nat → Nat), (r = nI R ∧ p = nI P ∧ u = nI S ∧ o = nI O ∧ h = nI H ∧ c = nI C ∧ n = nI N) ∧ (s 0 = nI R ∧ s 1 = nI P ∧ s 2 = nI S ∧ s 3 = nI O ∧ s 4 = nI H ∧ s 5 = nI C ∧ s 6 = nI N) ∧ (R ≤ 3 ∧ P ≤ 3 ∧ (1 ≤ R → 1 ≤ P) ∧ S ≤ 9 ∧ O ≤ 9 ∧ H ≤ 99 ∧ C ≤ 8 ∧ N ≤ 10) ∧ okR3 s bank mill hung lev boa way R C ∧ (∀ r, R ≤ r → r < 3 → s (130 + r) = 0) ∧ okN s told N ∧ (∀ c, c < C → cards c = some (ad c) ∧ cin (ad c) ∧ picM s c (V c) ∧ okV (V c) ∧ vLeft (V c) = none ∧ picC (V c) (ce (ad c)) ∧ ct_number (ce (ad c)) = nI c) ∧ okH R C (fun r => s (145 + r)) V := by
  obtain ⟨R, P, S, O, H, C, N, B, ⟨⟨q1, q2, q3, q4, q5, q6, q7, q8⟩, p1, p2, p3, p4, p5, p6, p7, p8⟩, ⟨b1, b2, b3, b4, b5, b6, b7, b8, b9⟩, hT, hR, hZ, hN, hC⟩ := w
  obtain ⟨V, ad, hV⟩ := pickV hC
  refine ⟨R, P, S, O, H, C, N, V, ad, ⟨q1, q2, q3, q4, q5, q6, q7⟩, ⟨p1, p2, p3, p4, p5, p6, p7⟩, ⟨b1, b2, b3, b4, b5, b6, b7, b8⟩, hR, hZ, hN, hV, fun r hr => ?_⟩
  obtain ⟨-, -, -, -, h⟩ := hR r hr
  rcases h with h | ⟨c', c1, c2⟩
  · exact Or.inl h
  · exact Or.inr ⟨c', c1, c2, (hV c' c1).2.2.2.1⟩
theorem left0 {c : Nat} {v : CV} {ll : Int32} (hc : c < 1000) (h : vLeft v = none) : leftM c v (-1) ll := Or.inl ⟨h, by have := nI_pos (n := c) (by omega); grind⟩
theorem SR_HR {ρ : RV} {sp : Nat} {σ : St} {sum : Nat} {r fh r' fh' fr : Int32} {ch : Nat → Int32} (h1 : SR ρ sp σ sum r fh ch) (h2 : HR ρ sp σ sum r' fh' fr) : (r = 1 ∧ r' = 1) ∨ (r = 0 ∧ r' = 0 ∧ ∃ n row, Fst ρ sp σ sum n row ∧ fh = nI n ∧ fh' = nI n ∧ fr = nI row ∧ ∀ i, i < n → ch i = nI (row / pwr ρ (n - 1 - i) % 2 ^ rR ρ)) := by
  rcases h1 with ⟨a1, -, a2⟩ | ⟨a1, n, row, a2, a3, a4⟩ <;> rcases h2 with ⟨b1, -, b2⟩ | ⟨b1, n', row', b2, b3, b4⟩
  · exact Or.inl ⟨a1, b1⟩
  · exact (Fst_safe b2 a2).elim
  · exact (Fst_safe a2 b2).elim
  · obtain ⟨e1, e2⟩ := Fst_one a2 b2
    subst e1 e2
    exact Or.inr ⟨a1, b1, n, row, a2, a3, b3, b4, a4⟩
set_option maxHeartbeats 4000000 in
theorem S_c12 {L : Nat} {xs : Fn} {x3 : Int32} {I F G ce cin} {K : KT} (hi : INV I F G ce cin) (hK : ∀ I F G ce cin, INV I F G ce cin → K I F G ce cin) : WL_c12 L xs x3 I F G ce cin K := by
  obtain ⟨R, P, S, O, H, C, N, V, ad, ⟨q1, q2, q3, q4, q5, q6, q7⟩, ⟨p1, p2, p3, p4, p5, p6, p7⟩, ⟨b1, b2, b3, b4, b5, b6, b7, b8⟩, hR, hZ, hN, hV, hH⟩ := NOW hi.1
  obtain ⟨m1, m2, m3, m4⟩ := hi.2.2.1
  unfold WL_c12 WX10_holds
  rw [q1, q2, q3, q5, q6]
  refine C_isRiver b1 (fun z => br_t rfl ?_) (fun z => br_f (by decide) ?_)
  · unfold WX11_holds
    exact M_isRiver p1 b1 (fun _ => br_t rfl (same_K rfl (hK _ _ _ _ _ hi))) (fun z2 => absurd z2 (by omega))
  · have hok : okR (rvM (F 55) R 0 0 false (fun r => F 55 (145 + r)) V) := rvM_ok z b1 b7 (fun r hr => (hR r hr).2.2.1) (by decide) hH
    have hσ : okS (rvM (F 55) R 0 0 false (fun r => F 55 (145 + r)) V) (stM (F 55) H) 900 := stM_ok rfl b6 hR
    refine C_begin b1 b7 (fun r hr => ?_) (fun c hc => ⟨ad c, (hV c hc).1, (hV c hc).2.1⟩) (fun tb tm th tl to tw sl sb sw tc g1 g2 g3 g4 => ?_) _ _ _ _ _ _ _ _ _ _ _ _ _ _ _ _ _ _
    · rw [(hR r hr).1.2.2.2.2.2]; exact (hR r hr).2.2.2.2
    refine C_isSafe (rvM (F 55) R 0 0 false (fun r => F 55 (145 + r)) V) hok ⟨fun _ => rfl, fun _ => rfl⟩ (fun r hr => ?_) (CKr_of b1 b7 hH (fun r hr => ?_)) (stM (F 55) H) P S hσ (b3 z) b2 (by omega) (fun r hr => ?_) (fun r hr => ?_) (fun r hr => ?_) (fun r fh nh rb s1 s2 s3 s4 b p l w nh2 rb2 bb2 pp2 l2 w2 nh3 rb3 bb3 pp3 l3 w3 hsr => ?_) _ _ _ _ _ _ _ _ _ _ _ _ _ _ _ _ _ _ _ _ _ _ _
    · replace hr : r < R := hr
      rw [(g1 r (by omega)).1, (hR r hr).1.2.1, rB_0 (hR r hr).2.2.1.2]
    · obtain ⟨k1, k2⟩ := g3 r hr
      have e := (hR r hr).1.2.2.2.2.2
      exact ⟨fun h => k1 (e.trans h), fun c hc h => ⟨ad c, (k2 c hc (e.trans h)).trans (hV c hc).1, (hV c hc).2.1, (hV c hc).2.2.2.2.2.1⟩⟩
    · replace hr : r < R := hr
      exact (g2 r (by omega)).1.trans (hR r hr).1.1
    · replace hr : r < R := hr
      exact (g2 r (by omega)).2.1.trans (hR r hr).1.2.2.2.1
    · replace hr : r < R := hr
      exact (g2 r (by omega)).2.2.trans (hR r hr).1.2.2.2.2.1
    have hM : MWr (rvM (F 55) R 0 0 false (fun r => F 55 (145 + r)) V) (F 55) 0 (-1) (I 69) 0 0 := MWr_of p1 b1 b7 ⟨fun _ => rfl, fun _ => rfl⟩ hH (fun c hc => ⟨(hV c hc).2.2.1, left0 (by omega) (hV c hc).2.2.2.2.1⟩)
    rcases hsr with ⟨rfl, -, hs⟩ | ⟨rfl, n, row, hf, -⟩
    · refine br_f (by decide) ?_
      unfold WX11_holds
      rw [m1, m2, m3, m4]
      refine M_isRiver p1 b1 (fun z2 => absurd z2 (by omega)) (fun _ => br_f (by decide) (M_hold hM hok hσ (stM_MS p5) p3 (by omega) p2 b2 (fun r' a1 a2 a3 a4 a5 f1 f2 f3 f4 f5 hr' => ?_) _ _ _ _ _ _ _ _ _ _))
      rcases hr' with ⟨rfl, -, -⟩ | ⟨rfl, n, row, hf, -⟩
      · exact br_f (by decide) (same_K rfl (hK _ _ _ _ _ hi))
      · exact (Fst_safe hf hs).elim
    · refine br_t rfl ?_
      unfold WX11_holds
      rw [m1, m2, m3, m4]
      refine M_isRiver p1 b1 (fun z2 => absurd z2 (by omega)) (fun _ => br_f (by decide) (M_hold hM hok hσ (stM_MS p5) p3 (by omega) p2 b2 (fun r' a1 a2 a3 a4 a5 f1 f2 f3 f4 f5 hr' => ?_) _ _ _ _ _ _ _ _ _ _))
      rcases hr' with ⟨rfl, -, hs⟩ | ⟨rfl, n, row, hf, -⟩
      · exact (Fst_safe hf hs).elim
      · exact br_t rfl (same_K rfl (hK _ _ _ _ _ hi))
