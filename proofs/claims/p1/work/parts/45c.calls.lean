/-! ===== by hand: calls on the water, the image ===== -/
theorem WR_water {b c n r p u o h : Int32} {tape bank mill hung lev boa way told : Fn} {cards : Nat → Option Nat} {ce : Nat → CT} {cin : Nat → Prop} {s : Fn} (w : WR b c n r p u o h tape bank mill hung lev boa way told cards ce cin s) {s' hung' lev' boa' way' : Fn} {h' : Int32} (fr : ∀ k, k ≠ 4 → ¬ (130 ≤ k ∧ k < 133) → ¬ (139 ≤ k ∧ k < 148) → s' k = s k) (hh : ∃ H', H' ≤ 99 ∧ h' = nI H' ∧ s' 4 = nI H') (hz : ∀ R, r = nI R → R ≤ 3 → ∀ q, R ≤ q → q < 3 → s' (130 + q) = 0) (hr : ∀ R C : Nat, r = nI R → R ≤ 3 → c = nI C → C ≤ 8 → okR3 s' bank mill hung' lev' boa' way' R C) : WR b c n r p u o h' tape bank mill hung' lev' boa' way' told cards ce cin s' := by
  obtain ⟨R, P, S, O, H, C, N, B, ⟨⟨q1, q2, q3, q4, q5, q6, q7, q8⟩, p1, p2, p3, p4, p5, p6, p7, p8⟩, ⟨b1, b2, b3, b4, b5, b6, b7, b8, b9⟩, hT, hR, hZ, hN, hC⟩ := w
  obtain ⟨H', h1, h2, h3⟩ := hh
  refine ⟨R, P, S, O, H', C, N, B, ⟨⟨q1, q2, q3, q4, h2, q6, q7, q8⟩, (fr 0 (by decide) (by decide) (by decide)).trans p1, (fr 1 (by decide) (by decide) (by decide)).trans p2, (fr 2 (by decide) (by decide) (by decide)).trans p3, (fr 3 (by decide) (by decide) (by decide)).trans p4, h3, (fr 5 (by decide) (by decide) (by decide)).trans p6, (fr 6 (by decide) (by decide) (by decide)).trans p7, (fr 7 (by decide) (by decide) (by decide)).trans p8⟩, ⟨b1, b2, b3, b4, b5, h1, b7, b8, b9⟩, fun k hk => ?_, hr R C q1 b1 q6 b7, hz R q1 b1, fun k hk => ?_, okC_frame b7 (fun k hk _ => fr k (by omega) (by omega) (by omega)) hC⟩
  · rw [fr _ (by omega) (by omega) (by omega)]; exact hT k hk
  · rw [fr _ (by omega) (by omega) (by omega)]; exact hN k hk
theorem C_hang {x y : Int32} {R C : Nat} (hR : R ≤ 3) (hC : C ≤ 8) {hung : Fn} {cards : Nat → Option Nat} (hc : ∀ c, c < C → cards c ≠ none) {Q : Int32 → Fn → Prop} (h0 : (x < 0 ∨ nI R ≤ x) → Q (-1) hung) (h1 : ∀ j, j < R → x = nI j → y ≠ -1 → (y < 0 ∨ nI C ≤ y) → Q (-1) hung) (h2 : ∀ j, j < R → x = nI j → (y = -1 ∨ ∃ c, c < C ∧ y = nI c) → Q (if 0 ≤ hung j then hung j else -5) (upd hung j y)) : WX10_hang x y (nI C) (nI R) hung cards Q := by
  unfold WX10_hang
  refine C_isReach hR (fun c => br_t rfl (h0 c)) (fun j hj e => br_f (by decide) ?_)
  have f : (y = -1 ∨ ∃ c, c < C ∧ y = nI c) → WX10_hang_28 x y (nI C) (nI R) cards hung Q := by
    intro hy
    have := h2 j hj e hy
    subst e
    unfold WX10_hang_28
    rw [nI_clamp (by omega)]
    refine ⟨vp_in_nI (by omega) (by decide), ?_⟩
    rintro _ rfl
    refine ⟨vp_in_nI (by omega) (by decide), br_c (fun c => ?_) (fun c => ?_)⟩
    · rwa [if_pos c] at this
    · rwa [if_neg c] at this
  refine br_c (fun c => f (Or.inl c)) (fun c => C_cardOf hC (fun c2 => ⟨fun _ => h1 j hj e c c2, fun a z => by cases z⟩) (fun i hi ei => ⟨fun z => (hc i hi z).elim, fun a _ => f (Or.inr ⟨i, hi, ei⟩)⟩))
theorem M_hang {x y : Int32} {s : Fn} {R C : Nat} (hs : s 0 = nI R) (hs5 : s 5 = nI C) (hR : R ≤ 3) (hC : C ≤ 8) {Q : Int32 → Fn → Prop} (h0 : (x < 0 ∨ nI R ≤ x) → Q (-1) s) (h1 : ∀ j, j < R → x = nI j → y ≠ -1 → (y < 0 ∨ nI C ≤ y) → Q (-1) s) (h2 : ∀ j, j < R → x = nI j → (y = -1 ∨ ∃ c, c < C ∧ y = nI c) → Q (if s (145 + j) = -1 then -5 else s (145 + j)) (upd s (145 + j) y)) : WX11_hang x y s Q := by
  unfold WX11_hang
  refine M_isReach hs hR (fun c => br_t rfl (h0 c)) (fun j hj e => br_f (by decide) ?_)
  rw [show s (5 : Int32).toNatClampNeg = nI C from hs5]
  have hC0 : 0 ≤ nI C := nI_pos' (by omega)
  have hC1 : nI C ≤ 8 := nI_le (b := 8) (by omega) (by decide)
  have f : (y = -1 ∨ ∃ c, c < C ∧ y = nI c) → vp_in (145 + x) 1454 ∧ ∀ y6 : Int32, y6 = (s (145 + x).toNatClampNeg) → vp_in (145 + x) 1454 ∧ ((y6 = (-1) → Q (-5) (upd s (145 + x).toNatClampNeg y)) ∧ (¬ (y6 = (-1)) → Q y6 (upd s (145 + x).toNatClampNeg y))) := by
    intro hy
    have := h2 j hj e hy
    subst e
    rw [show (145 : Int32) + nI j = nI (145 + j) by rw [← nI_add]; rfl, nI_clamp (by omega)]
    refine ⟨vp_in_nI (by omega) (by decide), ?_⟩
    rintro _ rfl
    refine ⟨vp_in_nI (by omega) (by decide), br_c (fun c => ?_) (fun c => ?_)⟩
    · rwa [if_pos c] at this
    · rwa [if_neg c] at this
  unfold WX11_in
  by_cases c0 : y = -1
  · exact br_f (by rw [c0]; decide) (br_f (by grind) (br_f (by decide) (f (Or.inl c0))))
  rcases lt_of_nI (x := y) (R := C) (by omega) with c | c | ⟨i, hi, rfl⟩
  · exact br_t (by grind) (br_t rfl (h1 j hj e c0 (Or.inl c)))
  · exact br_f (by grind) (br_t (by grind) (br_t rfl (h1 j hj e c0 (Or.inr c))))
  · have a1 := nI_pos (n := i) (by omega)
    have a2 := nI_lt hi (show C < 2 ^ 31 by omega)
    exact br_f (by grind) (br_f (by grind) (br_f (by decide) (f (Or.inr ⟨i, hi, rfl⟩))))
theorem nI_inj {a b : Nat} (ha : a < 1000) (hb : b < 1000) (h : nI a = nI b) : a = b := (nI_eq (by omega) (by omega)).mp h
theorem S_c4 {L : Nat} {xs : Fn} {x3 : Int32} {I F G ce cin} {K : KT} (hi : INV I F G ce cin) (v1 : vp_in (x3 + 1) L) (v2 : vp_in (x3 + 2) L) (hK : ∀ I F G ce cin, INV I F G ce cin → K I F G ce cin) : WL_c4 L xs x3 I F G ce cin K := by
  have w := hi.1
  obtain ⟨R, P, S, O, H, C, N, B, ⟨e1, e2⟩, bd, hT, hR, hZ, hN, hC⟩ := hi.1
  have hC8 : C ≤ 8 := bd.2.2.2.2.2.2.1
  have hR3 := bd.1
  unfold WL_c4
  generalize xs (x3 + 1).toNatClampNeg = x
  generalize xs (x3 + 2).toNatClampNeg = y
  rw [e1.1, e1.2.2.2.2.2.1]
  have same : K I (va_up (va_up F 3 (F 3)) 55 (F 55)) G ce cin := hK _ _ _ _ _ hi
  refine ⟨v1, v2, C_hang hR3 hC8 (fun c hc => ?_) (fun c => ⟨v1, v2, ?_⟩) (fun j hj e c c2 => ⟨v1, v2, ?_⟩) (fun j hj e c => ⟨v1, v2, ?_⟩)⟩
  · obtain ⟨a, v, ea, -⟩ := hC.1 c hc
    rw [ea]; exact fun z => by cases z
  · exact M_hang e2.1 e2.2.2.2.2.2.1 hR3 hC8 (fun _ => same_K rfl same) (fun j hj e _ _ => (no_reach (by omega) hj e c).elim) (fun j hj e _ => (no_reach (by omega) hj e c).elim)
  · refine M_hang e2.1 e2.2.2.2.2.2.1 hR3 hC8 (fun z => (no_reach (by omega) hj e z).elim) (fun _ _ _ _ _ => same_K rfl same) (fun _ _ _ z => ?_)
    rcases z with z | ⟨i, h1, h2⟩
    · exact (c z).elim
    · exact (no_reach (by omega) h1 h2 c2).elim
  · refine M_hang e2.1 e2.2.2.2.2.2.1 hR3 hC8 (fun z => (no_reach (by omega) hj e z).elim) (fun j' hj' e' z z2 => ?_) (fun j' hj' e' _ => ?_)
    · rcases c with c | ⟨i, h1, h2⟩
      · exact (z c).elim
      · exact (no_reach (by omega) h1 h2 z2).elim
    · have := nI_inj (by omega) (by omega) (e'.symm.trans e)
      subst this
      obtain ⟨⟨r1, r2, r3, r4, r5, r6⟩, -, -, -, r7⟩ := hR j' hj'
      refine same_K ?_ (hK _ _ _ _ _ ⟨?_, hi.2⟩)
      · rw [r6]
        rcases r7 with r7 | ⟨c', h1, h2⟩
        · rw [r7]; rfl
        · rw [h2, if_pos (nI_pos' (by omega)), if_neg (by have := nI_pos (n := c') (by omega); grind)]
      · refine WR_water w (fun k h1 h2 h3 => pk_un (by omega)) ⟨H, bd.2.2.2.2.2.1, e1.2.2.2.2.1, (pk_un (by omega)).trans e2.2.2.2.2.1⟩ (fun R' h1 h2 q h3 h4 => ?_) (fun R' C' h1 h2 h3 h4 r hr => ?_)
        · have : R' = R := nI_inj (by omega) (by omega) (h1.symm.trans e1.1)
          subst this
          exact (pk_un (by omega)).trans (hZ q h3 h4)
        · have : R' = R := nI_inj (by omega) (by omega) (h1.symm.trans e1.1)
          subst this
          have : C' = C := nI_inj (by omega) (by omega) (h3.symm.trans e1.2.2.2.2.2.1)
          subst this
          obtain ⟨⟨s1, s2, s3, s4, s5, s6⟩, s7, s8, s9, s10⟩ := hR r hr
          show (F 4 r = upd (F 55) (145 + j') y (130 + r) ∧ F 1 r = upd (F 55) (145 + j') y (133 + r) ∧ F 2 r = upd (F 55) (145 + j') y (136 + r) ∧ F 5 r = upd (F 55) (145 + j') y (139 + r) ∧ F 6 r = upd (F 55) (145 + j') y (142 + r) ∧ upd (F 3) j' y r = upd (F 55) (145 + j') y (145 + r)) ∧ (0 ≤ upd (F 55) (145 + j') y (130 + r) ∧ upd (F 55) (145 + j') y (130 + r) ≤ upd (F 55) (145 + j') y (133 + r)) ∧ (0 ≤ upd (F 55) (145 + j') y (133 + r) ∧ upd (F 55) (145 + j') y (133 + r) ≤ 9) ∧ (0 ≤ upd (F 55) (145 + j') y (139 + r) ∧ upd (F 55) (145 + j') y (139 + r) ≤ 3) ∧ (upd (F 55) (145 + j') y (145 + r) = -1 ∨ ∃ c, c < C' ∧ upd (F 55) (145 + j') y (145 + r) = nI c)
          rw [pk_un (by omega), pk_un (by omega), pk_un (by omega), pk_un (by omega), pk_un (by omega)]
          by_cases cr : r = j'
          · subst cr
            rw [pk_us, pk_us]
            exact ⟨⟨s1, s2, s3, s4, s5, rfl⟩, s7, s8, s9, c⟩
          · rw [pk_un cr, pk_un (by omega)]
            exact ⟨⟨s1, s2, s3, s4, s5, s6⟩, s7, s8, s9, s10⟩
theorem S_c7 {L : Nat} {xs : Fn} {x3 : Int32} {I F G ce cin} {K : KT} (hi : INV I F G ce cin) (v1 : vp_in (x3 + 1) L) (v2 : vp_in (x3 + 2) L) (hK : ∀ I F G ce cin, INV I F G ce cin → K I F G ce cin) : WL_c7 L xs x3 I F G ce cin K := by
  have w := hi.1
  obtain ⟨R, P, S, O, H, C, N, B, ⟨e1, e2⟩, bd, hT, hR, hZ, hN, hC⟩ := hi.1
  have hC8 : C ≤ 8 := bd.2.2.2.2.2.2.1
  have hR3 := bd.1
  unfold WL_c7 WX10_level
  generalize xs (x3 + 1).toNatClampNeg = x
  generalize xs (x3 + 2).toNatClampNeg = y
  rw [e1.1]
  have same : K I (va_up (va_up (va_up F 4 (F 4)) 6 (F 6)) 55 (F 55)) G ce cin := hK _ _ _ _ _ hi
  have m : ∀ j, j < R → x = nI j → ∀ Q : Int32 → Fn → Prop, ((y < 0 ∨ F 55 (133 + j) < y) → Q (-2) (F 55)) → (0 ≤ y → y ≤ F 55 (133 + j) → Q (F 55 (130 + j)) (upd (upd (F 55) (130 + j) y) (142 + j) 1)) → WX11_level x y (F 55) Q := by
    intro j hj e Q h1 h2
    unfold WX11_level
    refine M_isReach e2.1 hR3 (fun c => (no_reach (by omega) hj e c).elim) (fun j' hj' e' => br_f (by decide) ?_)
    subst e
    rw [show (133 : Int32) + nI j = nI (133 + j) by rw [← nI_add]; rfl, nI_clamp (by omega)]
    refine ⟨vp_in_nI (by omega) (by decide), ?_⟩
    unfold WX11_in
    refine br_c (fun c => br_t rfl (h1 (Or.inl c))) (fun c => br_c (fun c2 => br_t rfl (h1 (Or.inr c2))) (fun c2 => br_f (by decide) ?_))
    rw [show (130 : Int32) + nI j = nI (130 + j) by rw [← nI_add]; rfl, nI_clamp (by omega), show (142 : Int32) + nI j = nI (142 + j) by rw [← nI_add]; rfl, nI_clamp (by omega)]
    refine ⟨vp_in_nI (by omega) (by decide), ?_⟩
    rintro _ rfl
    exact ⟨vp_in_nI (by omega) (by decide), vp_in_nI (by omega) (by decide), h2 (by grind) (by grind)⟩
  refine ⟨v1, v2, C_isReach hR3 (fun c => br_t rfl ⟨v1, v2, ?_⟩) (fun j hj e => br_f (by decide) ?_)⟩
  · unfold WX11_level
    exact M_isReach e2.1 hR3 (fun _ => br_t rfl (same_K rfl same)) (fun j hj e => (no_reach (by omega) hj e c).elim)
  · obtain ⟨⟨r1, r2, r3, r4, r5, r6⟩, r7, r8, r9, r10⟩ := hR j hj
    refine br_c (fun c => ⟨v1, v2, m j hj e _ (fun _ => same_K rfl same) (fun z => by grind)⟩) (fun c => ?_)
    have ex : x.toNatClampNeg = j := by rw [e, nI_clamp (by omega)]
    have vx : vp_in x 3 := by rw [e]; exact vp_in_nI (by omega) (by decide)
    rw [ex, r2, r1]
    refine ⟨vx, br_c (fun c2 => ⟨vx, ?_⟩) (fun c2 => ⟨v1, v2, m j hj e _ (fun _ => same_K rfl same) (fun z z2 => by grind)⟩)⟩
    rintro _ rfl
    refine ⟨vx, vx, v1, v2, m j hj e _ (fun z => ?_) (fun z z2 => same_K rfl (hK _ _ _ _ _ ⟨?_, hi.2⟩))⟩
    · rcases z with z | z
      · exact absurd z c
      · exact absurd z (by grind)
    · refine WR_water w (fun k h1 h2 h3 => (pk_un (by omega)).trans (pk_un (by omega))) ⟨H, bd.2.2.2.2.2.1, e1.2.2.2.2.1, ((pk_un (by omega)).trans (pk_un (by omega))).trans e2.2.2.2.2.1⟩ (fun R' h1 h2 q h3 h4 => ?_) (fun R' C' h1 h2 h3 h4 r hr => ?_)
      · have : R' = R := nI_inj (by omega) (by omega) (h1.symm.trans e1.1)
        subst this
        exact ((pk_un (by omega)).trans (pk_un (by omega))).trans (hZ q h3 h4)
      · have : R' = R := nI_inj (by omega) (by omega) (h1.symm.trans e1.1)
        subst this
        have : C' = C := nI_inj (by omega) (by omega) (h3.symm.trans e1.2.2.2.2.2.1)
        subst this
        obtain ⟨⟨s1, s2, s3, s4, s5, s6⟩, s7, s8, s9, s10⟩ := hR r hr
        have g : ∀ k, k ≠ 130 + j → k ≠ 142 + j → upd (upd (F 55) (130 + j) y) (142 + j) 1 k = F 55 k := fun k h1 h2 => (pk_un h2).trans (pk_un h1)
        show (upd (F 4) j y r = upd (upd (F 55) (130 + j) y) (142 + j) 1 (130 + r) ∧ F 1 r = upd (upd (F 55) (130 + j) y) (142 + j) 1 (133 + r) ∧ F 2 r = upd (upd (F 55) (130 + j) y) (142 + j) 1 (136 + r) ∧ F 5 r = upd (upd (F 55) (130 + j) y) (142 + j) 1 (139 + r) ∧ upd (F 6) j 1 r = upd (upd (F 55) (130 + j) y) (142 + j) 1 (142 + r) ∧ F 3 r = upd (upd (F 55) (130 + j) y) (142 + j) 1 (145 + r)) ∧ (0 ≤ upd (upd (F 55) (130 + j) y) (142 + j) 1 (130 + r) ∧ upd (upd (F 55) (130 + j) y) (142 + j) 1 (130 + r) ≤ upd (upd (F 55) (130 + j) y) (142 + j) 1 (133 + r)) ∧ (0 ≤ upd (upd (F 55) (130 + j) y) (142 + j) 1 (133 + r) ∧ upd (upd (F 55) (130 + j) y) (142 + j) 1 (133 + r) ≤ 9) ∧ (0 ≤ upd (upd (F 55) (130 + j) y) (142 + j) 1 (139 + r) ∧ upd (upd (F 55) (130 + j) y) (142 + j) 1 (139 + r) ≤ 3) ∧ (upd (upd (F 55) (130 + j) y) (142 + j) 1 (145 + r) = -1 ∨ ∃ c, c < C' ∧ upd (upd (F 55) (130 + j) y) (142 + j) 1 (145 + r) = nI c)
        rw [g (133 + r) (by omega) (by omega), g (136 + r) (by omega) (by omega), g (139 + r) (by omega) (by omega), g (145 + r) (by omega) (by omega)]
        by_cases cr : r = j
        · subst cr
          rw [pk_us, pk_us, pk_us, pk_un (show 130 + r ≠ 142 + r by omega), pk_us]
          exact ⟨⟨rfl, s2, s3, s4, rfl, s6⟩, ⟨z, z2⟩, s8, s9, s10⟩
        · rw [pk_un cr, pk_un cr, g (130 + r) (by omega) (by omega), g (142 + r) (by omega) (by omega)]
          exact ⟨⟨s1, s2, s3, s4, s5, s6⟩, s7, s8, s9, s10⟩
