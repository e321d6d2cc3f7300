/-! ===== by hand: calls that change little ===== -/
theorem picM_frame {s s' : Fn} {c : Nat} {v : CV} (hc : c < 8) (hv : okV v) (h : ∀ k, 158 ≤ k → k < 1454 → s' k = s k) (hp : picM s c v) : picM s' c v := by
  obtain ⟨h1, h2, h3, h4⟩ := hp
  have h6 := hv.1.2
  refine ⟨(h _ (by omega) (by omega)).trans h1, (h _ (by omega) (by omega)).trans h2, (h _ (by omega) (by omega)).trans h3, fun j hj => ?_⟩
  obtain ⟨a1, a2, a3, a4⟩ := h4 j hj
  have b := (hv.2.2.2 j hj).2.1
  exact ⟨(h _ (by omega) (by omega)).trans a1, (h _ (by omega) (by omega)).trans a2, (h _ (by omega) (by omega)).trans a3, fun k k1 k2 => (h _ (by omega) (by omega)).trans (a4 k k1 k2)⟩
theorem okC_frame {s s' : Fn} {C : Nat} {cards ce cin} (hC8 : C ≤ 8) (h : ∀ k, 158 ≤ k → k < 1454 → s' k = s k) (hc : okC s C cards ce cin) : okC s' C cards ce cin := by
  refine ⟨fun c hC => ?_, hc.2⟩
  obtain ⟨a, v, a1, a2, a3, a4, a5⟩ := hc.1 c hC
  exact ⟨a, v, a1, a2, picM_frame (by omega) a4 h a3, a4, a5⟩
theorem S_c5 {L : Nat} {xs : Fn} {x3 : Int32} {I F G ce cin} {K : KT} (hi : INV I F G ce cin) (v1 : vp_in (x3 + 1) L) (v2 : vp_in (x3 + 2) L) (hK : INV I F G ce cin → K I F G ce cin) : WL_c5 L xs x3 I F G ce cin K := by
  obtain ⟨⟨R, P, S, O, H, C, N, B, ⟨e1, e2⟩, bd, -, hR, -⟩, -⟩ := id hi
  have hk := hK hi
  unfold WL_c5 WX10_of
  generalize xs (x3 + 1).toNatClampNeg = x
  generalize xs (x3 + 2).toNatClampNeg = y
  refine ⟨v1, v2, ?_⟩
  rw [e1.1]
  refine C_isReach bd.1 (fun c => br_t rfl ⟨v1, v2, ?_⟩) (fun j hj e => br_f (by decide) ?_)
  · unfold WX11_of
    exact M_isReach e2.1 bd.1 (fun _ => br_t rfl (same_K rfl hk)) (fun j hj e => (no_reach (by omega) hj e c).elim)
  · subst e
    obtain ⟨⟨r1, r2, r3, r4, r5, r6⟩, -⟩ := hR j hj
    have m : ∀ r : Int32, (∀ i : Nat, i < 5 → y = nI i → r = F 55 (130 + 3 * i + j)) → ((∀ i : Nat, i < 5 → y ≠ nI i) → r = -1) → WX11_of (nI j) y (F 55) (fun r6 => ((r = r6 → K I F G ce cin) ∧ (¬ (r = r6) → False))) := by
      intro r hr0 hr1
      unfold WX11_of
      refine M_isReach e2.1 bd.1 (fun c => (no_reach (by omega) hj rfl c).elim) (fun j' hj' e => br_f (by decide) ?_)
      have := M_in0 (x := y) (R := 5) (y := 5) (by decide) rfl (Q := fun r3 => ((r3 = 0 → ((r = -1 → K I F G ce cin) ∧ (¬ (r = -1) → False))) ∧ (¬ (r3 = 0) → vp_in ((130 + (3 * y)) + nI j) 1454 ∧ ((r = (F 55 ((130 + (3 * y)) + nI j).toNatClampNeg) → K I F G ce cin) ∧ (¬ (r = (F 55 ((130 + (3 * y)) + nI j).toNatClampNeg)) → False))))) (fun c => br_t rfl (same_K (hr1 (fun i hi e => no_reach (by decide) hi e c)) hk)) (fun i hi e => br_f (by decide) ?_)
      · exact this
      · subst e
        have b1 : 130 + 3 * i + j < 1454 := by omega
        rw [show (130 : Int32) + 3 * nI i + nI j = nI (130 + 3 * i + j) by rw [← nI_add, ← nI_add, ← pk_mul]; rfl, nI_clamp (by omega)]
        exact ⟨vp_in_nI b1 (by decide), same_K (hr0 i hi rfl) hk⟩
    have nn : ∀ i : Nat, i < 5 → ∀ k : Nat, k < 5 → nI i = nI k → i = k := fun i hi k hk h => (nI_eq (by omega) (by omega)).mp h
    have vj : vp_in (nI j) 3 := vp_in_nI (by omega) (by decide)
    rw [nI_clamp (by omega)]
    refine br_c (fun c1 => ⟨vj, v1, v2, m _ (fun i hi e => ?_) (fun h => absurd c1 (h 0 (by decide)))⟩) (fun c1 => br_c (fun c2 => ⟨vj, v1, v2, m _ (fun i hi e => ?_) (fun h => absurd c2 (h 1 (by decide)))⟩) (fun c2 => br_c (fun c3 => ⟨vj, v1, v2, m _ (fun i hi e => ?_) (fun h => absurd c3 (h 2 (by decide)))⟩) (fun c3 => br_c (fun c4 => ⟨vj, v1, v2, m _ (fun i hi e => ?_) (fun h => absurd c4 (h 3 (by decide)))⟩) (fun c4 => br_c (fun c5 => ⟨vj, v1, v2, m _ (fun i hi e => ?_) (fun h => absurd c5 (h 4 (by decide)))⟩) (fun c5 => ⟨v1, v2, m _ (fun i hi e => ?_) (fun _ => rfl)⟩)))))
    · have := nn i hi 0 (by decide) (e.symm.trans c1); subst this; rw [r1]
    · have := nn i hi 1 (by decide) (e.symm.trans c2); subst this; rw [r2]
    · have := nn i hi 2 (by decide) (e.symm.trans c3); subst this; rw [r3]
    · have := nn i hi 3 (by decide) (e.symm.trans c4); subst this; rw [r4]
    · have := nn i hi 4 (by decide) (e.symm.trans c5); subst this; rw [r5]
    · rcases (show i = 0 ∨ i = 1 ∨ i = 2 ∨ i = 3 ∨ i = 4 by omega) with rfl | rfl | rfl | rfl | rfl
      · exact absurd e c1
      · exact absurd e c2
      · exact absurd e c3
      · exact absurd e c4
      · exact absurd e c5
theorem S_c22 {L : Nat} {xs : Fn} {x3 : Int32} {I F G ce cin} {K : KT} (hi : INV I F G ce cin) (v1 : vp_in (x3 + 1) L) (hK : INV I F G ce cin → K I F G ce cin) : WL_c22 L xs x3 I F G ce cin K := by
  obtain ⟨-, -, -, n, hn, e3, e4, hk7⟩ := id hi
  have hk := hK hi
  unfold WL_c22 WX10_trace WX11_trace
  generalize xs (x3 + 1).toNatClampNeg = x
  rw [e3, e4]
  refine ⟨v1, ?_⟩
  have m : ∀ (r : Int32) (m : Nat), m = (if 20 ≤ n then 20 else n) → (∀ j, j < m → x = nI j → r = F 67 j) → ((x < 0 ∨ nI m ≤ x) → r = -1) → ((20 ≤ nI n → WX11_trace_20 x (nI n) (F 67) x 0 20 (fun r4 => ((r = r4 → K I F G ce cin) ∧ (¬ (r = r4) → False)))) ∧ (¬ (20 ≤ nI n) → WX11_trace_20 x (nI n) (F 67) x 0 (nI n) (fun r4 => ((r = r4 → K I F G ce cin) ∧ (¬ (r = r4) → False))))) := by
    intro r m hm h1 h2
    have g : ∀ y, y = nI m → WX11_trace_20 x (nI n) (F 67) x 0 y (fun r4 => ((r = r4 → K I F G ce cin) ∧ (¬ (r = r4) → False))) := by
      rintro _ rfl
      unfold WX11_trace_20
      have m20 : m ≤ 20 := by rw [hm]; split <;> omega
      refine M_in0 (R := m) (by omega) rfl (fun c => br_t rfl (same_K (h2 c) hk)) (fun j hj e => br_f (by decide) ?_)
      subst e
      rw [nI_clamp (by omega)]
      exact ⟨vp_in_nI (by omega) (by decide), same_K (h1 j hj rfl) hk⟩
    by_cases c : 20 ≤ n
    · exact br_t (nI_le (a := 20) c (by omega)) (g 20 (by rw [hm, if_pos c]; rfl))
    · exact br_f (nI_ge (b := 20) (by omega) (by decide)) (g (nI n) (by rw [hm, if_neg c]))
  rcases lt_of_nI (x := x) (R := if 20 ≤ n then 20 else n) (by split <;> omega) with c | c | ⟨j, hj, e⟩
  · exact br_t c ⟨v1, m _ _ rfl (fun j hj e => (no_reach (by split <;> omega) hj e (Or.inl c)).elim) (fun _ => rfl)⟩
  · have fin : vp_in (x3 + 1) L ∧ _ := ⟨v1, m (-1) _ rfl (fun j hj e => (no_reach (by split <;> omega) hj e (Or.inr c)).elim) (fun _ => rfl)⟩
    refine br_c (fun _ => fin) (fun c0 => br_c (fun _ => fin) (fun c1 => ?_))
    by_cases c2 : 20 ≤ n
    · rw [if_pos c2] at c
      refine br_f (fun z => ?_) fin
      replace c : (20 : Int32) ≤ x := c
      grind
    · rw [if_neg c2] at c
      exact absurd c c1
  · subst e
    have hj20 : j < 20 ∧ j < n := by split at hj <;> omega
    refine br_f (nI_pos (by omega)) (br_f (nI_ge hj20.2 (by omega)) (br_t (nI_lt (b := 20) hj20.1 (by decide)) ⟨vp_in_nI hj20.1 (by decide), v1, ?_⟩))
    rw [nI_clamp (by omega)]
    exact m _ _ rfl (fun j' hj' e => (by have := (nI_eq (by omega) (by split at hj' <;> omega)).mp e; subst this; exact hk7 _ hj20.2 hj20.1)) (fun z => (no_reach (by split <;> omega) hj rfl z).elim)
theorem M_rain {x : Int32} {s : Fn} {N : Nat} (hs : s 6 = nI N) (hN : N ≤ 10) {Q : Int32 → Fn → Prop} (h1 : x = -1 → Q 0 (upd s 6 0)) (h2 : (x < -1 ∨ 7 < x) → Q (-2) s) (h3 : ∀ j, j < 8 → x = nI j → N = 10 → Q (-4) s) (h4 : ∀ j, j < 8 → x = nI j → N < 10 → Q (nI (N + 1)) (upd (upd s (148 + N) (nI j)) 6 (nI (N + 1)))) : WX11_rain x s Q := by
  unfold WX11_rain
  rw [show s (6 : Int32).toNatClampNeg = nI N from hs]
  refine br_c h1 (fun c => ?_)
  have := M_in0 (x := x) (R := 8) (y := 8) (by decide) rfl (Q := fun r2 => ((r2 = 0 → Q (-2) s) ∧ (¬ (r2 = 0) → ((nI N = 10 → Q (-4) s) ∧ (¬ (nI N = 10) → vp_in (148 + nI N) 1454 ∧ ∀ y6 : Int32, y6 = (((upd s (148 + nI N).toNatClampNeg x) (6 : Int32).toNatClampNeg) + 1) → Q ((upd (upd s (148 + nI N).toNatClampNeg x) (6 : Int32).toNatClampNeg y6) (6 : Int32).toNatClampNeg) (upd (upd s (148 + nI N).toNatClampNeg x) (6 : Int32).toNatClampNeg y6)))))) (fun z => br_t rfl (h2 ?_)) (fun j hj e => br_f (by decide) ?_)
  · exact this
  · have e8 : nI 8 = 8 := rfl
    rw [e8] at z
    grind
  · subst e
    refine br_c (fun z => h3 j hj rfl ?_) (fun z => ?_)
    · exact (nI_eq (a := N) (b := 10) (by omega) (by decide)).mp z
    · have hN' : N < 10 := by
        rcases Nat.lt_or_ge N 10 with h | h
        · exact h
        · exact absurd (by rw [show N = 10 by omega]; rfl) z
      rw [show (148 : Int32) + nI N = nI (148 + N) by rw [← nI_add]; rfl, nI_clamp (by omega), show (6 : Int32).toNatClampNeg = 6 from rfl, pk_un (by omega), hs, nI_1]
      refine ⟨vp_in_nI (by omega) (by decide), ?_⟩
      rintro _ rfl
      rw [pk_us]
      exact h4 j hj rfl hN'
theorem C_rain {x : Int32} {f : Fn} {N : Nat} (hN : N ≤ 10) {Q : Int32 → Int32 → Fn → Prop} (h1 : x = -1 → Q 0 0 f) (h2 : (x < -1 ∨ 7 < x) → Q (-2) (nI N) f) (h3 : ∀ j, j < 8 → x = nI j → N = 10 → Q (-4) (nI N) f) (h4 : ∀ j, j < 8 → x = nI j → N < 10 → Q (nI (N + 1)) (nI (N + 1)) (upd f N (nI j))) : WX10_rain x (nI N) f Q := by
  unfold WX10_rain
  by_cases c1 : x < -1
  · exact br_t c1 (h2 (Or.inl c1))
  refine br_f c1 ?_
  by_cases c2 : x ≤ 7
  · refine br_t c2 (br_c h1 (fun c3 => ?_))
    obtain ⟨j, hj, e⟩ : ∃ j : Nat, j < 8 ∧ x = nI j := by
      obtain ⟨j, hj, e⟩ := nI_of2 (x := x) (M := 7) (n := 7) rfl (by grind) c2
      exact ⟨j, by omega, e⟩
    by_cases c4 : N < 10
    · refine br_t (nI_lt (b := 10) c4 (by decide)) ?_
      unfold WX9_putRain
      refine br_f (nI_pos (by omega)) (br_t (nI_lt (b := 10) c4 (by decide)) ⟨vp_in_nI c4 (by decide), ?_⟩)
      rintro _ rfl
      rw [nI_1, nI_clamp (by omega), e]
      exact h4 j hj e c4
    · exact br_f (nI_nlt (b := 10) (by omega) (by omega)) (h3 j hj e (by omega))
  · exact br_f c2 (h2 (Or.inr (by grind)))
theorem neg_reach {x : Int32} {j : Nat} (hj : j < 1000) (e : x = nI j) : ¬ x < 0 := by subst e; exact nI_pos (by omega)
theorem S_c10 {L : Nat} {xs : Fn} {x3 : Int32} {I F G ce cin} {K : KT} (hi : INV I F G ce cin) (v1 : vp_in (x3 + 1) L) (hK : ∀ I F G ce cin, INV I F G ce cin → K I F G ce cin) : WL_c10 L xs x3 I F G ce cin K := by
  obtain ⟨⟨R, P, S, O, H, C, N, B, ⟨e1, e2⟩, bd, hT, hR, hZ, hN, hC⟩, hrest⟩ := id hi
  have hN10 : N ≤ 10 := bd.2.2.2.2.2.2.2.1
  have hB := bd.2.2.2.2.2.2.2.2
  have hR3 := bd.1
  obtain ⟨q1, q2, q3, q4, q5, q6, q7, q8⟩ := e1
  obtain ⟨p1, p2, p3, p4, p5, p6, p7, p8⟩ := e2
  unfold WL_c10
  generalize xs (x3 + 1).toNatClampNeg = x
  rw [q7]
  have same : K (va_up I 3 (nI N)) (va_up (va_up F 8 (F 8)) 55 (F 55)) G ce cin := hK _ _ _ _ _ ⟨⟨R, P, S, O, H, C, N, B, ⟨⟨q1, q2, q3, q4, q5, q6, rfl, q8⟩, p1, p2, p3, p4, p5, p6, p7, p8⟩, bd, hT, hR, hZ, hN, hC⟩, hrest⟩
  -- a change of told rains
  have chg : ∀ (s' told : Fn) (N' : Nat), N' ≤ 10 → (∀ k, k ≠ 6 → ¬ (148 ≤ k ∧ k < 158) → s' k = F 55 k) → s' 6 = nI N' → okN s' told N' → K (va_up I 3 (nI N')) (va_up (va_up F 8 told) 55 s') G ce cin := by
    intro s' told N' hN' fr h6 hok
    refine hK _ _ _ _ _ ⟨⟨R, P, S, O, H, C, N', B, ⟨⟨q1, q2, q3, q4, q5, q6, rfl, q8⟩, (fr 0 (by decide) (by decide)).trans p1, (fr 1 (by decide) (by decide)).trans p2, (fr 2 (by decide) (by decide)).trans p3, (fr 3 (by decide) (by decide)).trans p4, (fr 4 (by decide) (by decide)).trans p5, (fr 5 (by decide) (by decide)).trans p6, h6, (fr 7 (by decide) (by decide)).trans p8⟩, ?_, fun k hk => ?_, fun r hr => ?_, fun r h1 h2 => ?_, hok, okC_frame bd.2.2.2.2.2.2.1 (fun k hk _ => fr k (by omega) (by omega)) hC⟩, hrest⟩
    · obtain ⟨b1, b2, b3, b4, b5, b6, b7, b8, b9⟩ := bd
      exact ⟨b1, b2, b3, b4, b5, b6, b7, hN', b9⟩
    · show F 0 k = s' (10 + k) ∧ ∃ b, b < 256 ∧ s' (10 + k) = nI b
      rw [fr _ (by omega) (by omega)]; exact hT k hk
    · show (F 4 r = s' (130 + r) ∧ F 1 r = s' (133 + r) ∧ F 2 r = s' (136 + r) ∧ F 5 r = s' (139 + r) ∧ F 6 r = s' (142 + r) ∧ F 3 r = s' (145 + r)) ∧ (0 ≤ s' (130 + r) ∧ s' (130 + r) ≤ s' (133 + r)) ∧ (0 ≤ s' (133 + r) ∧ s' (133 + r) ≤ 9) ∧ (0 ≤ s' (139 + r) ∧ s' (139 + r) ≤ 3) ∧ (s' (145 + r) = -1 ∨ ∃ c, c < C ∧ s' (145 + r) = nI c)
      rw [fr _ (by omega) (by omega), fr _ (by omega) (by omega), fr _ (by omega) (by omega), fr _ (by omega) (by omega), fr _ (by omega) (by omega), fr _ (by omega) (by omega)]
      exact hR r hr
    · show s' (130 + r) = 0
      rw [fr _ (by omega) (by omega)]; exact hZ r h1 h2
  have n1 : ∀ j : Nat, j < 8 → ¬ nI j = (-1 : Int32) := by intro j hj z; have := nI_pos (n := j) (by omega); grind
  have n2 : ∀ j : Nat, j < 8 → ¬ (nI j < (-1 : Int32) ∨ 7 < nI j) := by intro j hj z; have := nI_pos (n := j) (by omega); have := nI_le (a := j) (b := 7) (by omega) (by decide); have e : nI 7 = 7 := rfl; grind
  refine ⟨v1, C_rain hN10 (fun c => ⟨v1, ?_⟩) (fun c => ⟨v1, ?_⟩) (fun j hj e c => ⟨v1, ?_⟩) (fun j hj e c => ⟨v1, ?_⟩)⟩
  · refine M_rain p7 hN10 (fun _ => same_K rfl (chg (upd (F 55) 6 0) (F 8) 0 (by decide) (fun k h1 h2 => pk_un h1) pk_us (fun k h => absurd h (Nat.not_lt_zero k)))) (fun z => ?_) (fun j hj e => (n1 j hj (e.symm.trans c)).elim) (fun j hj e => (n1 j hj (e.symm.trans c)).elim)
    rw [c] at z; exact absurd z (by decide)
  · refine M_rain p7 hN10 (fun z => ?_) (fun _ => same_K rfl same) (fun j hj e => (n2 j hj (e ▸ c)).elim) (fun j hj e => (n2 j hj (e ▸ c)).elim)
    rw [z] at c; exact absurd c (by decide)
  · exact M_rain p7 hN10 (fun z => (n1 j hj (e.symm.trans z)).elim) (fun z => (n2 j hj (e ▸ z)).elim) (fun _ _ _ _ => same_K rfl same) (fun _ _ _ z => absurd z (by omega))
  · refine M_rain p7 hN10 (fun z => (n1 j hj (e.symm.trans z)).elim) (fun z => (n2 j hj (e ▸ z)).elim) (fun _ _ _ z => absurd z (by omega)) (fun j' hj' e' _ => same_K rfl ?_)
    have : j' = j := (nI_eq (by omega) (by omega)).mp (e'.symm.trans e)
    subst this
    refine chg _ _ (N + 1) (by omega) (fun k h1 h2 => by rw [pk_un h1, pk_un (by omega)]) pk_us (fun k hk => ?_)
    by_cases ck : k = N
    · subst ck
      rw [pk_us, pk_un (by omega), pk_us]; exact ⟨rfl, j', hj', rfl⟩
    · rw [pk_un ck, pk_un (by omega), pk_un (by omega)]; exact hN k (by omega)
