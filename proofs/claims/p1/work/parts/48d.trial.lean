/-! ===== by hand: hours that go by ===== -/
theorem C_goesBy (ρ : RV) (σ : St) (a : Int32) {asleep silent : Int32} {bk pl pb pw : Fn} {cards : Nat → Option Nat} {ce : Nat → CT} {cin : Nat → Prop} {Q : Int32 → Int32 → Int32 → Int32 → Int32 → Int32 → Int32 → Fn → Fn → Fn → Fn → Fn → Fn → Fn → Prop}
    (hR : okR ρ) (hS : okS ρ σ 1000) (hU : silent = 0 ↔ rU ρ = false) (h1 : ∀ r, r < rR ρ → bk r = rB ρ r) (h2 : ∀ r, r < rR ρ → pl r = sL σ r) (h3 : ∀ r, r < rR ρ → pb r = sB σ r) (h4 : ∀ r, r < rR ρ → pw r = sW σ r) (hC : CKr ρ asleep cards ce cin)
    (hQ : ∀ nh s1 s2 s3 s4 (sb sl nb np sw nl nw : Fn), (∀ r, r < rR ρ → sl r = sL (hGo ρ σ a) r) → (∀ r, r < rR ρ → sb r = sB (hGo ρ σ a) r) → (∀ r, r < rR ρ → sw r = sW (hGo ρ σ a) r) → Q (hOv ρ σ a (rR ρ)) (nI (sH (hGo ρ σ a))) nh s1 s2 s3 s4 sb sl nb np sw nl nw) (nh sl sh sw sb : Int32) (nb np nl nw : Fn) : WX7_goesBy a asleep silent (nI (sH σ)) nh sl sh sw sb (nI (rR ρ)) pb cards pl nb np pw bk nl nw ce cin Q := by
  have hR3 := hR.2.1
  unfold WX7_goesBy
  refine C_setBoards ρ σ hR hS hU h1 h2 h3 h4 hC (fun s1 s2 s3 s4 b p hb hp => ?_) _ _ _ _ _ _ _
  refine C_letFall ρ σ a hR3 hp h1 h2 (fun l w hl hw => ?_) _ _
  unfold WX8_becomes
  refine C_copy 3 (by decide) fun l' g1 _ => C_copy 3 (by decide) fun b' g2 _ => C_copy 3 (by decide) fun w' g3 _ => ?_
  exact hQ _ _ _ _ _ _ _ _ _ _ _ _ (fun r hr => (g1 r (by omega)).trans (hl r hr)) (fun r hr => (g2 r (by omega)).trans (hb r hr)) (fun r hr => (g3 r (by omega)).trans (hw r hr))
theorem hDr_bits (ρ : RV) (σ : St) (a : Int32) : ∀ r, r ≤ 3 → ∃ j, j < 2 ^ r ∧ hDr ρ σ a r = nI j := by
  intro r
  induction r with
  | zero => intro _; exact ⟨0, by decide, rfl⟩
  | succ r ih =>
    intro hr
    obtain ⟨j, hj, i2⟩ := ih (by omega)
    have e : (2 : Nat) ^ (r + 1) = 2 * 2 ^ r := by rw [Nat.pow_succ]; omega
    unfold hDr
    by_cases c : hLv ρ σ a r < rM ρ r
    · rw [if_pos c, i2, orBit r (by omega) j hj]; exact ⟨_, by omega, rfl⟩
    · rw [if_neg c]; exact ⟨j, by omega, i2⟩
theorem C_dry (ρ : RV) (σ : St) (a : Int32) {lv ml : Fn} {Q : Int32 → Prop} (hR : rR ρ ≤ 3) (h1 : ∀ r, r < rR ρ → lv r = hLv ρ σ a r) (h2 : ∀ r, r < rR ρ → ml r = rM ρ r) (hQ : Q (hDr ρ σ a (rR ρ))) : WX7_dryMills (nI (rR ρ)) lv ml Q := by
  suffices g : ∀ (n r : Nat), r ≤ rR ρ → rR ρ < n + r → WX7_dryMills_4 (nI (rR ρ)) lv ml Q n (hDr ρ σ a r) (nI r) from ⟨4, g 4 0 (by omega) (by omega)⟩
  intro n
  induction n with
  | zero => intro r h1 h2; omega
  | succ n ih =>
    intro r hr hn
    unfold WX7_dryMills_4
    by_cases c : rR ρ ≤ r
    · have e : r = rR ρ := by omega
      subst e
      exact br_t (nI_le c (by omega)) hQ
    · have e1 := h1 r (by omega)
      have e2 := h2 r (by omega)
      have v3 : vp_in (nI r) 3 := vp_in_nI (by omega) (by decide)
      refine br_f (nI_ge (by omega) (by omega)) (br_f (nI_ge (b := 3) (by omega) (by decide)) ⟨v3, v3, ?_⟩)
      rw [nI_clamp (by omega), e1, e2]
      have f : ∀ y, y = hDr ρ σ a (r + 1) → WX7_dryMills_44 (nI (rR ρ)) lv ml y (nI r) Q (WX7_dryMills_4 (nI (rR ρ)) lv ml Q n) := by
        rintro _ rfl
        unfold WX7_dryMills_44
        rintro _ rfl
        rw [nI_1]
        exact ih (r + 1) (by omega) (by omega)
      refine br_c (fun c1 => f _ ?_) (fun c1 => ?_)
      · rw [hDr, if_neg (by grind)]
      · rintro _ rfl
        exact f _ (by rw [hDr, if_pos (by grind)])
def low (j : Nat) : Nat := if j % 2 = 1 then 0 else if j / 2 % 2 = 1 then 1 else 2
theorem C_low {j : Nat} (hj : j < 8) (h0 : j ≠ 0) {Q : Int32 → Prop} (h : Q (nI (low j))) : WX10_lowestOf (nI j) Q := by
  refine ⟨4, ?_⟩
  unfold WX10_lowestOf_2
  refine br_f (by decide) ?_
  by_cases c1 : j % 2 = 1
  · have e : low j = 0 := by unfold low; rw [if_pos c1]
    rw [e] at h
    refine br_t ?_ h
    have := bit_k j hj 0 (by decide)
    rw [Nat.pow_zero, Nat.div_one, c1] at this
    exact this
  refine br_f (fun z => ?_) ?_
  · have := bit_k j hj 0 (by decide)
    rw [Nat.pow_zero, Nat.div_one, show j % 2 = 0 by omega] at this
    rw [show ((nI j >>> ((0 : Int32) &&& 31)) &&& 1) = nI 0 from this] at z
    exact absurd z (by decide)
  rintro _ rfl
  unfold WX10_lowestOf_2
  refine br_f (by decide) ?_
  by_cases c2 : j / 2 % 2 = 1
  · have e : low j = 1 := by unfold low; rw [if_neg c1, if_pos c2]
    rw [e] at h
    refine br_t ?_ h
    have := bit_k j hj 1 (by decide)
    rw [Nat.pow_one, c2] at this
    exact this
  refine br_f (fun z => ?_) ?_
  · have := bit_k j hj 1 (by decide)
    rw [Nat.pow_one, show j / 2 % 2 = 0 by omega] at this
    rw [show ((nI j >>> (((0 : Int32) + 1) &&& 31)) &&& 1) = nI 0 from this] at z
    exact absurd z (by decide)
  rintro _ rfl
  unfold WX10_lowestOf_2
  refine br_f (by decide) ?_
  have e : low j = 2 := by unfold low; rw [if_neg c1, if_neg c2]
  rw [e] at h
  refine br_t ?_ h
  have := bit_k j hj 2 (by decide)
  rw [show j / 2 ^ 2 % 2 = 1 by omega] at this
  exact this
theorem M_least {j : Nat} (hj : j < 8) {Q : Int32 → Prop} (h : Q (nI (low j))) : WX11_least (nI j) Q := by
  unfold WX11_least
  have t : ∀ j, j < 8 → ((nI j &&& 1 = 1) ↔ j % 2 = 1) ∧ ((nI j &&& 2 = 2) ↔ j / 2 % 2 = 1) := by decide
  obtain ⟨t1, t2⟩ := t j hj
  unfold low at h
  refine br_c (fun c => ?_) (fun c => br_c (fun c2 => ?_) (fun c2 => ?_))
  · rw [if_pos (t1.mp c)] at h; exact h
  · rw [if_neg (fun z => c (t1.mpr z)), if_pos (t2.mp c2)] at h; exact h
  · rw [if_neg (fun z => c (t1.mpr z)), if_neg (fun z => c2 (t2.mpr z))] at h; exact h
set_option maxHeartbeats 4000000 in
theorem S_c9 {L : Nat} {xs : Fn} {x3 : Int32} {I F G ce cin} {K : KT} (hi : INV I F G ce cin) (v1 : vp_in (x3 + 1) L) (hK : ∀ I F G ce cin, INV I F G ce cin → K I F G ce cin) : WL_c9 L xs x3 I F G ce cin K := by
  obtain ⟨R, P, S, O, H, C, N, V, ad, ⟨q1, q2, q3, q4, q5, q6, q7⟩, ⟨p1, p2, p3, p4, p5, p6, p7⟩, ⟨b1, b2, b3, b4, b5, b6, b7, b8⟩, hR, hZ, hN, hV, hH⟩ := NOW hi.1
  obtain ⟨m1, m2, m3, m4⟩ := hi.2.2.1
  unfold WL_c9 WX10_hour
  generalize xs (x3 + 1).toNatClampNeg = x
  have eI8 : va_up I 8 (nI H) = va_up I 8 (I 8) := by rw [q5]
  rw [q1, q2, q3, q6]
  refine ⟨v1, ?_⟩
  by_cases d1 : x < 0
  · refine br_t d1 ⟨v1, ?_⟩
    unfold WX11_hour WX11_in
    exact br_t d1 (br_t rfl (same_K rfl (hK _ _ _ _ _ hi)))
  refine br_f d1 ?_
  by_cases d2 : x ≤ 7
  · obtain ⟨a, ha7, ea⟩ := nI_of2 (x := x) (M := 7) (n := 7) rfl d1 d2
    refine br_t d2 (C_isRiver b1 (fun z => br_t rfl ⟨v1, ?_⟩) (fun z => br_f (by decide) ?_))
    · unfold WX11_hour WX11_in
      exact br_f d1 (br_f (by grind) (br_f (by decide) (M_isRiver p1 b1 (fun _ => br_t rfl (same_K rfl (hK _ _ _ _ _ hi))) (fun z2 => absurd z2 (by omega)))))
    · rw [q5]
      by_cases d3 : H < 99
      · refine br_t (nI_lt (b := 99) d3 (by decide)) ?_
        have hok : okR (rvM (F 55) R 0 0 false (fun r => F 55 (145 + r)) V) := rvM_ok z b1 b7 (fun r hr => (hR r hr).2.2.1) (by decide) hH
        have hσ : okS (rvM (F 55) R 0 0 false (fun r => F 55 (145 + r)) V) (stM (F 55) H) 900 := stM_ok rfl b6 hR
        refine C_begin b1 b7 (fun r hr => ?_) (fun c hc => ⟨ad c, (hV c hc).1, (hV c hc).2.1⟩) (fun tb tm th tl to tw sl sb sw tc g1 g2 g3 g4 => ?_) _ _ _ _ _ _ _ _ _ _ _ _ _ _ _ _ _ _
        · rw [(hR r hr).1.2.2.2.2.2]; exact (hR r hr).2.2.2.2
        refine C_goesBy (rvM (F 55) R 0 0 false (fun r => F 55 (145 + r)) V) (stM (F 55) H) x hok (okS_mono hσ (by decide)) ⟨fun _ => rfl, fun _ => rfl⟩ (fun r hr => ?_) (fun r hr => ?_) (fun r hr => ?_) (fun r hr => ?_) (CKr_of b1 b7 hH (fun r hr => ?_)) (fun nh s1 s2 s3 s4 sb' sl' nb np sw' nl nw hl hb hw => ?_) _ _ _ _ _ _ _ _ _
        · replace hr : r < R := hr
          rw [(g1 r (by omega)).1, (hR r hr).1.2.1, rB_0 (hR r hr).2.2.1.2]
        · replace hr : r < R := hr
          exact (g2 r (by omega)).1.trans (hR r hr).1.1
        · replace hr : r < R := hr
          exact (g2 r (by omega)).2.1.trans (hR r hr).1.2.2.2.1
        · replace hr : r < R := hr
          exact (g2 r (by omega)).2.2.trans (hR r hr).1.2.2.2.2.1
        · obtain ⟨k1, k2⟩ := g3 r hr
          have e := (hR r hr).1.2.2.2.2.2
          exact ⟨fun h => k1 (e.trans h), fun c hc h => ⟨ad c, (k2 c hc (e.trans h)).trans (hV c hc).1, (hV c hc).2.1, (hV c hc).2.2.2.2.2.1⟩⟩
        unfold WX8_becomes
        refine C_copy 3 (by decide) fun nl' f1 _ => C_copy 3 (by decide) fun nb' f2 _ => C_copy 3 (by decide) fun nw' f3 _ => ⟨v1, ?_⟩
        have hM : MWr (rvM (F 55) R 0 0 false (fun r => F 55 (145 + r)) V) (F 55) 0 (-1) (I 69) 0 0 := MWr_of p1 b1 b7 ⟨fun _ => rfl, fun _ => rfl⟩ hH (fun c hc => ⟨(hV c hc).2.2.1, left0 (by omega) (hV c hc).2.2.2.2.1⟩)
        have hgo := okS_go hok hσ x
        have hHs : sH (stM (F 55) H) = H := rfl
        unfold WX11_hour WX11_in
        rw [m1, m2, m3, m4]
        refine br_f d1 (br_f (by grind) (br_f (by decide) (M_isRiver p1 b1 (fun z2 => absurd z2 (by omega)) (fun _ => br_f (by decide) ?_))))
        rw [show F 55 (4 : Int32).toNatClampNeg = nI H from p5]
        refine br_f (fun e => by have := (nI_eq (a := H) (b := 99) (by omega) (by decide)).mp e; omega) (M_takes (stM_MS p5) (fun l bo wy kl kb kw => ?_) _ _ _ _)
        refine M_hourGoes (a := x) hM hok (by show H < 1000; omega) (fun r hr => kl r (Nat.lt_of_lt_of_le hr b1)) (fun r hr => kb r (Nat.lt_of_lt_of_le hr b1)) (fun r hr => kw r (Nat.lt_of_lt_of_le hr b1)) (fun nx wy' lv' bo' tr' c1 c2 c3 c4 => ?_) _ _ _ _
        suffices g : ∀ (n i : Nat) (s' : Fn), i ≤ 3 → 3 < n + i → (∀ r, r < i → s' (130 + r) = lv' r ∧ s' (139 + r) = bo' r ∧ s' (142 + r) = wy' r) → (∀ k, ¬ (130 ≤ k ∧ k < 133) → ¬ (139 ≤ k ∧ k < 145) → s' k = F 55 k) → WX11_hour_45 0 (-1) (I 69) 0 0 _ n (nI i) _ _ _ s' lv' bo' wy' nx tr' from ⟨4, g 4 0 (F 55) (by decide) (by decide) (fun r h => absurd h (Nat.not_lt_zero r)) (fun k _ _ => rfl)⟩
        intro n
        induction n with
        | zero => intro i s' h1 h2; omega
        | succ n ih =>
          intro i s' h1 h2 hs hf
          unfold WX11_hour_45
          by_cases c3' : 3 ≤ i
          · have e3 : i = 3 := by omega
            subst e3
            refine br_t (nI_le (a := 3) c3' (by decide)) ?_
            unfold WX11_hour_104
            rw [show s' (4 : Int32).toNatClampNeg = nI H from (hf 4 (by omega) (by omega)).trans p5, show (4 : Int32).toNatClampNeg = 4 from rfl, nI_1]
            rintro _ rfl
            refine same_K rfl (hK _ _ _ _ _ ⟨?_, hi.2⟩)
            have hf4 : ∀ k, k ≠ 4 → upd s' 4 (nI (H + 1)) k = s' k := fun k hk => pk_un hk
            have w' := hi.1
            refine WR_water (s' := upd s' 4 (nI (H + 1))) w' (fun k h4 h5 h6 => (hf4 k h4).trans (hf k h5 (by omega))) ⟨H + 1, by omega, rfl, pk_us⟩ (fun R' e1 e2 q e3 e4 => ?_) (fun R' C' e1 e2 e3 e4 r hr => ?_)
            · have : R' = R := nI_inj (by omega) (by omega) (e1.symm.trans q1)
              subst this
              rw [hf4 _ (by omega), (hs q e4).1, c4 q e3, kl q e4]
              exact hZ q e3 e4
            · have : R' = R := nI_inj (by omega) (by omega) (e1.symm.trans q1)
              subst this
              have : C' = C := nI_inj (by omega) (by omega) (e3.symm.trans q6)
              subst this
              obtain ⟨⟨t1, t2, t3, t4, t5, t6⟩, -, u2, -, u4⟩ := hR r hr
              obtain ⟨w1, w2, w3⟩ := hs r (by omega)
              have o1 := (hgo.2 r hr)
              have hb9 := (hok.2.2 r hr).1
              rw [hf4 (130 + r) (by omega), hf4 (133 + r) (by omega), hf4 (136 + r) (by omega), hf4 (139 + r) (by omega), hf4 (142 + r) (by omega), hf4 (145 + r) (by omega), w1, w2, w3, hf (133 + r) (by omega) (by omega), hf (136 + r) (by omega) (by omega), hf (145 + r) (by omega) (by omega), c1 r hr, c2 r hr, c3 r hr]
              refine ⟨⟨(f1 r (by omega)).trans (hl r hr), t2, t3, (f2 r (by omega)).trans (hb r hr), (f3 r (by omega)).trans (hw r hr), t6⟩, ⟨o1.1.1, ?_⟩, u2, o1.2, u4⟩
              have : hLv (rvM (F 55) R' 0 0 false (fun r => F 55 (145 + r)) V) (stM (F 55) H) x r ≤ rB (rvM (F 55) R' 0 0 false (fun r => F 55 (145 + r)) V) r := by
                unfold hLv
                split
                · assumption
                · exact Int32.le_refl _
              rw [rB_0 u2.2] at this
              exact this
          · refine br_f (nI_ge (b := 3) (by omega) (by decide)) ?_
            have v3 : vp_in (nI i) 3 := vp_in_nI (by omega) (by decide)
            rw [show (130 : Int32) + nI i = nI (130 + i) by rw [← nI_add]; rfl, show (139 : Int32) + nI i = nI (139 + i) by rw [← nI_add]; rfl, show (142 : Int32) + nI i = nI (142 + i) by rw [← nI_add]; rfl, nI_clamp (by omega), nI_clamp (by omega), nI_clamp (by omega), nI_clamp (by omega), nI_1]
            refine ⟨v3, ?_⟩
            rintro _ rfl
            refine ⟨vp_in_nI (by omega) (by decide), v3, ?_⟩
            rintro _ rfl
            refine ⟨vp_in_nI (by omega) (by decide), v3, ?_⟩
            rintro _ rfl
            refine ⟨vp_in_nI (by omega) (by decide), ?_⟩
            rintro _ rfl
            refine ih (i + 1) _ (by omega) (by omega) (fun r hr => ?_) (fun k k1 k2 => ?_)
            · by_cases cr : r = i
              · subst cr
                refine ⟨?_, ?_, ?_⟩
                · rw [pk_un (by omega), pk_un (by omega), pk_us]
                · rw [pk_un (by omega), pk_us]
                · rw [pk_us]
              · rw [pk_un (by omega), pk_un (by omega), pk_un (by omega), pk_un (by omega), pk_un (by omega), pk_un (by omega), pk_un (by omega), pk_un (by omega), pk_un (by omega)]
                exact hs r (by omega)
            · rw [pk_un (by omega), pk_un (by omega), pk_un (by omega)]; exact hf k k1 k2
      · refine br_f (nI_nlt (b := 99) (by omega) (by omega)) ⟨v1, ?_⟩
        have e99 : H = 99 := by omega
        unfold WX11_hour WX11_in
        refine br_f d1 (br_f (by grind) (br_f (by decide) (M_isRiver p1 b1 (fun z2 => absurd z2 (by omega)) (fun _ => br_f (by decide) ?_))))
        rw [show F 55 (4 : Int32).toNatClampNeg = nI H from p5]
        refine br_t (by rw [e99]; rfl) (same_K rfl (hK _ _ _ _ _ ⟨?_, hi.2⟩))
        have := hi.1
        rw [q5] at this
        exact this
  · refine br_f d2 ⟨v1, ?_⟩
    unfold WX11_hour WX11_in
    exact br_f d1 (br_t (by grind) (br_t rfl (same_K rfl (hK _ _ _ _ _ hi))))
