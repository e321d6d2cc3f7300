/-! ===== by hand: run ===== -/
/-- the state, the first bank gone over, the first mill dry, after k told hours -/
def ruS (ρ : RV) (σ : St) (td : Fn) : Nat → St
  | 0 => σ
  | k + 1 => hGo ρ (ruS ρ σ td k) (td k)
noncomputable def ruO (ρ : RV) (σ : St) (td : Fn) : Nat → Int32
  | 0 => -5
  | k + 1 => @ite Int32 (ruO ρ σ td k = -5 ∧ hOv ρ (ruS ρ σ td k) (td k) (rR ρ) ≠ 0) (Classical.propDecidable _) (nI (10 * k + low (hOv ρ (ruS ρ σ td k) (td k) (rR ρ)).toNatClampNeg)) (ruO ρ σ td k)
noncomputable def ruD (ρ : RV) (σ : St) (td : Fn) : Nat → Int32
  | 0 => -5
  | k + 1 => @ite Int32 (ruD ρ σ td k = -5 ∧ hDr ρ (ruS ρ σ td k) (td k) (rR ρ) ≠ 0) (Classical.propDecidable _) (nI (10 * k + low (hDr ρ (ruS ρ σ td k) (td k) (rR ρ)).toNatClampNeg)) (ruD ρ σ td k)
theorem ruS_ok {ρ : RV} {σ : St} {td : Fn} {N : Nat} (h1 : okR ρ) (h2 : okS ρ σ N) : ∀ k, okS ρ (ruS ρ σ td k) (N + k)
  | 0 => h2
  | k + 1 => okS_go h1 (ruS_ok h1 h2 k) _
theorem low_lt (j : Nat) : low j ≤ 2 := by unfold low; split; omega; split <;> omega
theorem C_sum {ρ : RV} {σ : St} {lv : Fn} {Q : Int32 → Prop} (hR : rR ρ ≤ 3) (h1 : ∀ r, r < rR ρ → lv r = sL σ r) (hQ : Q ((if 0 < rR ρ then sL σ 0 else 0) + (if 1 < rR ρ then sL σ 1 else 0) + (if 2 < rR ρ then sL σ 2 else 0))) : WX7_sumOfLevels (nI (rR ρ)) lv Q := by
  refine ⟨4, ?_⟩
  have stp : ∀ (n r : Nat) (acc : Int32), r < rR ρ → WX7_sumOfLevels_4 (nI (rR ρ)) lv Q n (acc + sL σ r) (nI (r + 1)) → WX7_sumOfLevels_4 (nI (rR ρ)) lv Q (n + 1) acc (nI r) := by
    intro n r acc hr h
    unfold WX7_sumOfLevels_4
    refine br_f (nI_ge hr (by omega)) (br_f (nI_ge (b := 3) (by omega) (by decide)) ⟨vp_in_nI (by omega) (by decide), ?_⟩)
    rw [nI_clamp (by omega), h1 r hr, nI_1]
    rintro _ rfl _ rfl
    exact h
  have fin : ∀ (n r : Nat) (acc : Int32), rR ρ ≤ r → r < 1000 → Q acc → WX7_sumOfLevels_4 (nI (rR ρ)) lv Q (n + 1) acc (nI r) := by
    intro n r acc hr hr2 h
    unfold WX7_sumOfLevels_4
    exact br_t (nI_le hr (by omega)) h
  by_cases c0 : 0 < rR ρ
  · rw [if_pos c0] at hQ
    refine stp 3 0 0 c0 ?_
    by_cases c1 : 1 < rR ρ
    · rw [if_pos c1] at hQ
      refine stp 2 1 _ c1 ?_
      by_cases c2 : 2 < rR ρ
      · rw [if_pos c2] at hQ
        refine stp 1 2 _ c2 (fin 0 3 _ (by omega) (by decide) ?_)
        rw [Int32.zero_add]; exact hQ
      · rw [if_neg c2] at hQ
        refine fin 1 2 _ (by omega) (by decide) ?_
        rw [Int32.zero_add]; rw [Int32.add_zero] at hQ; exact hQ
    · rw [if_neg c1, if_neg (by omega)] at hQ
      refine fin 2 1 _ (by omega) (by decide) ?_
      rw [Int32.zero_add]; rw [Int32.add_zero, Int32.add_zero] at hQ; exact hQ
  · rw [if_neg c0, if_neg (by omega), if_neg (by omega)] at hQ
    exact fin 3 0 _ (by omega) (by decide) hQ
set_option maxHeartbeats 4000000 in
theorem S_c11 {L : Nat} {xs : Fn} {x3 : Int32} {I F G ce cin} {K : KT} (hi : INV I F G ce cin) (v1 : vp_in (x3 + 1) L) (hK : ∀ I F G ce cin, INV I F G ce cin → K I F G ce cin) : WL_c11 L xs x3 I F G ce cin K := by
  obtain ⟨R, P, S, O, H, C, N, V, ad, ⟨q1, q2, q3, q4, q5, q6, q7⟩, ⟨p1, p2, p3, p4, p5, p6, p7⟩, ⟨b1, b2, b3, b4, b5, b6, b7, b8⟩, hR, hZ, hN, hV, hH⟩ := NOW hi.1
  obtain ⟨m1, m2, m3, m4⟩ := hi.2.2.1
  unfold WL_c11 WX10_run
  generalize xs (x3 + 1).toNatClampNeg = x
  rw [q1, q2, q3, q5, q6, q7]
  refine ⟨v1, ?_⟩
  by_cases d1 : x < 0
  · refine br_t d1 ⟨v1, ?_⟩
    unfold WX11_run WX11_in
    exact br_t d1 (br_t rfl (same_K rfl (hK _ _ _ _ _ hi)))
  refine br_f d1 ?_
  by_cases d2 : x ≤ 2
  · refine br_t d2 (C_isRiver b1 (fun z => br_t rfl ⟨v1, ?_⟩) (fun z => br_f (by decide) ?_))
    · unfold WX11_run WX11_in
      exact br_f d1 (br_f (by grind) (br_f (by decide) (M_isRiver p1 b1 (fun _ => br_t rfl (same_K rfl (hK _ _ _ _ _ hi))) (fun z2 => absurd z2 (by omega)))))
    · have hok : okR (rvM (F 55) R 0 0 false (fun r => F 55 (145 + r)) V) := rvM_ok z b1 b7 (fun r hr => (hR r hr).2.2.1) (by decide) hH
      have hσ : okS (rvM (F 55) R 0 0 false (fun r => F 55 (145 + r)) V) (stM (F 55) H) 900 := stM_ok rfl b6 hR
      have hM : MWr (rvM (F 55) R 0 0 false (fun r => F 55 (145 + r)) V) (F 55) 0 (-1) (I 69) 0 0 := MWr_of p1 b1 b7 ⟨fun _ => rfl, fun _ => rfl⟩ hH (fun c hc => ⟨(hV c hc).2.2.1, left0 (by omega) (hV c hc).2.2.2.2.1⟩)
      refine C_begin b1 b7 (fun r hr => ?_) (fun c hc => ⟨ad c, (hV c hc).1, (hV c hc).2.1⟩) (fun tb tm th tl to tw sl sb sw tc g1 g2 g3 g4 => ?_) _ _ _ _ _ _ _ _ _ _ _ _ _ _ _ _ _ _
      · rw [(hR r hr).1.2.2.2.2.2]; exact (hR r hr).2.2.2.2
      have hbk : ∀ r, r < R → tb r = rB (rvM (F 55) R 0 0 false (fun r => F 55 (145 + r)) V) r := fun r hr => by rw [(g1 r (by omega)).1, (hR r hr).1.2.1, rB_0 (hR r hr).2.2.1.2]
      have hml : ∀ r, r < R → tm r = rM (rvM (F 55) R 0 0 false (fun r => F 55 (145 + r)) V) r := fun r hr => (g1 r (by omega)).2.trans (hR r hr).1.2.2.1
      have hCK : CKr (rvM (F 55) R 0 0 false (fun r => F 55 (145 + r)) V) 0 tc ce cin := CKr_of b1 b7 hH (fun r hr => by
        obtain ⟨k1, k2⟩ := g3 r hr
        have e := (hR r hr).1.2.2.2.2.2
        exact ⟨fun h => k1 (e.trans h), fun c hc h => ⟨ad c, (k2 c hc (e.trans h)).trans (hV c hc).1, (hV c hc).2.1, (hV c hc).2.2.2.2.2.1⟩⟩)
      have hu : ((0 : Int32) = 0 ↔ rU (rvM (F 55) R 0 0 false (fun r => F 55 (145 + r)) V) = false) := ⟨fun _ => rfl, fun _ => rfl⟩
      have s0 : ∀ r, r < R → sl r = sL (stM (F 55) H) r ∧ sb r = sB (stM (F 55) H) r ∧ sw r = sW (stM (F 55) H) r := fun r hr => ⟨(g2 r (by omega)).1.trans (hR r hr).1.1, (g2 r (by omega)).2.1.trans (hR r hr).1.2.2.2.1, (g2 r (by omega)).2.2.trans (hR r hr).1.2.2.2.2.1⟩
      -- hidden
      obtain ⟨ρ, eρ⟩ : ∃ ρ, ρ = rvM (F 55) R 0 0 false (fun r => F 55 (145 + r)) V := ⟨_, rfl⟩
      have eR : rR ρ = R := by rw [eρ]; rfl
      rw [← eρ] at hok hσ hM hbk hml hCK hu
      have z123 : ∀ k, k ≤ N → ∀ r, R ≤ r → r < 3 → F 55 (130 + r) = 0 := fun _ _ => hZ
      -- the model's answer
      have mo : ∀ (r1 : Int32), r1 = (if x = 0 then ruO ρ (stM (F 55) H) (F 8) N else if x = 1 then ruD ρ (stM (F 55) H) (F 8) N else (if 0 < R then sL (ruS ρ (stM (F 55) H) (F 8) N) 0 else 0) + (if 1 < R then sL (ruS ρ (stM (F 55) H) (F 8) N) 1 else 0) + (if 2 < R then sL (ruS ρ (stM (F 55) H) (F 8) N) 2 else 0)) → ∀ (KK : Int32 → Int32 → Int32 → Fn → Fn → Fn → Fn → Fn → Prop), (∀ a1 a2 a3 f1 f2 f3 f4 f5, KK a1 a2 a3 f1 f2 f3 f4 f5) → WX11_run x (I 66) (I 67) (I 68) (I 69) (I 70) (I 71) (I 72) (I 73) (F 55) (F 60) (F 61) (F 62) (F 63) (F 64) (fun r2 a1 a2 a3 f1 f2 f3 f4 f5 => ((r1 = r2 → KK a1 a2 a3 f1 f2 f3 f4 f5) ∧ (¬ (r1 = r2) → False))) := by
        intro r1 hr1 KK hk
        unfold WX11_run WX11_in
        rw [m1, m2, m3, m4]
        refine br_f d1 (br_f (by grind) (br_f (by decide) (M_isRiver p1 b1 (fun z2 => absurd z2 (by omega)) (fun _ => br_f (by decide) (M_takes (stM_MS p5) (fun l bo wy kl kb kw => ?_) _ _ _ _)))))
        suffices g : ∀ (n k : Nat) (o d ov dy : Int32) (l bo wy nx tr : Fn), k ≤ N → N < n + k → o = ruO ρ (stM (F 55) H) (F 8) k → d = ruD ρ (stM (F 55) H) (F 8) k → (∀ r, r < rR ρ → l r = sL (ruS ρ (stM (F 55) H) (F 8) k) r) → (∀ r, r < rR ρ → bo r = sB (ruS ρ (stM (F 55) H) (F 8) k) r) → (∀ r, r < rR ρ → wy r = sW (ruS ρ (stM (F 55) H) (F 8) k) r) → (∀ r, R ≤ r → r < 3 → l r = 0) → WX11_run_34 x 0 (-1) (I 69) 0 0 (F 55) (fun r2 a1 a2 a3 f1 f2 f3 f4 f5 => ((r1 = r2 → KK a1 a2 a3 f1 f2 f3 f4 f5) ∧ (¬ (r1 = r2) → False))) n o d (nI k) (nI (sH (ruS ρ (stM (F 55) H) (F 8) k))) ov dy l bo wy nx tr from
          ⟨11, g 11 0 _ _ _ _ _ _ _ _ _ (by omega) (by omega) rfl rfl (fun r hr => kl r (by omega)) (fun r hr => kb r (by omega)) (fun r hr => kw r (by omega)) (fun r h1 h2 => (kl r h2).trans (hZ r h1 h2))⟩
        intro n
        induction n with
        | zero => intro k o d ov dy l bo wy nx tr h1 h2; omega
        | succ n ih =>
          intro k o d ov dy l bo wy nx tr hkN hn ho hd hl hbo hwy hz
          unfold WX11_run_34
          rw [show F 55 (6 : Int32).toNatClampNeg = nI N from p7]
          by_cases ck : N ≤ k
          · have e : k = N := by omega
            subst e
            refine br_t (nI_le ck (by omega)) ?_
            unfold WX11_run_129
            refine br_c (fun c => same_K ?_ (hk _ _ _ _ _ _ _ _)) (fun c => br_c (fun c2 => same_K ?_ (hk _ _ _ _ _ _ _ _)) (fun c2 => same_K ?_ (hk _ _ _ _ _ _ _ _)))
            · rw [hr1, if_pos c, ho]
            · rw [hr1, if_neg c, if_pos c2, hd]
            · rw [hr1, if_neg c, if_neg c2]
              have el : ∀ i, i < 3 → l i = (if i < R then sL (ruS ρ (stM (F 55) H) (F 8) k) i else 0) := by
                intro i hi3
                by_cases ci : i < R
                · rw [if_pos ci]; exact hl i (by omega)
                · rw [if_neg ci]; exact hz i (by omega) hi3
              show _ = l 0 + l 1 + l 2
              rw [el 0 (by decide), el 1 (by decide), el 2 (by decide)]
          · obtain ⟨t1, bb, hb8, ebb⟩ := hN k (by omega)
            refine br_f (nI_ge (by omega) (by omega)) ?_
            rw [show (148 : Int32) + nI k = nI (148 + k) by rw [← nI_add]; rfl, nI_clamp (by omega), ← t1]
            have hsk := ruS_ok (td := F 8) hok hσ k
            refine ⟨vp_in_nI (by omega) (by decide), M_hourGoes (a := F 8 k) hM hok (by have := hsk.1; omega) hl hbo hwy (fun nx wy' lv' bo' tr' c1 c2 c3 c4 => ?_) _ _ _ _⟩
            have e10 : ∀ q : Nat, (10 : Int32) * nI k + nI q = nI (10 * k + q) := by intro q; rw [← nI_add, ← pk_mul]; rfl
            obtain ⟨-, jo, hjo, ejo⟩ := hOv_bits ρ (ruS ρ (stM (F 55) H) (F 8) k) (F 8 k) (rR ρ) (by omega)
            obtain ⟨jd, hjd, ejd⟩ := hDr_bits ρ (ruS ρ (stM (F 55) H) (F 8) k) (F 8 k) (rR ρ) (by omega)
            have h8 := P8 hok.2.1
            have f122 : ∀ o' d', o' = ruO ρ (stM (F 55) H) (F 8) (k + 1) → d' = ruD ρ (stM (F 55) H) (F 8) (k + 1) → WX11_run_122 x 0 (-1) (I 69) 0 0 (F 55) o' (nI k) d' (nI (sH (ruS ρ (stM (F 55) H) (F 8) k) + 1)) (hOv ρ (ruS ρ (stM (F 55) H) (F 8) k) (F 8 k) (rR ρ)) (hDr ρ (ruS ρ (stM (F 55) H) (F 8) k) (F 8 k) (rR ρ)) lv' bo' wy' nx tr' (fun r2 a1 a2 a3 f1 f2 f3 f4 f5 => ((r1 = r2 → KK a1 a2 a3 f1 f2 f3 f4 f5) ∧ (¬ (r1 = r2) → False))) (WX11_run_34 x 0 (-1) (I 69) 0 0 (F 55) (fun r2 a1 a2 a3 f1 f2 f3 f4 f5 => ((r1 = r2 → KK a1 a2 a3 f1 f2 f3 f4 f5) ∧ (¬ (r1 = r2) → False))) n) := by
              intro o' d' h1 h2
              unfold WX11_run_122
              rintro _ rfl
              rw [nI_1]
              exact ih (k + 1) _ _ _ _ _ _ _ _ _ (by omega) (by omega) h1 h2 c1 c2 c3 (fun r h1 h2 => (c4 r (by omega)).trans (hz r h1 h2))
            have f91 : ∀ o', o' = ruO ρ (stM (F 55) H) (F 8) (k + 1) → WX11_run_91 x 0 (-1) (I 69) 0 0 (F 55) d (nI k) o' (nI (sH (ruS ρ (stM (F 55) H) (F 8) k) + 1)) (hOv ρ (ruS ρ (stM (F 55) H) (F 8) k) (F 8 k) (rR ρ)) (hDr ρ (ruS ρ (stM (F 55) H) (F 8) k) (F 8 k) (rR ρ)) lv' bo' wy' nx tr' (fun r2 a1 a2 a3 f1 f2 f3 f4 f5 => ((r1 = r2 → KK a1 a2 a3 f1 f2 f3 f4 f5) ∧ (¬ (r1 = r2) → False))) (WX11_run_34 x 0 (-1) (I 69) 0 0 (F 55) (fun r2 a1 a2 a3 f1 f2 f3 f4 f5 => ((r1 = r2 → KK a1 a2 a3 f1 f2 f3 f4 f5) ∧ (¬ (r1 = r2) → False))) n) := by
              intro o' h1
              unfold WX11_run_91
              refine br_c (fun c => br_c (fun c2 => ?_) (fun c2 => ?_)) (fun c => ?_)
              · unfold WX11_run_121
                refine f122 _ _ h1 ?_
                rw [ruD, if_neg (fun zz => zz.2 c2)]; exact hd
              · have hne : hDr ρ (ruS ρ (stM (F 55) H) (F 8) k) (F 8 k) (rR ρ) ≠ 0 := c2
                have f := f122 o' (nI (10 * k + low jd)) h1 (by rw [ruD, if_pos ⟨by rw [← hd]; exact c, hne⟩, ejd, nI_clamp (by omega)])
                rw [ejd] at f ⊢
                refine M_least (by omega) ?_
                rw [e10]; exact f
              · unfold WX11_run_121
                refine f122 _ _ h1 ?_
                rw [ruD, if_neg (fun zz => c (by rw [hd]; exact zz.1))]; exact hd
            refine br_c (fun c => br_c (fun c2 => ?_) (fun c2 => ?_)) (fun c => ?_)
            · unfold WX11_run_90
              refine f91 _ ?_
              rw [ruO, if_neg (fun zz => zz.2 c2)]; exact ho
            · have hne : hOv ρ (ruS ρ (stM (F 55) H) (F 8) k) (F 8 k) (rR ρ) ≠ 0 := c2
              have f := f91 (nI (10 * k + low jo)) (by rw [ruO, if_pos ⟨by rw [← ho]; exact c, hne⟩, ejo, nI_clamp (by omega)])
              rw [ejo] at f ⊢
              refine M_least (by omega) ?_
              rw [e10]; exact f
            · unfold WX11_run_90
              refine f91 _ ?_
              rw [ruO, if_neg (fun zz => c (by rw [ho]; exact zz.1))]; exact ho
      -- the program
      suffices g : ∀ (n k : Nat) (o d nh s1 s2 s3 s4 : Int32) (sl sb sw nb np nl nw : Fn), k ≤ N → N < n + k → o = ruO ρ (stM (F 55) H) (F 8) k → d = ruD ρ (stM (F 55) H) (F 8) k → (∀ r, r < rR ρ → sl r = sL (ruS ρ (stM (F 55) H) (F 8) k) r) → (∀ r, r < rR ρ → sb r = sB (ruS ρ (stM (F 55) H) (F 8) k) r) → (∀ r, r < rR ρ → sw r = sW (ruS ρ (stM (F 55) H) (F 8) k) r) → WX10_run_41 x (nI C) (nI N) (nI R) (nI P) (nI S) (I 7) (F 1) (F 2) (F 3) (nI H) (F 4) (F 5) (F 6) (G 0) (F 8) ce cin _ n o d (nI k) 0 0 (nI R) (nI P) (nI S) (I 7) tb tm th (nI H) tl to tw (nI (sH (ruS ρ (stM (F 55) H) (F 8) k))) sl sb sw tc nh s1 s2 s3 s4 nb np nl nw from
        ⟨11, g 11 0 _ _ _ _ _ _ _ _ _ _ _ _ _ _ (by omega) (by omega) rfl rfl (fun r hr => (s0 r (by omega)).1) (fun r hr => (s0 r (by omega)).2.1) (fun r hr => (s0 r (by omega)).2.2)⟩
      intro n
      induction n with
      | zero => intro k o d nh s1 s2 s3 s4 sl sb sw nb np nl nw h1 h2; omega
      | succ n ih =>
        intro k o d nh s1 s2 s3 s4 sl sb sw nb np nl nw hkN hn ho hd hl hbo hwy
        unfold WX10_run_41
        by_cases ck : N ≤ k
        · have e : k = N := by omega
          subst e
          refine br_t (nI_le ck (by omega)) ?_
          unfold WX10_run_153
          refine br_c (fun c => ⟨v1, mo _ (by rw [if_pos c, ho]) _ (fun _ _ _ _ _ _ _ _ => hK _ _ _ _ _ hi)⟩) (fun c => br_c (fun c2 => ⟨v1, mo _ (by rw [if_neg c, if_pos c2, hd]) _ (fun _ _ _ _ _ _ _ _ => hK _ _ _ _ _ hi)⟩) (fun c2 => ?_))
          have hs := C_sum (ρ := ρ) (σ := ruS ρ (stM (F 55) H) (F 8) k) (lv := sl) hok.2.1 hl (Q := fun r26 => vp_in (x3 + 1) L ∧ WX11_run x (I 66) (I 67) (I 68) (I 69) (I 70) (I 71) (I 72) (I 73) (F 55) (F 60) (F 61) (F 62) (F 63) (F 64) (fun r2 a1 a2 a3 f1 f2 f3 f4 f5 => ((r26 = r2 → K (va_up (va_up (va_up (va_up (va_up (va_up (va_up (va_up (va_up (va_up (va_up (va_up (va_up (va_up (va_up (va_up I 33 0) 34 0) 36 (nI R)) 37 (nI P)) 38 (nI S)) 39 (I 7)) 40 (nI H)) 46 (nI (sH (ruS ρ (stM (F 55) H) (F 8) k)))) 48 nh) 42 s1) 43 s2) 44 s3) 45 s4) 66 a1) 72 a2) 73 a3) (va_up (va_up (va_up (va_up (va_up (va_up (va_up (va_up (va_up (va_up (va_up (va_up (va_up (va_up (va_up (va_up (va_up (va_up F 31 tb) 32 tm) 33 th) 34 tl) 35 to) 36 tw) 38 sl) 39 sb) 40 sw) 43 nb) 45 np) 42 nl) 44 nw) 60 f1) 61 f2) 62 f3) 63 f4) 64 f5) (va_up G 2 tc) ce cin) ∧ (¬ (r26 = r2) → False)))) (by rw [eR]; exact ⟨v1, mo _ (by rw [if_neg c, if_neg c2]) _ (fun _ _ _ _ _ _ _ _ => hK _ _ _ _ _ hi)⟩)
          rw [eR] at hs
          exact hs
        · refine br_f (nI_ge (by omega) (by omega)) (br_f (nI_ge (b := 10) (by omega) (by decide)) ⟨vp_in_nI (by omega) (by decide), ?_⟩)
          rw [nI_clamp (by omega)]
          have hsk := ruS_ok (td := F 8) hok hσ k
          have e10 : ∀ q : Nat, nI k * (10 : Int32) + nI q = nI (10 * k + q) := by intro q; rw [li_10, pk_mul, nI_add]; congr 1; omega
          obtain ⟨-, jo, hjo, ejo⟩ := hOv_bits ρ (ruS ρ (stM (F 55) H) (F 8) k) (F 8 k) (rR ρ) (by omega)
          obtain ⟨jd, hjd, ejd⟩ := hDr_bits ρ (ruS ρ (stM (F 55) H) (F 8) k) (F 8 k) (rR ρ) (by omega)
          have h8 := P8 hok.2.1
          have gb := fun Q' hQ' => C_goesBy ρ (ruS ρ (stM (F 55) H) (F 8) k) (F 8 k) (Q := Q') hok (okS_mono hsk (by omega)) hu (fun r hr => hbk r (by omega)) hl hbo hwy hCK hQ' nh s1 s2 s3 s4 nb np nl nw
          rw [eR] at gb
          refine gb _ (fun nh s1 s2 s3 s4 sb sl nb np sw nl nw kl kb kw => ?_)
          have gd := fun Q' hQ' => C_dry ρ (ruS ρ (stM (F 55) H) (F 8) k) (F 8 k) (lv := sl) (ml := tm) (Q := Q') hok.2.1 (fun r hr => kl r (by omega)) (fun r hr => hml r (by omega)) hQ'
          rw [eR] at gd
          refine gd _ ?_
          have kl' : ∀ r, r < rR ρ → sl r = sL (hGo ρ (ruS ρ (stM (F 55) H) (F 8) k) (F 8 k)) r := fun r hr => kl r (by omega)
          have kb' : ∀ r, r < rR ρ → sb r = sB (hGo ρ (ruS ρ (stM (F 55) H) (F 8) k) (F 8 k)) r := fun r hr => kb r (by omega)
          have kw' : ∀ r, r < rR ρ → sw r = sW (hGo ρ (ruS ρ (stM (F 55) H) (F 8) k) (F 8 k)) r := fun r hr => kw r (by omega)
          refine br_c (fun c => br_c (fun c2 => ?_) (fun c2 => ?_)) (fun c => ?_)
          · have eo : o = ruO ρ (stM (F 55) H) (F 8) (k + 1) := by rw [ruO, if_neg (fun zz => zz.2 (by rw [eR]; exact c2))]; exact ho
            unfold WX10_run_124
            refine br_c (fun e => br_c (fun e2 => ?_) (fun e2 => ?_)) (fun e => ?_)
            · unfold WX10_run_147
              rintro _ rfl
              rw [nI_1]
              exact ih (k + 1) _ _ _ _ _ _ _ _ _ _ _ _ _ _ (by omega) (by omega) eo (by rw [ruD, if_neg (fun zz => zz.2 (by rw [eR]; exact e2))]; exact hd) kl' kb' kw'
            · have hne : hDr ρ (ruS ρ (stM (F 55) H) (F 8) k) (F 8 k) (rR ρ) ≠ 0 := by rw [eR]; exact e2
              have ed : ruD ρ (stM (F 55) H) (F 8) (k + 1) = nI (10 * k + low jd) := by rw [ruD, if_pos ⟨by rw [← hd]; exact e, hne⟩, ejd, nI_clamp (by omega)]
              have ejd' := ejd
              rw [eR] at ejd'
              rw [ejd']
              refine C_low (by omega) (fun zz => hne (by rw [ejd, zz]; rfl)) ?_
              rw [e10]
              rintro _ rfl
              unfold WX10_run_147
              rintro _ rfl
              rw [nI_1]
              exact ih (k + 1) _ _ _ _ _ _ _ _ _ _ _ _ _ _ (by omega) (by omega) eo ed.symm kl' kb' kw'
            · unfold WX10_run_147
              rintro _ rfl
              rw [nI_1]
              exact ih (k + 1) _ _ _ _ _ _ _ _ _ _ _ _ _ _ (by omega) (by omega) eo (by rw [ruD, if_neg (fun zz => e (by rw [hd]; exact zz.1))]; exact hd) kl' kb' kw'
          · have hne : hOv ρ (ruS ρ (stM (F 55) H) (F 8) k) (F 8 k) (rR ρ) ≠ 0 := by rw [eR]; exact c2
            have eo : nI (10 * k + low jo) = ruO ρ (stM (F 55) H) (F 8) (k + 1) := by rw [ruO, if_pos ⟨by rw [← ho]; exact c, hne⟩, ejo, nI_clamp (by omega)]
            have ejo' := ejo
            rw [eR] at ejo'
            rw [ejo']
            refine C_low (by omega) (fun zz => hne (by rw [ejo, zz]; rfl)) ?_
            rw [e10]
            rintro _ rfl
            unfold WX10_run_124
            refine br_c (fun e => br_c (fun e2 => ?_) (fun e2 => ?_)) (fun e => ?_)
            · unfold WX10_run_147
              rintro _ rfl
              rw [nI_1]
              exact ih (k + 1) _ _ _ _ _ _ _ _ _ _ _ _ _ _ (by omega) (by omega) eo (by rw [ruD, if_neg (fun zz => zz.2 (by rw [eR]; exact e2))]; exact hd) kl' kb' kw'
            · have hne : hDr ρ (ruS ρ (stM (F 55) H) (F 8) k) (F 8 k) (rR ρ) ≠ 0 := by rw [eR]; exact e2
              have ed : ruD ρ (stM (F 55) H) (F 8) (k + 1) = nI (10 * k + low jd) := by rw [ruD, if_pos ⟨by rw [← hd]; exact e, hne⟩, ejd, nI_clamp (by omega)]
              have ejd' := ejd
              rw [eR] at ejd'
              rw [ejd']
              refine C_low (by omega) (fun zz => hne (by rw [ejd, zz]; rfl)) ?_
              rw [e10]
              rintro _ rfl
              unfold WX10_run_147
              rintro _ rfl
              rw [nI_1]
              exact ih (k + 1) _ _ _ _ _ _ _ _ _ _ _ _ _ _ (by omega) (by omega) eo ed.symm kl' kb' kw'
            · unfold WX10_run_147
              rintro _ rfl
              rw [nI_1]
              exact ih (k + 1) _ _ _ _ _ _ _ _ _ _ _ _ _ _ (by omega) (by omega) eo (by rw [ruD, if_neg (fun zz => e (by rw [hd]; exact zz.1))]; exact hd) kl' kb' kw'
          · have eo : o = ruO ρ (stM (F 55) H) (F 8) (k + 1) := by rw [ruO, if_neg (fun zz => c (by rw [ho]; exact zz.1))]; exact ho
            unfold WX10_run_124
            refine br_c (fun e => br_c (fun e2 => ?_) (fun e2 => ?_)) (fun e => ?_)
            · unfold WX10_run_147
              rintro _ rfl
              rw [nI_1]
              exact ih (k + 1) _ _ _ _ _ _ _ _ _ _ _ _ _ _ (by omega) (by omega) eo (by rw [ruD, if_neg (fun zz => zz.2 (by rw [eR]; exact e2))]; exact hd) kl' kb' kw'
            · have hne : hDr ρ (ruS ρ (stM (F 55) H) (F 8) k) (F 8 k) (rR ρ) ≠ 0 := by rw [eR]; exact e2
              have ed : ruD ρ (stM (F 55) H) (F 8) (k + 1) = nI (10 * k + low jd) := by rw [ruD, if_pos ⟨by rw [← hd]; exact e, hne⟩, ejd, nI_clamp (by omega)]
              have ejd' := ejd
              rw [eR] at ejd'
              rw [ejd']
              refine C_low (by omega) (fun zz => hne (by rw [ejd, zz]; rfl)) ?_
              rw [e10]
              rintro _ rfl
              unfold WX10_run_147
              rintro _ rfl
              rw [nI_1]
              exact ih (k + 1) _ _ _ _ _ _ _ _ _ _ _ _ _ _ (by omega) (by omega) eo ed.symm kl' kb' kw'
            · unfold WX10_run_147
              rintro _ rfl
              rw [nI_1]
              exact ih (k + 1) _ _ _ _ _ _ _ _ _ _ _ _ _ _ (by omega) (by omega) eo (by rw [ruD, if_neg (fun zz => e (by rw [hd]; exact zz.1))]; exact hd) kl' kb' kw'
  · refine br_f d2 ⟨v1, ?_⟩
    unfold WX11_run WX11_in
    exact br_f d1 (br_t (by grind) (br_t rfl (same_K rfl (hK _ _ _ _ _ hi))))
