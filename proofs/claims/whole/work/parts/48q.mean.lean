/-! ===== by hand: mean ===== -/
set_option maxHeartbeats 4000000 in
theorem S_c19 {L : Nat} {xs : Fn} {x3 : Int32} {I F G ce cin} {K : KT} (hi : INV I F G ce cin) (v1 : vp_in (x3 + 1) L) (v2 : vp_in (x3 + 2) L) (v3 : vp_in (x3 + 3) L) (hK : ∀ I F G ce cin, INV I F G ce cin → K I F G ce cin) : WL_c19 L xs x3 I F G ce cin K := by
  obtain ⟨R, P, S, O, H, C, N, V, ad, ⟨q1, q2, q3, q4, q5, q6, q7⟩, ⟨p1, p2, p3, p4, p5, p6, p7⟩, ⟨b1, b2, b3, b4, b5, b6, b7, b8⟩, hR, hZ, hN, hV, hH⟩ := NOW hi.1
  obtain ⟨m1, m2, m3, m4⟩ := hi.2.2.1
  unfold WL_c19 WX10_mean
  generalize xs (x3 + 1).toNatClampNeg = x
  generalize xs (x3 + 2).toNatClampNeg = y
  generalize xs (x3 + 3).toNatClampNeg = wp
  rw [q1, q2, q3, q4, q5, q6, m1, m2, m3, m4]
  refine ⟨v1, v2, v3, ?_⟩
  have hT : ∀ r, r < R → F 3 r = -1 ∨ ∃ c, c < C ∧ F 3 r = nI c := fun r hr => by rw [(hR r hr).1.2.2.2.2.2]; exact (hR r hr).2.2.2.2
  have hT' : ∀ r, r < R → F 55 (145 + r) = -1 ∨ ∃ c, c < C ∧ F 55 (145 + r) = nI c := fun r hr => (hR r hr).2.2.2.2
  have had : ∀ q, q < C → cin (ad q) ∧ ct_number (ce (ad q)) = nI q := fun q hq => ⟨(hV q hq).2.1, (hV q hq).2.2.2.2.2.2⟩
  have hVc : ∀ q, q < C → cin (ad q) ∧ picC (V q) (ce (ad q)) := fun q hq => ⟨(hV q hq).2.1, (hV q hq).2.2.2.2.2.1⟩
  have hok : 1 ≤ R → ∀ W, okH R C (fun r => F 55 (145 + r)) W → okR (rvM (F 55) R 0 0 false (fun r => F 55 (145 + r)) W) := fun z W hW => rvM_ok z b1 b7 (fun r hr => (hR r hr).2.2.1) (by decide) hW
  have hσ : ∀ W, okS (rvM (F 55) R 0 0 false (fun r => F 55 (145 + r)) W) (stM (F 55) H) 900 := fun W => stM_ok rfl b6 hR
  have hbk : ∀ (tb tm : Fn) (W : Nat → CV), (∀ k, k < 3 → tb k = F 1 k ∧ tm k = F 2 k) → ∀ r, r < R → tb r = rB (rvM (F 55) R 0 0 false (fun r => F 55 (145 + r)) W) r := fun tb tm W g1 r hr => by rw [(g1 r (by omega)).1, (hR r hr).1.2.1, rB_0 (hR r hr).2.2.1.2]
  have hu : ((0 : Int32) = 0 ↔ false = false) := ⟨fun _ => rfl, fun _ => rfl⟩
  have mno : (x < 1 ∨ 3 < x ∨ y < 0 ∨ 1 < y ∨ wp < 0 ∨ 1 < wp ∨ R = 0) → ∀ (Q : Int64 → Int32 → Int32 → Int32 → Fn → Fn → Fn → Fn → Fn → Prop), (∀ h o d f1 f2 f3 f4 f5, Q (-9223372036854775808) h o d f1 f2 f3 f4 f5) → WX11_mean x y wp (I 66) 0 (-1) (I 69) 0 0 (I 72) (I 73) (F 55) (F 60) (F 61) (F 62) (F 63) (F 64) Q := by
    intro hno Q hQ
    unfold WX11_mean WX11_in
    by_cases d1 : x < 1
    · exact br_t d1 (br_t rfl (hQ _ _ _ _ _ _ _ _))
    refine br_f d1 ?_
    by_cases d2 : 3 < x
    · exact br_t d2 (br_t rfl (hQ _ _ _ _ _ _ _ _))
    refine br_f d2 (br_f (by decide) ?_)
    by_cases d3 : y < 0
    · exact br_t d3 (br_t rfl (hQ _ _ _ _ _ _ _ _))
    refine br_f d3 ?_
    by_cases d4 : 1 < y
    · exact br_t d4 (br_t rfl (hQ _ _ _ _ _ _ _ _))
    refine br_f d4 (br_f (by decide) ?_)
    by_cases d5 : wp < 0
    · exact br_t d5 (br_t rfl (hQ _ _ _ _ _ _ _ _))
    refine br_f d5 ?_
    by_cases d6 : 1 < wp
    · exact br_t d6 (br_t rfl (hQ _ _ _ _ _ _ _ _))
    refine br_f d6 (br_f (by decide) ?_)
    have hR0 : R = 0 := (((((hno.resolve_left d1).resolve_left d2).resolve_left d3).resolve_left d4).resolve_left d5).resolve_left d6
    exact M_isRiver p1 b1 (fun _ => br_t rfl (hQ _ _ _ _ _ _ _ _)) (fun z => absurd z (by omega))
  by_cases d1 : x < 1
  · exact br_t d1 ⟨v1, v2, v3, mno (Or.inl d1) _ (fun _ _ _ _ _ _ _ _ => ⟨fun _ => hK _ _ _ _ _ hi, fun z => (z ((lg_cmp_eq _ _).mpr rfl)).elim⟩)⟩
  refine br_f d1 ?_
  by_cases d2 : 3 < x
  · exact br_t d2 ⟨v1, v2, v3, mno (Or.inr (Or.inl d2)) _ (fun _ _ _ _ _ _ _ _ => ⟨fun _ => hK _ _ _ _ _ hi, fun z => (z ((lg_cmp_eq _ _).mpr rfl)).elim⟩)⟩
  refine br_f d2 ?_
  by_cases d3 : y < 0
  · exact br_t d3 ⟨v1, v2, v3, mno (Or.inr (Or.inr (Or.inl d3))) _ (fun _ _ _ _ _ _ _ _ => ⟨fun _ => hK _ _ _ _ _ hi, fun z => (z ((lg_cmp_eq _ _).mpr rfl)).elim⟩)⟩
  refine br_f d3 ?_
  by_cases d4 : 1 < y
  · exact br_t d4 ⟨v1, v2, v3, mno (Or.inr (Or.inr (Or.inr (Or.inl d4)))) _ (fun _ _ _ _ _ _ _ _ => ⟨fun _ => hK _ _ _ _ _ hi, fun z => (z ((lg_cmp_eq _ _).mpr rfl)).elim⟩)⟩
  refine br_f d4 ?_
  by_cases d5 : wp < 0
  · exact br_t d5 ⟨v1, v2, v3, mno (Or.inr (Or.inr (Or.inr (Or.inr (Or.inl d5))))) _ (fun _ _ _ _ _ _ _ _ => ⟨fun _ => hK _ _ _ _ _ hi, fun z => (z ((lg_cmp_eq _ _).mpr rfl)).elim⟩)⟩
  refine br_f d5 ?_
  by_cases d6 : wp ≤ 1
  · refine br_t d6 (C_isRiver b1 (fun z => br_t rfl ⟨v1, v2, v3, mno (Or.inr (Or.inr (Or.inr (Or.inr (Or.inr (Or.inr z)))))) _ (fun _ _ _ _ _ _ _ _ => ⟨fun _ => hK _ _ _ _ _ hi, fun z => (z ((lg_cmp_eq _ _).mpr rfl)).elim⟩)⟩) (fun z => br_f (by decide) ?_))
    obtain ⟨n, hn, rfl⟩ : ∃ n : Nat, n ≤ 3 ∧ x = nI n := nI_of2 (M := 3) (n := 3) rfl (by grind) (by grind)
    have hn1 : 1 ≤ n := by
      rcases Nat.eq_zero_or_pos n with h | h
      · subst h; exact absurd (by decide) d1
      · exact h
    have hy01 : y = 0 ∨ y = 1 := by
      obtain ⟨k, hk, rfl⟩ : ∃ n : Nat, n ≤ 1 ∧ y = nI n := nI_of2 (M := 1) (n := 1) rfl d3 (by grind)
      rcases (show k = 0 ∨ k = 1 by omega) with rfl | rfl
      · exact Or.inl rfl
      · exact Or.inr rfl
    have hO : O < 10 := by omega
    obtain ⟨co, hco⟩ : ∃ co : St → Nat → Prop, (y = 0 ∧ ∀ σ k, co σ k ↔ hOv (rvM (F 55) R 0 0 false (fun r => F 55 (145 + r)) V) σ (nI k) (rR (rvM (F 55) R 0 0 false (fun r => F 55 (145 + r)) V)) ≠ 0) ∨ (y ≠ 0 ∧ ∀ σ k, co σ k ↔ hDr (rvM (F 55) R 0 0 false (fun r => F 55 (145 + r)) V) σ (nI k) (rR (rvM (F 55) R 0 0 false (fun r => F 55 (145 + r)) V)) ≠ 0) := by
      by_cases c : y = 0
      · exact ⟨fun σ k => hOv (rvM (F 55) R 0 0 false (fun r => F 55 (145 + r)) V) σ (nI k) (rR (rvM (F 55) R 0 0 false (fun r => F 55 (145 + r)) V)) ≠ 0, Or.inl ⟨c, fun _ _ => Iff.rfl⟩⟩
      · exact ⟨fun σ k => hDr (rvM (F 55) R 0 0 false (fun r => F 55 (145 + r)) V) σ (nI k) (rR (rvM (F 55) R 0 0 false (fun r => F 55 (145 + r)) V)) ≠ 0, Or.inr ⟨c, fun _ _ => Iff.rfl⟩⟩
    obtain ⟨hd1, hd9⟩ := pow10 b1 hn
    have hu' : WG (rvM (F 55) R 0 0 false (fun r => F 55 (145 + r)) V) O co n (stM (F 55) H) ≤ 10 ^ (R * n) := WG_le (ρ := (rvM (F 55) R 0 0 false (fun r => F 55 (145 + r)) V)) (co := co) hO b1 n (stM (F 55) H)
    obtain ⟨A, eA⟩ : ∃ A, A = WG (rvM (F 55) R 0 0 false (fun r => F 55 (145 + r)) V) O co n (stM (F 55) H) := ⟨_, rfl⟩
    obtain ⟨D, eD⟩ : ∃ D, D = 10 ^ (R * n) := ⟨_, rfl⟩
    rw [← eA, ← eD] at hu'
    rw [← eD] at hd1 hd9
    have hg : Nat.gcd A D ≤ D := Nat.gcd_le_right _ (by omega)
    have hg1 : 0 < Nat.gcd A D := Nat.gcd_pos_of_pos_right _ (by omega)
    -- the model
    have mo : ∀ (Q : Int64 → Int32 → Int32 → Int32 → Fn → Fn → Fn → Fn → Fn → Prop), (∀ h o d f1 f2 f3 f4 f5, Q (if wp = 0 then lN A / lN (Nat.gcd A D) else lN D / lN (Nat.gcd A D)) h o d f1 f2 f3 f4 f5) → WX11_mean (nI n) y wp (I 66) 0 (-1) (I 69) 0 0 (I 72) (I 73) (F 55) (F 60) (F 61) (F 62) (F 63) (F 64) Q := by
      intro Q hQ
      unfold WX11_mean WX11_in
      refine br_f d1 (br_f d2 (br_f (by decide) (br_f d3 (br_f d4 (br_f (by decide) (br_f d5 (br_f (by grind) (br_f (by decide) (M_isRiver p1 b1 (fun z2 => absurd z2 (by omega)) (fun _ => br_f (by decide) ?_))))))))))
      rw [eA, eD] at hQ
      exact M_mean (ρ := (rvM (F 55) R 0 0 false (fun r => F 55 (145 + r)) V)) (σ := stM (F 55) H) (co := co) (MWr_of p1 b1 b7 hu hH (fun c hc => ⟨(hV c hc).2.2.1, left0 (by omega) (hV c hc).2.2.2.2.1⟩)) (hok z _ hH) (hσ _) (stM_MS p5) p4 hO hn1 hn hco hQ _ _ _ _ _ _ _ _
    refine C_begin b1 b7 hT (fun c hc => ⟨ad c, (hV c hc).1, (hV c hc).2.1⟩) (fun tb tm th tl to tw sl sb sw tc g1 g2 g3 g4 => ?_) _ _ _ _ _ _ _ _ _ _ _ _ _ _ _ _ _ _
    have hck : CKr (rvM (F 55) R 0 0 false (fun r => F 55 (145 + r)) V) 0 tc ce cin := CKr_of b1 b7 hH (fun r hr => by
      obtain ⟨k1, k2⟩ := g3 r hr
      have e := (hR r hr).1.2.2.2.2.2
      exact ⟨fun h => k1 (e.trans h), fun q hq h => ⟨ad q, (k2 q hq (e.trans h)).trans (hV q hq).1, hVc q hq⟩⟩)
    have hml : ∀ r, r < R → tm r = rM (rvM (F 55) R 0 0 false (fun r => F 55 (145 + r)) V) r := fun r hr => (g1 r (by omega)).2.trans (hR r hr).1.2.2.1
    have wl1 : ∀ r, r < R → sl r = F 55 (130 + r) := fun r hr => (g2 r (Nat.lt_of_lt_of_le hr b1)).1.trans (hR r hr).1.1
    have wl2 : ∀ r, r < R → sb r = F 55 (139 + r) := fun r hr => (g2 r (Nat.lt_of_lt_of_le hr b1)).2.1.trans (hR r hr).1.2.2.2.1
    have wl3 : ∀ r, r < R → sw r = F 55 (142 + r) := fun r hr => (g2 r (Nat.lt_of_lt_of_le hr b1)).2.2.trans (hR r hr).1.2.2.2.2.1
    -- what both roads do
    have f69 : ∀ (tt : Int32) {Q : Int64 → Int32 → Int32 → Int32 → Int32 → Int32 → Int32 → Fn → Fn → Fn → Int32 → Fn → Fn → Fn → Int32 → Fn → Fn → Fn → (Nat → Option Nat) → Int32 → Int32 → Int32 → Int32 → Int32 → Fn → Fn → Fn → Fn → Int32 → Fn → Fn → Fn → Fn → Int32 → Fn → Fn → Fn → Fn → Prop}, ((tt = 0 ∧ ∀ σ k, co σ k ↔ hOv (rvM (F 55) R 0 0 false (fun r => F 55 (145 + r)) V) σ (nI k) (rR (rvM (F 55) R 0 0 false (fun r => F 55 (145 + r)) V)) ≠ 0) ∨ (tt ≠ 0 ∧ ∀ σ k, co σ k ↔ hDr (rvM (F 55) R 0 0 false (fun r => F 55 (145 + r)) V) σ (nI k) (rR (rvM (F 55) R 0 0 false (fun r => F 55 (145 + r)) V)) ≠ 0)) → (∀ (nh : Int32) (s1 : Int32) (s2 : Int32) (s3 : Int32) (s4 : Int32) (b : Fn) (p : Fn) (l : Fn) (w : Fn) (nh2 : Int32) (b2 : Fn) (p2 : Fn) (l2 : Fn) (w2 : Fn) (nh3 : Int32) (b3 : Fn) (p3 : Fn) (l3 : Fn) (w3 : Fn), Q (if wp = 0 then lN A / lN (Nat.gcd A D) else lN D / lN (Nat.gcd A D)) 0 0 (nI R) (nI P) (nI S) (nI O) tb tm th (nI H) tl to tw (nI H) sl sb sw tc nh s1 s2 s3 s4 b p l w nh2 b2 p2 l2 w2 nh3 b3 p3 l3 w3) → ∀ (nh : Int32) (s1 : Int32) (s2 : Int32) (s3 : Int32) (s4 : Int32) (b : Fn) (p : Fn) (l : Fn) (w : Fn) (nh2 : Int32) (b2 : Fn) (p2 : Fn) (l2 : Fn) (w2 : Fn) (nh3 : Int32) (b3 : Fn) (p3 : Fn) (l3 : Fn) (w3 : Fn), WX10_mean_69 (nI n) wp (nI C) (nI R) (nI P) (nI S) (nI O) (F 1) (F 2) (F 3) (nI H) (F 4) (F 5) (F 6) (G 0) ce cin (nI n) tt 0 0 (nI R) (nI P) (nI S) (nI O) tb tm th (nI H) tl to tw (nI H) sl sb sw tc nh s1 s2 s3 s4 b p l w nh2 b2 p2 l2 w2 nh3 b3 p3 l3 w3 Q := by
      intro tt Q htt hQ nh s1 s2 s3 s4 b p l w nh2 b2 p2 l2 w2 nh3 b3 p3 l3 w3
      unfold WX10_mean_69 WX7_weightOver
      refine C_weigh3 (rvM (F 55) R 0 0 false (fun r => F 55 (145 + r)) V) (co := co) hO htt (hok z _ hH) hu (hbk tb tm V g1) hml hck (stM (F 55) H) 900 n (hσ _) (by omega) hn wl1 wl2 wl3 (fun nh s1 s2 s3 s4 b p l w nh2 b2 p2 l2 w2 nh3 b3 p3 l3 w3 => ?_) _ _ _ _ _ _ _ _ _ _ _ _ _ _ _ _ _ _ _
      rw [pk_mul, Nat.mul_comm n R]
      refine C_pow (show R * n ≤ 9 from Nat.mul_le_mul b1 hn) ?_
      rw [← eA, ← eD]
      refine ⟨61, C_gcd 30 _ _ 0 61 (by omega) (by decide) (by omega) (by decide) (by decide) ?_⟩
      have hq := hQ nh s1 s2 s3 s4 b p l w nh2 b2 p2 l2 w2 nh3 b3 p3 l3 w3
      refine br_t ((lg_cmp_ge _ _).mpr ((pk_lLE (a := 1) (by decide) (by omega)).mpr hg1)) (br_c (fun c => ⟨ne0 (by omega) (by omega), ?_⟩) (fun c => ⟨ne0 (by omega) (by omega), ?_⟩))
      · rw [if_pos c] at hq; exact hq
      · rw [if_neg c] at hq; exact hq
    refine br_c (fun c => f69 1 ?_ (fun nh s1 s2 s3 s4 b p l w nh2 b2 p2 l2 w2 nh3 b3 p3 l3 w3 => ⟨v1, v2, v3, mo _ (fun h o d f1 f2 f3 f4 f5 => ⟨fun _ => hK _ _ _ _ _ hi, fun z => (z ((lg_cmp_eq _ _).mpr rfl)).elim⟩)⟩) _ _ _ _ _ _ _ _ _ _ _ _ _ _ _ _ _ _ _) (fun c => f69 0 ?_ (fun nh s1 s2 s3 s4 b p l w nh2 b2 p2 l2 w2 nh3 b3 p3 l3 w3 => ⟨v1, v2, v3, mo _ (fun h o d f1 f2 f3 f4 f5 => ⟨fun _ => hK _ _ _ _ _ hi, fun z => (z ((lg_cmp_eq _ _).mpr rfl)).elim⟩)⟩) _ _ _ _ _ _ _ _ _ _ _ _ _ _ _ _ _ _ _)
    · rcases hco with ⟨e, hco⟩ | ⟨e, hco⟩
      · rw [e] at c; exact absurd c (by decide)
      · exact Or.inr ⟨by decide, hco⟩
    · rcases hco with ⟨e, hco⟩ | ⟨e, hco⟩
      · exact Or.inl ⟨rfl, hco⟩
      · exact absurd (hy01.resolve_left e) c
  · exact br_f d6 ⟨v1, v2, v3, mno (Or.inr (Or.inr (Or.inr (Or.inr (Or.inr (Or.inl (by grind))))))) _ (fun _ _ _ _ _ _ _ _ => ⟨fun _ => hK _ _ _ _ _ hi, fun z => (z ((lg_cmp_eq _ _).mpr rfl)).elim⟩)⟩
